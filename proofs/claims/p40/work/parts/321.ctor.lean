/-! ===== constructors, over any memory ===== -/
section RNEW
variable {Γ : zCx} {R : Room} {cc : ByteArray} {nL : Nat} {own : String} {ad : zK → Nat} {M : zMem} {nc ns pc : Nat} {lv : List (Nat × Value)} {st : List Value}
theorem G_rI {N : Nat} {z : Int} (key : zK) (hd : decode cc pc = .ok (.newarray .int, 2)) (hk : M key = none) (hz : z = N) (hN : 0 ≤ z ∧ z ≤ 100000) (hR : nc + 1 ≤ R.cells ∧ ns + N ≤ R.slots)
    (kk : ∀ ad' : zK → Nat, (∀ k, k ≠ key → ad' k = ad k) → G Γ R cc nL own ad' (zup1 M key (some (.inl ((z_d Γ).2.1 0, N, .inl (zAi (fun _ => 0)))))) (nc + 1) (ns + N) (pc + 2) lv (.ref (ad' key) :: st)) : G Γ R cc nL own ad M nc ns pc lv (.int (zI z) :: st) :=
  G_newa key (atype := .int) (t := 0) (a0 := (N, .inl (zAi (fun _ => 0)))) (zAW_of 485 (by decide +kernel) (by decide +kernel)) rfl (fun _ _ h => h) rfl hd hk (fun cA => rfl) hz ⟨by omega, by omega⟩ (by show N * 4 ≤ _; omega) hR kk
theorem G_rZ {N : Nat} {z : Int} (key : zK) (hd : decode cc pc = .ok (.newarray .boolean, 2)) (hk : M key = none) (hz : z = N) (hN : 0 ≤ z ∧ z ≤ 100000) (hR : nc + 1 ≤ R.cells ∧ ns + N ≤ R.slots)
    (kk : ∀ ad' : zK → Nat, (∀ k, k ≠ key → ad' k = ad k) → G Γ R cc nL own ad' (zup1 M key (some (.inl ((z_d Γ).2.1 1, N, .inl (zAi (fun _ => 0)))))) (nc + 1) (ns + N) (pc + 2) lv (.ref (ad' key) :: st)) : G Γ R cc nL own ad M nc ns pc lv (.int (zI z) :: st) :=
  G_newa key (atype := .boolean) (t := 1) (a0 := (N, .inl (zAi (fun _ => 0)))) (zAW_of 514 (by decide +kernel) (by decide +kernel)) rfl (fun _ _ h => h) rfl hd hk (fun cA => rfl) hz ⟨by omega, by omega⟩ (by show N * 1 ≤ _; omega) hR kk
end RNEW
set_option maxHeartbeats 4000000 in
set_option maxRecDepth 100000 in
theorem c_X1_init {l : Launch} {Δ : zDl} {ad : zK → Nat} {M : zMem}  (h0 : M (1, 0, 0, 0) = some (.inr (2, [.null, .int (zI 0)]))) (h1 : M (2, 0, 0, 0) = none) : zMn l Δ yX1_init cX1_init 1 none 2 1 1000 [.ref (ad (1, 0, 0, 0))] ad M (fun v ad' M' => v = none ∧ (∀ k, ¬ (k = (1, 0, 0, 0) ∨ k = (2, 0, 0, 0)) → M' k = M k ∧ ad' k = ad k) ∧ M' (1, 0, 0, 0) = some (.inr (2, [.ref (ad' (2, 0, 0, 0)), .int (zI 0)])) ∧ M' (2, 0, 0, 0) = some (.inl (Δ.2.1 0, 1000, .inl (zAi (fun _ => 0)))) ∧ ad' (1, 0, 0, 0) = ad (1, 0, 0, 0)) := by
  refine zMn_of (by decide) (Nat.le_of_ble_eq_true rfl) (fun Γ hl hΔ hF => ?_)
  subst hl hΔ
  show G Γ _ _ _ RX1 _ _ _ _ _ [(0, .ref (ad (1, 0, 0, 0)))] []
  have fr0 : ∀ k, ¬ (k = (1, 0, 0, 0) ∨ k = (2, 0, 0, 0)) → M k = M k ∧ ad k = ad k := fun _ _ => ⟨rfl, rfl⟩
  refine G_aload_n (pc := 0) 0 0 dX1_init_0 rfl rfl ?_
  refine G_objInit (pc := 1) oi_X1_3 dX1_init_1 ⟨Nat.le_of_ble_eq_true rfl, Nat.le_of_ble_eq_true rfl⟩ ?_
  refine G_aload_n (pc := 4) 0 0 dX1_init_4 rfl rfl ?_
  refine G_sipush (pc := 5) dX1_init_5 (by decide) ?_
  refine G_rI (pc := 8) (N := 1000) (2, 0, 0, 0) dX1_init_8 h1 rfl ⟨by omega, by omega⟩ ⟨Nat.le_of_ble_eq_true rfl, Nat.le_of_ble_eq_true rfl⟩ (fun ad1 had1 => ?_)
  have e2_0 := had1 (1, 0, 0, 0) (by simp)
  rw [← e2_0]
  have sf2 : ad1 (1, 0, 0, 0) = ad (1, 0, 0, 0) := (had1 (1, 0, 0, 0) (by simp)).trans rfl
  have fr2 : ∀ k, ¬ (k = (1, 0, 0, 0) ∨ k = (2, 0, 0, 0)) → M k = M k ∧ ad1 k = ad k := fun k hk => ⟨(fr0 k hk).1, by rw [had1 k (fun q => hk (by simp [q]))] <;> exact (fr0 k hk).2⟩
  refine G_nm (fun M3 hM3 => ?_)
  have f3_0 : M3 (1, 0, 0, 0) = some (.inr (2, [.null, .int (zI 0)])) := by rw [hM3, zup1_n _ _ (by simp)]; exact h0
  have f3 : M3 (2, 0, 0, 0) = some (.inl ((z_d Γ).2.1 0, 1000, .inl (zAi (fun _ => 0)))) := by rw [hM3]; exact zup1_s _ _ _
  have fr3 : ∀ k, ¬ (k = (1, 0, 0, 0) ∨ k = (2, 0, 0, 0)) → M3 k = M k ∧ ad1 k = ad k := fun k hk => ⟨by rw [hM3, zup1_n _ _ (fun q => hk (by simp [q]))] <;> exact (fr2 k hk).1, (fr2 k hk).2⟩
  refine G_putF (pc := 10) fl_X1_11 ff_X1_11 hF.2.1 dX1_init_10 f3_0 (Nat.le_of_ble_eq_true rfl) rfl rfl rfl ?_
  refine G_nm (fun M4 hM4 => ?_)
  have f4_1 : M4 (2, 0, 0, 0) = some (.inl ((z_d Γ).2.1 0, 1000, .inl (zAi (fun _ => 0)))) := by rw [hM4, zup1_n _ _ (by simp)]; exact f3
  have f4 : M4 (1, 0, 0, 0) = some (.inr (2, [.ref (ad1 (2, 0, 0, 0)), .int (zI 0)])) := by rw [hM4]; exact zup1_s _ _ _
  have fr4 : ∀ k, ¬ (k = (1, 0, 0, 0) ∨ k = (2, 0, 0, 0)) → M4 k = M k ∧ ad1 k = ad k := fun k hk => ⟨by rw [hM4, zup1_n _ _ (fun q => hk (by simp [q]))] <;> exact (fr3 k hk).1, (fr3 k hk).2⟩
  refine G_aload_n (pc := 13) 0 0 dX1_init_13 rfl rfl ?_
  refine G_iconst (pc := 14) dX1_init_14 ?_
  refine G_putf (pc := 15) fl_X1_15 fp_X1_1 dX1_init_15 f4 (Nat.le_of_ble_eq_true rfl) rfl rfl rfl ?_
  refine G_nm (fun M5 hM5 => ?_)
  have f5_1 : M5 (2, 0, 0, 0) = some (.inl ((z_d Γ).2.1 0, 1000, .inl (zAi (fun _ => 0)))) := by rw [hM5, zup1_n _ _ (by simp)]; exact f4_1
  have f5 : M5 (1, 0, 0, 0) = some (.inr (2, [.ref (ad1 (2, 0, 0, 0)), .int (zI 0)])) := by rw [hM5]; exact zup1_s _ _ _
  have fr5 : ∀ k, ¬ (k = (1, 0, 0, 0) ∨ k = (2, 0, 0, 0)) → M5 k = M k ∧ ad1 k = ad k := fun k hk => ⟨by rw [hM5, zup1_n _ _ (fun q => hk (by simp [q]))] <;> exact (fr4 k hk).1, (fr4 k hk).2⟩
  exact G_vret (pc := 18) hF dX1_init_18 ⟨Nat.le_of_ble_eq_true rfl, Nat.le_of_ble_eq_true rfl⟩ ⟨rfl, fun k hk => fr5 k hk, f5, f5_1, sf2⟩
set_option maxHeartbeats 4000000 in
set_option maxRecDepth 100000 in
theorem c_X2_init {l : Launch} {Δ : zDl} {ad : zK → Nat} {M : zMem} {km : zK} {k u t x y : Int} (h0 : M km = some (.inr (3, [.int (zI 0), .int (zI 0), .int (zI 0), .int (zI 0), .int (zI 0), .int (zI 0)]))) : zMn l Δ yX2_init cX2_init 6 none 2 0 0 [.ref (ad km), .int (zI k), .int (zI u), .int (zI t), .int (zI x), .int (zI y)] ad M (fun v ad' M' => v = none ∧ (∀ k, ¬ (k = km) → M' k = M k ∧ ad' k = ad k) ∧ M' km = some (.inr (3, [.int (zI k), .int (zI u), .int (zI t), .int (zI x), .int (zI y), .int (zI 0)]))) := by
  refine zMn_of (by decide) (Nat.le_of_ble_eq_true rfl) (fun Γ hl hΔ hF => ?_)
  subst hl hΔ
  show G Γ _ _ _ RX2 _ _ _ _ _ [(0, .ref (ad km)), (1, .int (zI k)), (2, .int (zI u)), (3, .int (zI t)), (4, .int (zI x)), (5, .int (zI y))] []
  have fr0 : ∀ k, ¬ (k = km) → M k = M k ∧ ad k = ad k := fun _ _ => ⟨rfl, rfl⟩
  refine G_aload_n (pc := 0) 0 0 dX2_init_0 rfl rfl ?_
  refine G_objInit (pc := 1) oi_X2_3 dX2_init_1 ⟨Nat.le_of_ble_eq_true rfl, Nat.le_of_ble_eq_true rfl⟩ ?_
  refine G_aload_n (pc := 4) 0 0 dX2_init_4 rfl rfl ?_
  refine G_iconst (pc := 5) dX2_init_5 ?_
  refine G_putf (pc := 6) fl_X2_9 fp_X2_5 dX2_init_6 h0 (Nat.le_of_ble_eq_true rfl) (zb_nar (Or.inl rfl)) rfl rfl ?_
  refine G_nm (fun M1 hM1 => ?_)
  have f1 : M1 km = some (.inr (3, [.int (zI 0), .int (zI 0), .int (zI 0), .int (zI 0), .int (zI 0), .int (zI 0)])) := by rw [hM1]; exact zup1_s _ _ _
  have fr1 : ∀ k, ¬ (k = km) → M1 k = M k ∧ ad k = ad k := fun k hk => ⟨by rw [hM1, zup1_n _ _ (fun q => hk (by simp [q]))] <;> exact (fr0 k hk).1, (fr0 k hk).2⟩
  refine G_aload_n (pc := 9) 0 0 dX2_init_9 rfl rfl ?_
  refine G_iload_n (pc := 10) 1 1 dX2_init_10 rfl rfl ?_
  refine G_putF (pc := 11) fl_X2_15 ff_X2_15 hF.2.1 dX2_init_11 f1 (Nat.le_of_ble_eq_true rfl) rfl rfl rfl ?_
  refine G_nm (fun M2 hM2 => ?_)
  have f2 : M2 km = some (.inr (3, [.int (zI k), .int (zI 0), .int (zI 0), .int (zI 0), .int (zI 0), .int (zI 0)])) := by rw [hM2]; exact zup1_s _ _ _
  have fr2 : ∀ k, ¬ (k = km) → M2 k = M k ∧ ad k = ad k := fun k hk => ⟨by rw [hM2, zup1_n _ _ (fun q => hk (by simp [q]))] <;> exact (fr1 k hk).1, (fr1 k hk).2⟩
  refine G_aload_n (pc := 14) 0 0 dX2_init_14 rfl rfl ?_
  refine G_iload_n (pc := 15) 2 2 dX2_init_15 rfl rfl ?_
  refine G_putF (pc := 16) fl_X2_19 ff_X2_19 hF.2.1 dX2_init_16 f2 (Nat.le_of_ble_eq_true rfl) rfl rfl rfl ?_
  refine G_nm (fun M3 hM3 => ?_)
  have f3 : M3 km = some (.inr (3, [.int (zI k), .int (zI u), .int (zI 0), .int (zI 0), .int (zI 0), .int (zI 0)])) := by rw [hM3]; exact zup1_s _ _ _
  have fr3 : ∀ k, ¬ (k = km) → M3 k = M k ∧ ad k = ad k := fun k hk => ⟨by rw [hM3, zup1_n _ _ (fun q => hk (by simp [q]))] <;> exact (fr2 k hk).1, (fr2 k hk).2⟩
  refine G_aload_n (pc := 19) 0 0 dX2_init_19 rfl rfl ?_
  refine G_iload_n (pc := 20) 3 3 dX2_init_20 rfl rfl ?_
  refine G_putF (pc := 21) fl_X2_22 ff_X2_22 hF.2.1 dX2_init_21 f3 (Nat.le_of_ble_eq_true rfl) rfl rfl rfl ?_
  refine G_nm (fun M4 hM4 => ?_)
  have f4 : M4 km = some (.inr (3, [.int (zI k), .int (zI u), .int (zI t), .int (zI 0), .int (zI 0), .int (zI 0)])) := by rw [hM4]; exact zup1_s _ _ _
  have fr4 : ∀ k, ¬ (k = km) → M4 k = M k ∧ ad k = ad k := fun k hk => ⟨by rw [hM4, zup1_n _ _ (fun q => hk (by simp [q]))] <;> exact (fr3 k hk).1, (fr3 k hk).2⟩
  refine G_aload_n (pc := 24) 0 0 dX2_init_24 rfl rfl ?_
  refine G_iload (pc := 25) 4 dX2_init_25 rfl ?_
  refine G_putF (pc := 27) fl_X2_25 ff_X2_25 hF.2.1 dX2_init_27 f4 (Nat.le_of_ble_eq_true rfl) rfl rfl rfl ?_
  refine G_nm (fun M5 hM5 => ?_)
  have f5 : M5 km = some (.inr (3, [.int (zI k), .int (zI u), .int (zI t), .int (zI x), .int (zI 0), .int (zI 0)])) := by rw [hM5]; exact zup1_s _ _ _
  have fr5 : ∀ k, ¬ (k = km) → M5 k = M k ∧ ad k = ad k := fun k hk => ⟨by rw [hM5, zup1_n _ _ (fun q => hk (by simp [q]))] <;> exact (fr4 k hk).1, (fr4 k hk).2⟩
  refine G_aload_n (pc := 30) 0 0 dX2_init_30 rfl rfl ?_
  refine G_iload (pc := 31) 5 dX2_init_31 rfl ?_
  refine G_putf (pc := 33) fl_X2_28 fp_X2_4 dX2_init_33 f5 (Nat.le_of_ble_eq_true rfl) rfl rfl rfl ?_
  refine G_nm (fun M6 hM6 => ?_)
  have f6 : M6 km = some (.inr (3, [.int (zI k), .int (zI u), .int (zI t), .int (zI x), .int (zI y), .int (zI 0)])) := by rw [hM6]; exact zup1_s _ _ _
  have fr6 : ∀ k, ¬ (k = km) → M6 k = M k ∧ ad k = ad k := fun k hk => ⟨by rw [hM6, zup1_n _ _ (fun q => hk (by simp [q]))] <;> exact (fr5 k hk).1, (fr5 k hk).2⟩
  exact G_vret (pc := 36) hF dX2_init_36 ⟨Nat.le_of_ble_eq_true rfl, Nat.le_of_ble_eq_true rfl⟩ ⟨rfl, fun k hk => fr6 k hk, f6⟩
set_option maxHeartbeats 4000000 in
set_option maxRecDepth 100000 in
theorem c_X3_init {l : Launch} {Δ : zDl} {ad : zK → Nat} {M : zMem} {t p : Int} (h0 : M (11, t, p, 0) = some (.inr (4, [.null, .int (zI 0)]))) (h1 : M (12, t, p, 0) = none) : zMn l Δ yX3_init cX3_init 1 none 4 1 3 [.ref (ad (11, t, p, 0))] ad M (fun v ad' M' => v = none ∧ (∀ k, ¬ (k = (11, t, p, 0) ∨ k = (12, t, p, 0)) → M' k = M k ∧ ad' k = ad k) ∧ M' (11, t, p, 0) = some (.inr (4, [.ref (ad' (12, t, p, 0)), .int (zI 0)])) ∧ M' (12, t, p, 0) = some (zLi 0 Δ.2.2.1 0) ∧ ad' (11, t, p, 0) = ad (11, t, p, 0)) := by
  refine zMn_of (by decide) (Nat.le_of_ble_eq_true rfl) (fun Γ hl hΔ hF => ?_)
  subst hl hΔ
  show G Γ _ _ _ RX3 _ _ _ _ _ [(0, .ref (ad (11, t, p, 0)))] []
  have fr0 : ∀ k, ¬ (k = (11, t, p, 0) ∨ k = (12, t, p, 0)) → M k = M k ∧ ad k = ad k := fun _ _ => ⟨rfl, rfl⟩
  refine G_aload_n (pc := 0) 0 0 dX3_init_0 rfl rfl ?_
  refine G_objInit (pc := 1) oi_X3_3 dX3_init_1 ⟨Nat.le_of_ble_eq_true rfl, Nat.le_of_ble_eq_true rfl⟩ ?_
  refine G_aload_n (pc := 4) 0 0 dX3_init_4 rfl rfl ?_
  refine G_new (pc := 5) (fs := [.int (zI 0), .null, .int (zI 0)]) (12, t, p, 0) nw_X3_9 dX3_init_5 h1 (by decide) ⟨Nat.le_of_ble_eq_true rfl, Nat.le_of_ble_eq_true rfl⟩ (fun ad1 had1 => ?_)
  have e2_0 := had1 (11, t, p, 0) (by simp)
  rw [← e2_0]
  have sf2 : ad1 (11, t, p, 0) = ad (11, t, p, 0) := (had1 (11, t, p, 0) (by simp)).trans rfl
  have fr2 : ∀ k, ¬ (k = (11, t, p, 0) ∨ k = (12, t, p, 0)) → M k = M k ∧ ad1 k = ad k := fun k hk => ⟨(fr0 k hk).1, by rw [had1 k (fun q => hk (by simp [q]))] <;> exact (fr0 k hk).2⟩
  refine G_nm (fun M3 hM3 => ?_)
  have f3_0 : M3 (11, t, p, 0) = some (.inr (4, [.null, .int (zI 0)])) := by rw [hM3, zup1_n _ _ (by simp)]; exact h0
  have f3 : M3 (12, t, p, 0) = some (.inr (0, [.int (zI 0), .null, .int (zI 0)])) := by rw [hM3]; exact zup1_s _ _ _
  have fr3 : ∀ k, ¬ (k = (11, t, p, 0) ∨ k = (12, t, p, 0)) → M3 k = M k ∧ ad1 k = ad k := fun k hk => ⟨by rw [hM3, zup1_n _ _ (fun q => hk (by simp [q]))] <;> exact (fr2 k hk).1, (fr2 k hk).2⟩
  refine G_dup (pc := 8) dX3_init_8 rfl ?_
  refine G_callIv (pc := 9) gk_X3_11 dX3_init_9 (c_Jx4a65c_init_da8c8 f3) rfl rfl (Nat.le_of_ble_eq_true rfl) ⟨⟨Nat.le_of_ble_eq_true rfl, Nat.le_of_ble_eq_true rfl⟩, Nat.le_of_ble_eq_true rfl, Nat.le_of_ble_eq_true rfl⟩ ?_
  refine G_nm (fun M4 hM4 => ?_)
  have f4_0 : M4 (11, t, p, 0) = some (.inr (4, [.null, .int (zI 0)])) := by rw [hM4, zup1_n _ _ (by simp)]; exact f3_0
  have f4 : M4 (12, t, p, 0) = some (zLi 0 (z_d Γ).2.2.1 0) := by rw [hM4]; exact zup1_s _ _ _
  have fr4 : ∀ k, ¬ (k = (11, t, p, 0) ∨ k = (12, t, p, 0)) → M4 k = M k ∧ ad1 k = ad k := fun k hk => ⟨by rw [hM4, zup1_n _ _ (fun q => hk (by simp [q]))] <;> exact (fr3 k hk).1, (fr3 k hk).2⟩
  refine G_putF (pc := 12) fl_X3_12 ff_X3_12 hF.2.1 dX3_init_12 f4_0 (Nat.le_of_ble_eq_true rfl) rfl rfl rfl ?_
  refine G_nm (fun M5 hM5 => ?_)
  have f5_1 : M5 (12, t, p, 0) = some (zLi 0 (z_d Γ).2.2.1 0) := by rw [hM5, zup1_n _ _ (by simp)]; exact f4
  have f5 : M5 (11, t, p, 0) = some (.inr (4, [.ref (ad1 (12, t, p, 0)), .int (zI 0)])) := by rw [hM5]; exact zup1_s _ _ _
  have fr5 : ∀ k, ¬ (k = (11, t, p, 0) ∨ k = (12, t, p, 0)) → M5 k = M k ∧ ad1 k = ad k := fun k hk => ⟨by rw [hM5, zup1_n _ _ (fun q => hk (by simp [q]))] <;> exact (fr4 k hk).1, (fr4 k hk).2⟩
  refine G_aload_n (pc := 15) 0 0 dX3_init_15 rfl rfl ?_
  refine G_iconst (pc := 16) dX3_init_16 ?_
  refine G_putf (pc := 17) fl_X3_18 fp_X3_1 dX3_init_17 f5 (Nat.le_of_ble_eq_true rfl) rfl rfl rfl ?_
  refine G_nm (fun M6 hM6 => ?_)
  have f6_1 : M6 (12, t, p, 0) = some (zLi 0 (z_d Γ).2.2.1 0) := by rw [hM6, zup1_n _ _ (by simp)]; exact f5_1
  have f6 : M6 (11, t, p, 0) = some (.inr (4, [.ref (ad1 (12, t, p, 0)), .int (zI 0)])) := by rw [hM6]; exact zup1_s _ _ _
  have fr6 : ∀ k, ¬ (k = (11, t, p, 0) ∨ k = (12, t, p, 0)) → M6 k = M k ∧ ad1 k = ad k := fun k hk => ⟨by rw [hM6, zup1_n _ _ (fun q => hk (by simp [q]))] <;> exact (fr5 k hk).1, (fr5 k hk).2⟩
  exact G_vret (pc := 20) hF dX3_init_20 ⟨Nat.le_of_ble_eq_true rfl, Nat.le_of_ble_eq_true rfl⟩ ⟨rfl, fun k hk => fr6 k hk, f6, f6_1, sf2⟩
set_option maxHeartbeats 4000000 in
set_option maxRecDepth 100000 in
theorem c_X4_init {l : Launch} {Δ : zDl} {ad : zK → Nat} {M : zMem} {g t p x : Int} {ql : Nat} (h0 : M (18, g, p, 0) = some (.inr (5, [.null, .null, .null, .null, .int (zI 0), .int (zI 0), .int (zI 0)]))) (hp : M (11, t, p, 0) = some (.inr (4, [.ref ql, .int (zI x)]))) (h1 : M (19, g, p, 0) = none) (h2 : M (20, g, p, 0) = none) (h3 : M (21, g, p, 0) = none) : zMn l Δ yX4_init cX4_init 2 none 4 3 240 [.ref (ad (18, g, p, 0)), .ref (ad (11, t, p, 0))] ad M (fun v ad' M' => v = none ∧ (∀ k, ¬ (k = (18, g, p, 0) ∨ k = (19, g, p, 0) ∨ k = (20, g, p, 0) ∨ k = (21, g, p, 0)) → M' k = M k ∧ ad' k = ad k) ∧ M' (18, g, p, 0) = some (.inr (5, [.ref (ad' (11, t, p, 0)), .ref (ad' (19, g, p, 0)), .ref (ad' (20, g, p, 0)), .ref (ad' (21, g, p, 0)), .int (zI (-1)), .int (zI x), .int (zI x)])) ∧ M' (19, g, p, 0) = some (.inl (Δ.2.1 0, 80, .inl (zAi (fun _ => 0)))) ∧ M' (20, g, p, 0) = some (.inl (Δ.2.1 0, 80, .inl (zAi (fun _ => 0)))) ∧ M' (21, g, p, 0) = some (.inl (Δ.2.1 0, 80, .inl (zAi (fun _ => 0)))) ∧ ad' (18, g, p, 0) = ad (18, g, p, 0)) := by
  refine zMn_of (by decide) (Nat.le_of_ble_eq_true rfl) (fun Γ hl hΔ hF => ?_)
  subst hl hΔ
  show G Γ _ _ _ RX4 _ _ _ _ _ [(0, .ref (ad (18, g, p, 0))), (1, .ref (ad (11, t, p, 0)))] []
  have fr0 : ∀ k, ¬ (k = (18, g, p, 0) ∨ k = (19, g, p, 0) ∨ k = (20, g, p, 0) ∨ k = (21, g, p, 0)) → M k = M k ∧ ad k = ad k := fun _ _ => ⟨rfl, rfl⟩
  refine G_aload_n (pc := 0) 0 0 dX4_init_0 rfl rfl ?_
  refine G_objInit (pc := 1) oi_X4_3 dX4_init_1 ⟨Nat.le_of_ble_eq_true rfl, Nat.le_of_ble_eq_true rfl⟩ ?_
  refine G_aload_n (pc := 4) 0 0 dX4_init_4 rfl rfl ?_
  refine G_bipush (pc := 5) dX4_init_5 (by decide) ?_
  refine G_rI (pc := 7) (N := 80) (19, g, p, 0) dX4_init_7 h1 rfl ⟨by omega, by omega⟩ ⟨Nat.le_of_ble_eq_true rfl, Nat.le_of_ble_eq_true rfl⟩ (fun ad1 had1 => ?_)
  have e2_0 := had1 (11, t, p, 0) (by simp)
  have e2_1 := had1 (18, g, p, 0) (by simp)
  rw [← e2_0, ← e2_1]
  have sf2 : ad1 (18, g, p, 0) = ad (18, g, p, 0) := (had1 (18, g, p, 0) (by simp)).trans rfl
  have fr2 : ∀ k, ¬ (k = (18, g, p, 0) ∨ k = (19, g, p, 0) ∨ k = (20, g, p, 0) ∨ k = (21, g, p, 0)) → M k = M k ∧ ad1 k = ad k := fun k hk => ⟨(fr0 k hk).1, by rw [had1 k (fun q => hk (by simp [q]))] <;> exact (fr0 k hk).2⟩
  refine G_nm (fun M3 hM3 => ?_)
  have f3_0 : M3 (18, g, p, 0) = some (.inr (5, [.null, .null, .null, .null, .int (zI 0), .int (zI 0), .int (zI 0)])) := by rw [hM3, zup1_n _ _ (by simp)]; exact h0
  have f3_1 : M3 (11, t, p, 0) = some (.inr (4, [.ref ql, .int (zI x)])) := by rw [hM3, zup1_n _ _ (by simp)]; exact hp
  have g3_0 : M3 (20, g, p, 0) = none := by rw [hM3, zup1_n _ _ (by simp)]; exact h2
  have g3_1 : M3 (21, g, p, 0) = none := by rw [hM3, zup1_n _ _ (by simp)]; exact h3
  have f3 : M3 (19, g, p, 0) = some (.inl ((z_d Γ).2.1 0, 80, .inl (zAi (fun _ => 0)))) := by rw [hM3]; exact zup1_s _ _ _
  have fr3 : ∀ k, ¬ (k = (18, g, p, 0) ∨ k = (19, g, p, 0) ∨ k = (20, g, p, 0) ∨ k = (21, g, p, 0)) → M3 k = M k ∧ ad1 k = ad k := fun k hk => ⟨by rw [hM3, zup1_n _ _ (fun q => hk (by simp [q]))] <;> exact (fr2 k hk).1, (fr2 k hk).2⟩
  refine G_putF (pc := 9) fl_X4_9 ff_X4_9 hF.2.1 dX4_init_9 f3_0 (Nat.le_of_ble_eq_true rfl) rfl rfl rfl ?_
  refine G_nm (fun M4 hM4 => ?_)
  have f4_1 : M4 (11, t, p, 0) = some (.inr (4, [.ref ql, .int (zI x)])) := by rw [hM4, zup1_n _ _ (by simp)]; exact f3_1
  have f4_2 : M4 (19, g, p, 0) = some (.inl ((z_d Γ).2.1 0, 80, .inl (zAi (fun _ => 0)))) := by rw [hM4, zup1_n _ _ (by simp)]; exact f3
  have g4_0 : M4 (20, g, p, 0) = none := by rw [hM4, zup1_n _ _ (by simp)]; exact g3_0
  have g4_1 : M4 (21, g, p, 0) = none := by rw [hM4, zup1_n _ _ (by simp)]; exact g3_1
  have f4 : M4 (18, g, p, 0) = some (.inr (5, [.null, .ref (ad1 (19, g, p, 0)), .null, .null, .int (zI 0), .int (zI 0), .int (zI 0)])) := by rw [hM4]; exact zup1_s _ _ _
  have fr4 : ∀ k, ¬ (k = (18, g, p, 0) ∨ k = (19, g, p, 0) ∨ k = (20, g, p, 0) ∨ k = (21, g, p, 0)) → M4 k = M k ∧ ad1 k = ad k := fun k hk => ⟨by rw [hM4, zup1_n _ _ (fun q => hk (by simp [q]))] <;> exact (fr3 k hk).1, (fr3 k hk).2⟩
  refine G_aload_n (pc := 12) 0 0 dX4_init_12 rfl rfl ?_
  refine G_bipush (pc := 13) dX4_init_13 (by decide) ?_
  refine G_rI (pc := 15) (N := 80) (20, g, p, 0) dX4_init_15 g4_0 rfl ⟨by omega, by omega⟩ ⟨Nat.le_of_ble_eq_true rfl, Nat.le_of_ble_eq_true rfl⟩ (fun ad5 had5 => ?_)
  have e6_0 := had5 (11, t, p, 0) (by simp)
  have e6_1 := had5 (18, g, p, 0) (by simp)
  have e6_2 := had5 (19, g, p, 0) (by simp)
  rw [← e6_2] at f4
  rw [← e6_0, ← e6_1]
  have sf6 : ad5 (18, g, p, 0) = ad (18, g, p, 0) := (had5 (18, g, p, 0) (by simp)).trans sf2
  have fr6 : ∀ k, ¬ (k = (18, g, p, 0) ∨ k = (19, g, p, 0) ∨ k = (20, g, p, 0) ∨ k = (21, g, p, 0)) → M4 k = M k ∧ ad5 k = ad k := fun k hk => ⟨(fr4 k hk).1, by rw [had5 k (fun q => hk (by simp [q]))] <;> exact (fr4 k hk).2⟩
  refine G_nm (fun M7 hM7 => ?_)
  have f7_0 : M7 (18, g, p, 0) = some (.inr (5, [.null, .ref (ad5 (19, g, p, 0)), .null, .null, .int (zI 0), .int (zI 0), .int (zI 0)])) := by rw [hM7, zup1_n _ _ (by simp)]; exact f4
  have f7_1 : M7 (11, t, p, 0) = some (.inr (4, [.ref ql, .int (zI x)])) := by rw [hM7, zup1_n _ _ (by simp)]; exact f4_1
  have f7_2 : M7 (19, g, p, 0) = some (.inl ((z_d Γ).2.1 0, 80, .inl (zAi (fun _ => 0)))) := by rw [hM7, zup1_n _ _ (by simp)]; exact f4_2
  have g7_0 : M7 (21, g, p, 0) = none := by rw [hM7, zup1_n _ _ (by simp)]; exact g4_1
  have f7 : M7 (20, g, p, 0) = some (.inl ((z_d Γ).2.1 0, 80, .inl (zAi (fun _ => 0)))) := by rw [hM7]; exact zup1_s _ _ _
  have fr7 : ∀ k, ¬ (k = (18, g, p, 0) ∨ k = (19, g, p, 0) ∨ k = (20, g, p, 0) ∨ k = (21, g, p, 0)) → M7 k = M k ∧ ad5 k = ad k := fun k hk => ⟨by rw [hM7, zup1_n _ _ (fun q => hk (by simp [q]))] <;> exact (fr6 k hk).1, (fr6 k hk).2⟩
  refine G_putF (pc := 17) fl_X4_15 ff_X4_15 hF.2.1 dX4_init_17 f7_0 (Nat.le_of_ble_eq_true rfl) rfl rfl rfl ?_
  refine G_nm (fun M8 hM8 => ?_)
  have f8_1 : M8 (11, t, p, 0) = some (.inr (4, [.ref ql, .int (zI x)])) := by rw [hM8, zup1_n _ _ (by simp)]; exact f7_1
  have f8_2 : M8 (19, g, p, 0) = some (.inl ((z_d Γ).2.1 0, 80, .inl (zAi (fun _ => 0)))) := by rw [hM8, zup1_n _ _ (by simp)]; exact f7_2
  have f8_3 : M8 (20, g, p, 0) = some (.inl ((z_d Γ).2.1 0, 80, .inl (zAi (fun _ => 0)))) := by rw [hM8, zup1_n _ _ (by simp)]; exact f7
  have g8_0 : M8 (21, g, p, 0) = none := by rw [hM8, zup1_n _ _ (by simp)]; exact g7_0
  have f8 : M8 (18, g, p, 0) = some (.inr (5, [.null, .ref (ad5 (19, g, p, 0)), .ref (ad5 (20, g, p, 0)), .null, .int (zI 0), .int (zI 0), .int (zI 0)])) := by rw [hM8]; exact zup1_s _ _ _
  have fr8 : ∀ k, ¬ (k = (18, g, p, 0) ∨ k = (19, g, p, 0) ∨ k = (20, g, p, 0) ∨ k = (21, g, p, 0)) → M8 k = M k ∧ ad5 k = ad k := fun k hk => ⟨by rw [hM8, zup1_n _ _ (fun q => hk (by simp [q]))] <;> exact (fr7 k hk).1, (fr7 k hk).2⟩
  refine G_aload_n (pc := 20) 0 0 dX4_init_20 rfl rfl ?_
  refine G_bipush (pc := 21) dX4_init_21 (by decide) ?_
  refine G_rI (pc := 23) (N := 80) (21, g, p, 0) dX4_init_23 g8_0 rfl ⟨by omega, by omega⟩ ⟨Nat.le_of_ble_eq_true rfl, Nat.le_of_ble_eq_true rfl⟩ (fun ad9 had9 => ?_)
  have e10_0 := had9 (11, t, p, 0) (by simp)
  have e10_1 := had9 (18, g, p, 0) (by simp)
  have e10_2 := had9 (19, g, p, 0) (by simp)
  have e10_3 := had9 (20, g, p, 0) (by simp)
  rw [← e10_2, ← e10_3] at f8
  rw [← e10_0, ← e10_1]
  have sf10 : ad9 (18, g, p, 0) = ad (18, g, p, 0) := (had9 (18, g, p, 0) (by simp)).trans sf6
  have fr10 : ∀ k, ¬ (k = (18, g, p, 0) ∨ k = (19, g, p, 0) ∨ k = (20, g, p, 0) ∨ k = (21, g, p, 0)) → M8 k = M k ∧ ad9 k = ad k := fun k hk => ⟨(fr8 k hk).1, by rw [had9 k (fun q => hk (by simp [q]))] <;> exact (fr8 k hk).2⟩
  refine G_nm (fun M11 hM11 => ?_)
  have f11_0 : M11 (18, g, p, 0) = some (.inr (5, [.null, .ref (ad9 (19, g, p, 0)), .ref (ad9 (20, g, p, 0)), .null, .int (zI 0), .int (zI 0), .int (zI 0)])) := by rw [hM11, zup1_n _ _ (by simp)]; exact f8
  have f11_1 : M11 (11, t, p, 0) = some (.inr (4, [.ref ql, .int (zI x)])) := by rw [hM11, zup1_n _ _ (by simp)]; exact f8_1
  have f11_2 : M11 (19, g, p, 0) = some (.inl ((z_d Γ).2.1 0, 80, .inl (zAi (fun _ => 0)))) := by rw [hM11, zup1_n _ _ (by simp)]; exact f8_2
  have f11_3 : M11 (20, g, p, 0) = some (.inl ((z_d Γ).2.1 0, 80, .inl (zAi (fun _ => 0)))) := by rw [hM11, zup1_n _ _ (by simp)]; exact f8_3
  have f11 : M11 (21, g, p, 0) = some (.inl ((z_d Γ).2.1 0, 80, .inl (zAi (fun _ => 0)))) := by rw [hM11]; exact zup1_s _ _ _
  have fr11 : ∀ k, ¬ (k = (18, g, p, 0) ∨ k = (19, g, p, 0) ∨ k = (20, g, p, 0) ∨ k = (21, g, p, 0)) → M11 k = M k ∧ ad9 k = ad k := fun k hk => ⟨by rw [hM11, zup1_n _ _ (fun q => hk (by simp [q]))] <;> exact (fr10 k hk).1, (fr10 k hk).2⟩
  refine G_putF (pc := 25) fl_X4_18 ff_X4_18 hF.2.1 dX4_init_25 f11_0 (Nat.le_of_ble_eq_true rfl) rfl rfl rfl ?_
  refine G_nm (fun M12 hM12 => ?_)
  have f12_1 : M12 (11, t, p, 0) = some (.inr (4, [.ref ql, .int (zI x)])) := by rw [hM12, zup1_n _ _ (by simp)]; exact f11_1
  have f12_2 : M12 (19, g, p, 0) = some (.inl ((z_d Γ).2.1 0, 80, .inl (zAi (fun _ => 0)))) := by rw [hM12, zup1_n _ _ (by simp)]; exact f11_2
  have f12_3 : M12 (20, g, p, 0) = some (.inl ((z_d Γ).2.1 0, 80, .inl (zAi (fun _ => 0)))) := by rw [hM12, zup1_n _ _ (by simp)]; exact f11_3
  have f12_4 : M12 (21, g, p, 0) = some (.inl ((z_d Γ).2.1 0, 80, .inl (zAi (fun _ => 0)))) := by rw [hM12, zup1_n _ _ (by simp)]; exact f11
  have f12 : M12 (18, g, p, 0) = some (.inr (5, [.null, .ref (ad9 (19, g, p, 0)), .ref (ad9 (20, g, p, 0)), .ref (ad9 (21, g, p, 0)), .int (zI 0), .int (zI 0), .int (zI 0)])) := by rw [hM12]; exact zup1_s _ _ _
  have fr12 : ∀ k, ¬ (k = (18, g, p, 0) ∨ k = (19, g, p, 0) ∨ k = (20, g, p, 0) ∨ k = (21, g, p, 0)) → M12 k = M k ∧ ad9 k = ad k := fun k hk => ⟨by rw [hM12, zup1_n _ _ (fun q => hk (by simp [q]))] <;> exact (fr11 k hk).1, (fr11 k hk).2⟩
  refine G_aload_n (pc := 28) 0 0 dX4_init_28 rfl rfl ?_
  refine G_iconst (pc := 29) dX4_init_29 ?_
  refine G_putf (pc := 30) fl_X4_21 fp_X4_4 dX4_init_30 f12 (Nat.le_of_ble_eq_true rfl) rfl rfl rfl ?_
  refine G_nm (fun M13 hM13 => ?_)
  have f13_1 : M13 (11, t, p, 0) = some (.inr (4, [.ref ql, .int (zI x)])) := by rw [hM13, zup1_n _ _ (by simp)]; exact f12_1
  have f13_2 : M13 (19, g, p, 0) = some (.inl ((z_d Γ).2.1 0, 80, .inl (zAi (fun _ => 0)))) := by rw [hM13, zup1_n _ _ (by simp)]; exact f12_2
  have f13_3 : M13 (20, g, p, 0) = some (.inl ((z_d Γ).2.1 0, 80, .inl (zAi (fun _ => 0)))) := by rw [hM13, zup1_n _ _ (by simp)]; exact f12_3
  have f13_4 : M13 (21, g, p, 0) = some (.inl ((z_d Γ).2.1 0, 80, .inl (zAi (fun _ => 0)))) := by rw [hM13, zup1_n _ _ (by simp)]; exact f12_4
  have f13 : M13 (18, g, p, 0) = some (.inr (5, [.null, .ref (ad9 (19, g, p, 0)), .ref (ad9 (20, g, p, 0)), .ref (ad9 (21, g, p, 0)), .int (zI (-1)), .int (zI 0), .int (zI 0)])) := by rw [hM13]; exact zup1_s _ _ _
  have fr13 : ∀ k, ¬ (k = (18, g, p, 0) ∨ k = (19, g, p, 0) ∨ k = (20, g, p, 0) ∨ k = (21, g, p, 0)) → M13 k = M k ∧ ad9 k = ad k := fun k hk => ⟨by rw [hM13, zup1_n _ _ (fun q => hk (by simp [q]))] <;> exact (fr12 k hk).1, (fr12 k hk).2⟩
  refine G_aload_n (pc := 33) 0 0 dX4_init_33 rfl rfl ?_
  refine G_aload_n (pc := 34) 1 1 dX4_init_34 rfl rfl ?_
  refine G_putF (pc := 35) fl_X4_25 ff_X4_25 hF.2.1 dX4_init_35 f13 (Nat.le_of_ble_eq_true rfl) rfl rfl rfl ?_
  refine G_nm (fun M14 hM14 => ?_)
  have f14_1 : M14 (11, t, p, 0) = some (.inr (4, [.ref ql, .int (zI x)])) := by rw [hM14, zup1_n _ _ (by simp)]; exact f13_1
  have f14_2 : M14 (19, g, p, 0) = some (.inl ((z_d Γ).2.1 0, 80, .inl (zAi (fun _ => 0)))) := by rw [hM14, zup1_n _ _ (by simp)]; exact f13_2
  have f14_3 : M14 (20, g, p, 0) = some (.inl ((z_d Γ).2.1 0, 80, .inl (zAi (fun _ => 0)))) := by rw [hM14, zup1_n _ _ (by simp)]; exact f13_3
  have f14_4 : M14 (21, g, p, 0) = some (.inl ((z_d Γ).2.1 0, 80, .inl (zAi (fun _ => 0)))) := by rw [hM14, zup1_n _ _ (by simp)]; exact f13_4
  have f14 : M14 (18, g, p, 0) = some (.inr (5, [.ref (ad9 (11, t, p, 0)), .ref (ad9 (19, g, p, 0)), .ref (ad9 (20, g, p, 0)), .ref (ad9 (21, g, p, 0)), .int (zI (-1)), .int (zI 0), .int (zI 0)])) := by rw [hM14]; exact zup1_s _ _ _
  have fr14 : ∀ k, ¬ (k = (18, g, p, 0) ∨ k = (19, g, p, 0) ∨ k = (20, g, p, 0) ∨ k = (21, g, p, 0)) → M14 k = M k ∧ ad9 k = ad k := fun k hk => ⟨by rw [hM14, zup1_n _ _ (fun q => hk (by simp [q]))] <;> exact (fr13 k hk).1, (fr13 k hk).2⟩
  refine G_aload_n (pc := 38) 0 0 dX4_init_38 rfl rfl ?_
  refine G_aload_n (pc := 39) 1 1 dX4_init_39 rfl rfl ?_
  refine G_getf (pc := 40) fl_X4_29 dX4_init_40 f14_1 rfl ?_
  refine G_putf (pc := 43) fl_X4_34 fp_X4_5 dX4_init_43 f14 (Nat.le_of_ble_eq_true rfl) rfl rfl rfl ?_
  refine G_nm (fun M15 hM15 => ?_)
  have f15_1 : M15 (11, t, p, 0) = some (.inr (4, [.ref ql, .int (zI x)])) := by rw [hM15, zup1_n _ _ (by simp)]; exact f14_1
  have f15_2 : M15 (19, g, p, 0) = some (.inl ((z_d Γ).2.1 0, 80, .inl (zAi (fun _ => 0)))) := by rw [hM15, zup1_n _ _ (by simp)]; exact f14_2
  have f15_3 : M15 (20, g, p, 0) = some (.inl ((z_d Γ).2.1 0, 80, .inl (zAi (fun _ => 0)))) := by rw [hM15, zup1_n _ _ (by simp)]; exact f14_3
  have f15_4 : M15 (21, g, p, 0) = some (.inl ((z_d Γ).2.1 0, 80, .inl (zAi (fun _ => 0)))) := by rw [hM15, zup1_n _ _ (by simp)]; exact f14_4
  have f15 : M15 (18, g, p, 0) = some (.inr (5, [.ref (ad9 (11, t, p, 0)), .ref (ad9 (19, g, p, 0)), .ref (ad9 (20, g, p, 0)), .ref (ad9 (21, g, p, 0)), .int (zI (-1)), .int (zI x), .int (zI 0)])) := by rw [hM15]; exact zup1_s _ _ _
  have fr15 : ∀ k, ¬ (k = (18, g, p, 0) ∨ k = (19, g, p, 0) ∨ k = (20, g, p, 0) ∨ k = (21, g, p, 0)) → M15 k = M k ∧ ad9 k = ad k := fun k hk => ⟨by rw [hM15, zup1_n _ _ (fun q => hk (by simp [q]))] <;> exact (fr14 k hk).1, (fr14 k hk).2⟩
  refine G_aload_n (pc := 46) 0 0 dX4_init_46 rfl rfl ?_
  refine G_aload_n (pc := 47) 1 1 dX4_init_47 rfl rfl ?_
  refine G_getf (pc := 48) fl_X4_29 dX4_init_48 f15_1 rfl ?_
  refine G_putf (pc := 51) fl_X4_37 fp_X4_6 dX4_init_51 f15 (Nat.le_of_ble_eq_true rfl) rfl rfl rfl ?_
  refine G_nm (fun M16 hM16 => ?_)
  have f16_1 : M16 (11, t, p, 0) = some (.inr (4, [.ref ql, .int (zI x)])) := by rw [hM16, zup1_n _ _ (by simp)]; exact f15_1
  have f16_2 : M16 (19, g, p, 0) = some (.inl ((z_d Γ).2.1 0, 80, .inl (zAi (fun _ => 0)))) := by rw [hM16, zup1_n _ _ (by simp)]; exact f15_2
  have f16_3 : M16 (20, g, p, 0) = some (.inl ((z_d Γ).2.1 0, 80, .inl (zAi (fun _ => 0)))) := by rw [hM16, zup1_n _ _ (by simp)]; exact f15_3
  have f16_4 : M16 (21, g, p, 0) = some (.inl ((z_d Γ).2.1 0, 80, .inl (zAi (fun _ => 0)))) := by rw [hM16, zup1_n _ _ (by simp)]; exact f15_4
  have f16 : M16 (18, g, p, 0) = some (.inr (5, [.ref (ad9 (11, t, p, 0)), .ref (ad9 (19, g, p, 0)), .ref (ad9 (20, g, p, 0)), .ref (ad9 (21, g, p, 0)), .int (zI (-1)), .int (zI x), .int (zI x)])) := by rw [hM16]; exact zup1_s _ _ _
  have fr16 : ∀ k, ¬ (k = (18, g, p, 0) ∨ k = (19, g, p, 0) ∨ k = (20, g, p, 0) ∨ k = (21, g, p, 0)) → M16 k = M k ∧ ad9 k = ad k := fun k hk => ⟨by rw [hM16, zup1_n _ _ (fun q => hk (by simp [q]))] <;> exact (fr15 k hk).1, (fr15 k hk).2⟩
  exact G_vret (pc := 54) hF dX4_init_54 ⟨Nat.le_of_ble_eq_true rfl, Nat.le_of_ble_eq_true rfl⟩ ⟨rfl, fun k hk => fr16 k hk, f16, f16_2, f16_3, f16_4, sf10⟩
