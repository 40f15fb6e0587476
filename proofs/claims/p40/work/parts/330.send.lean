/-! ===== adding to a partition; the class's send, where it adds ===== -/
set_option maxHeartbeats 4000000 in
set_option maxRecDepth 100000 in
theorem c_X2_initE {l : Launch} {Δ : zDl} {ad : zK → Nat} {M : zMem} {km : zK} {k u t x y : Int} (h0 : M km = some (.inr (3, [.int (zI 0), .int (zI 0), .int (zI 0), .int (zI 0), .int (zI 0), .int (zI 0)]))) : zMn l Δ yX2_init cX2_init 6 none 2 0 0 [.ref (ad km), .int (zI k), .int (zI u), .int (zI t), .int (zI x), .int (zI y)] ad M (fun v ad' M' => v = none ∧ (∀ k, ¬ (k = km) → M' k = M k ∧ ad' k = ad k) ∧ M' km = some (.inr (3, [.int (zI k), .int (zI u), .int (zI t), .int (zI x), .int (zI y), .int (zI 0)])) ∧ ad' km = ad km) := by
  refine zMn_of (by decide) (Nat.le_of_ble_eq_true rfl) (fun Γ hl hΔ hF => ?_)
  subst hl hΔ
  show G Γ _ _ _ RX2 _ _ _ _ _ [(0, .ref (ad km)), (1, .int (zI k)), (2, .int (zI u)), (3, .int (zI t)), (4, .int (zI x)), (5, .int (zI y))] []
  have fr0 : ∀ k, ¬ (k = km) → M k = M k ∧ ad k = ad k := fun _ _ => ⟨rfl, rfl⟩
  refine G_aload_n (pc := 0) 0 0 dX2_init_0 rfl rfl ?_
  refine G_objInit (pc := 1) oi_X2_3 dX2_init_1 ⟨Nat.le_of_ble_eq_true rfl, Nat.le_of_ble_eq_true rfl⟩ ?_
  refine G_aload_n (pc := 4) 0 0 dX2_init_4 rfl rfl ?_
  refine G_iconst (pc := 5) dX2_init_5 ?_
  refine G_putf (pc := 6) fl_X2_9 fp_X2_5 dX2_init_6 h0 (Nat.le_of_ble_eq_true rfl) (zb_nar (Or.inl rfl)) rfl rfl ?_
  refine G_nm (fun M1 hM1 => ?_)
  have f1 : M1 km = some (.inr (3, [.int (zI 0), .int (zI 0), .int (zI 0), .int (zI 0), .int (zI 0), .int (zI 0)])) := by rw [hM1]; exact zup1_s _ _ _
  have fr1 : ∀ k, ¬ (k = km) → M1 k = M k ∧ ad k = ad k := fun k hk => ⟨by rw [hM1, zup1_n _ _ (fun q => hk (by simp [q]))] <;> exact (fr0 k hk).1, (fr0 k hk).2⟩
  refine G_aload_n (pc := 9) 0 0 dX2_init_9 rfl rfl ?_
  refine G_iload_n (pc := 10) 1 1 dX2_init_10 rfl rfl ?_
  refine G_putF (pc := 11) fl_X2_15 ff_X2_15 hF.2.1 dX2_init_11 f1 (Nat.le_of_ble_eq_true rfl) rfl rfl rfl ?_
  refine G_nm (fun M2 hM2 => ?_)
  have f2 : M2 km = some (.inr (3, [.int (zI k), .int (zI 0), .int (zI 0), .int (zI 0), .int (zI 0), .int (zI 0)])) := by rw [hM2]; exact zup1_s _ _ _
  have fr2 : ∀ k, ¬ (k = km) → M2 k = M k ∧ ad k = ad k := fun k hk => ⟨by rw [hM2, zup1_n _ _ (fun q => hk (by simp [q]))] <;> exact (fr1 k hk).1, (fr1 k hk).2⟩
  refine G_aload_n (pc := 14) 0 0 dX2_init_14 rfl rfl ?_
  refine G_iload_n (pc := 15) 2 2 dX2_init_15 rfl rfl ?_
  refine G_putF (pc := 16) fl_X2_19 ff_X2_19 hF.2.1 dX2_init_16 f2 (Nat.le_of_ble_eq_true rfl) rfl rfl rfl ?_
  refine G_nm (fun M3 hM3 => ?_)
  have f3 : M3 km = some (.inr (3, [.int (zI k), .int (zI u), .int (zI 0), .int (zI 0), .int (zI 0), .int (zI 0)])) := by rw [hM3]; exact zup1_s _ _ _
  have fr3 : ∀ k, ¬ (k = km) → M3 k = M k ∧ ad k = ad k := fun k hk => ⟨by rw [hM3, zup1_n _ _ (fun q => hk (by simp [q]))] <;> exact (fr2 k hk).1, (fr2 k hk).2⟩
  refine G_aload_n (pc := 19) 0 0 dX2_init_19 rfl rfl ?_
  refine G_iload_n (pc := 20) 3 3 dX2_init_20 rfl rfl ?_
  refine G_putF (pc := 21) fl_X2_22 ff_X2_22 hF.2.1 dX2_init_21 f3 (Nat.le_of_ble_eq_true rfl) rfl rfl rfl ?_
  refine G_nm (fun M4 hM4 => ?_)
  have f4 : M4 km = some (.inr (3, [.int (zI k), .int (zI u), .int (zI t), .int (zI 0), .int (zI 0), .int (zI 0)])) := by rw [hM4]; exact zup1_s _ _ _
  have fr4 : ∀ k, ¬ (k = km) → M4 k = M k ∧ ad k = ad k := fun k hk => ⟨by rw [hM4, zup1_n _ _ (fun q => hk (by simp [q]))] <;> exact (fr3 k hk).1, (fr3 k hk).2⟩
  refine G_aload_n (pc := 24) 0 0 dX2_init_24 rfl rfl ?_
  refine G_iload (pc := 25) 4 dX2_init_25 rfl ?_
  refine G_putF (pc := 27) fl_X2_25 ff_X2_25 hF.2.1 dX2_init_27 f4 (Nat.le_of_ble_eq_true rfl) rfl rfl rfl ?_
  refine G_nm (fun M5 hM5 => ?_)
  have f5 : M5 km = some (.inr (3, [.int (zI k), .int (zI u), .int (zI t), .int (zI x), .int (zI 0), .int (zI 0)])) := by rw [hM5]; exact zup1_s _ _ _
  have fr5 : ∀ k, ¬ (k = km) → M5 k = M k ∧ ad k = ad k := fun k hk => ⟨by rw [hM5, zup1_n _ _ (fun q => hk (by simp [q]))] <;> exact (fr4 k hk).1, (fr4 k hk).2⟩
  refine G_aload_n (pc := 30) 0 0 dX2_init_30 rfl rfl ?_
  refine G_iload (pc := 31) 5 dX2_init_31 rfl ?_
  refine G_putf (pc := 33) fl_X2_28 fp_X2_4 dX2_init_33 f5 (Nat.le_of_ble_eq_true rfl) rfl rfl rfl ?_
  refine G_nm (fun M6 hM6 => ?_)
  have f6 : M6 km = some (.inr (3, [.int (zI k), .int (zI u), .int (zI t), .int (zI x), .int (zI y), .int (zI 0)])) := by rw [hM6]; exact zup1_s _ _ _
  have fr6 : ∀ k, ¬ (k = km) → M6 k = M k ∧ ad k = ad k := fun k hk => ⟨by rw [hM6, zup1_n _ _ (fun q => hk (by simp [q]))] <;> exact (fr5 k hk).1, (fr5 k hk).2⟩
  exact G_vret (pc := 36) hF dX2_init_36 ⟨Nat.le_of_ble_eq_true rfl, Nat.le_of_ble_eq_true rfl⟩ ⟨rfl, fun k hk => fr6 k hk, f6, rfl⟩
set_option maxHeartbeats 4000000 in
set_option maxRecDepth 100000 in
theorem c_ALsizeR {l : Launch} {Δ : zDl} {ad : zK → Nat} {M : zMem} {kl : zK} {m n : Int} {q : Nat} (h : M kl = some (zLi m q n)) : zMn l Δ yJx4a65c_size_8abf5 cJx4a65c_size_8abf5 1 (some .int) 1 0 0 [.ref (ad kl)] ad M (zD (some (.int (zI n))) ad M) := by
  refine zMn_of (by decide) (Nat.le_of_ble_eq_true rfl) (fun Γ hl hΔ hF => ?_)
  subst hl hΔ
  show G Γ _ _ _ RJx4a65c _ _ _ _ _ [(0, .ref (ad kl))] []
  refine G_aload_n (pc := 0) 0 0 dJx4a65c_size_8abf5_0 rfl rfl ?_
  refine G_getf (pc := 1) fl_Jx4a65c_48 dJx4a65c_size_8abf5_1 h rfl ?_
  exact G_iret_d (pc := 4) hF dJx4a65c_size_8abf5_4 ⟨Nat.le_of_ble_eq_true rfl, Nat.le_of_ble_eq_true rfl⟩ rfl
set_option maxHeartbeats 4000000 in
set_option maxRecDepth 100000 in
theorem c_X3_add {l : Launch} {Δ : zDl} {ad : zK → Nat} {M : zMem} {kp kv kl ka : zK} {vs : List Value} {sp : Value} {m n : Int} {c : Nat} {F : Int → Option Nat} (hp : M kp = some (.inr (4, [.ref (ad kl), sp]))) (hv : M kv = some (.inr (3, vs))) (hL : zLst Δ ad M 3 kl ka m n c F) (hk : M (91, 0, 0, 0) = none) (hn : 0 ≤ n ∧ n < 80) (h91 : ka ≠ (91, 0, 0, 0)) : zMn l Δ yX3_add cX3_add 2 (some .int) 9 1 150 [.ref (ad kp), .ref (ad kv)] ad M (fun v ad' M' => v = some (.int (zI n)) ∧ (∀ k, k ≠ (91, 0, 0, 0) → ad' k = ad k) ∧ ∃ (kb : zK) (c' : Nat), (kb = ka ∧ c' = c ∧ 0 < c ∨ kb = (91, 0, 0, 0) ∧ M (91, 0, 0, 0) = none) ∧ (n < c' ∧ c' ≤ 200) ∧ M' = zup1 (zup1 M kb (some (zOA Δ c' (zup F n (some (ad kv)))))) kl (some (zLi (m + 1) (ad' kb) (n + 1)))) := by
  refine zMn_of (by decide) (Nat.le_of_ble_eq_true rfl) (fun Γ hl hΔ hF => ?_)
  subst hl hΔ
  show G Γ _ _ _ RX3 _ _ _ _ _ [(0, .ref (ad kp)), (1, .ref (ad kv))] []
  have hkl : ∃ q, M kl = some (zLi m q n) := by
    rcases hL with ⟨-, rfl, h, -⟩ | ⟨-, h, -⟩
    · exact ⟨_, h⟩
    · exact ⟨_, h⟩
  obtain ⟨q, hkl⟩ := hkl
  have nkl : kl ≠ (91, 0, 0, 0) := fun e => by rw [e, hk] at hkl; cases hkl
  have nkp : kp ≠ (91, 0, 0, 0) := fun e => by rw [e, hk] at hp; cases hp
  have nlp : kp ≠ kl := fun e => by
    rw [e, hkl] at hp
    injection hp with h1
    injection h1 with h2
    injection h2 with h3 h4
    exact absurd h3 (by decide)
  refine G_aload_n (pc := 0) 0 0 dX3_add_0 rfl rfl ?_
  refine G_getf (pc := 1) fl_X3_12 dX3_add_1 hp rfl ?_
  refine G_aload_n (pc := 4) 1 1 dX3_add_4 rfl rfl ?_
  refine G_callV (pc := 5) gk_X3_36 dX3_add_5 hkl rfl (c_add (r := (RX2, TX2, 6)) rfl (by decide) ca_Message hv hL hk hn.2 h91) rfl rfl (Nat.le_of_ble_eq_true rfl) ⟨⟨Nat.le_of_ble_eq_true rfl, Nat.le_of_ble_eq_true rfl⟩, Nat.le_of_ble_eq_true rfl, Nat.le_of_ble_eq_true rfl⟩ (fun v ad3 M3 hpo => ?_)
  obtain ⟨rfl, ha3, kb, c', hkb, hc, hM3⟩ := hpo
  refine G_pop (pc := 8) dX3_add_8 rfl ?_
  have nkb : kp ≠ kb := fun e => by
    rcases hkb with ⟨rfl, rfl, h0⟩ | ⟨rfl, -⟩
    · rcases hL with ⟨rfl, -⟩ | ⟨-, -, h, -⟩
      · exact absurd h0 (by decide)
      · rw [e, h] at hp
        injection hp with h1
        cases h1
    · exact nkp e
  have fp : M3 kp = some (.inr (4, [.ref (ad3 kl), sp])) := by
    rw [hM3, zup1_n _ _ nlp, zup1_n _ _ nkb, hp, ha3 kl nkl]
  have fl : M3 kl = some (zLi (m + 1) (ad3 kb) (n + 1)) := by rw [hM3]; exact zup1_s _ _ _
  rw [← ha3 kp nkp]
  refine G_aload_n (pc := 9) 0 0 dX3_add_9 rfl rfl ?_
  refine G_getf (pc := 10) fl_X3_12 dX3_add_10 fp rfl ?_
  refine G_callVd (pc := 13) gk_X3_22 dX3_add_13 fl rfl (c_ALsizeR fl) rfl rfl (Nat.le_of_ble_eq_true rfl) ⟨⟨Nat.le_of_ble_eq_true rfl, Nat.le_of_ble_eq_true rfl⟩, Nat.le_of_ble_eq_true rfl, Nat.le_of_ble_eq_true rfl⟩ ?_
  refine G_iconst (pc := 16) dX3_add_16 ?_
  refine G_isub (pc := 17) dX3_add_17 ?_
  refine G_iret (pc := 18) hF dX3_add_18 ⟨Nat.le_of_ble_eq_true rfl, Nat.le_of_ble_eq_true rfl⟩ ⟨?_, ha3, kb, c', hkb, hc, hM3⟩
  rw [show n + 1 - 1 = n by omega]
