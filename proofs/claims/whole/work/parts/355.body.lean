/-! ===== the law's body from its entry ===== -/
set_option maxHeartbeats 4000000 in
set_option maxRecDepth 100000 in
theorem law_body {Γ : zCx} {b L : Nat} {xs : Nat → Int32} (hst : (z_l Γ).stackTraces = false) (hNc : zNc (z_s Γ)) (hX : zSc Γ b L xs) (hL : L ≤ 3072) (hEnd : ∀ (ad : zK → Nat) (M : zMem) (nc ns : Nat) (lv : List (Nat × Value)), nc ≤ 601024 → ns ≤ 7293034 → G Γ zRL cL_law 9 RL ad M nc ns 2569 lv [.int (zI 1)]) (ad : zK → Nat) : G Γ zRL cL_law 9 RL ad (fun _ => none) 0 0 0 [(0, .ref b)] [] := by
  refine G_new (pc := 0) (fs := [.null, .null, .null, .null, .int (zI 0), .int (zI 0), .int (zI 0), .int (zI 0), .int (zI 0)]) (0, 0, 0, 0) nw_L_8 dL_law_0 rfl (by decide) ⟨Nat.le_of_ble_eq_true rfl, Nat.le_of_ble_eq_true rfl⟩ (fun ad1 had1 => ?_)
  refine G_dup (pc := 3) dL_law_3 rfl ?_
  refine G_callI (pc := 4) (mc := 5) (ms := 1012) gk_L_119 dL_law_4 (c_X6_initE (zup1_s _ _ _) (zup1_n _ _ (by simp)) (zup1_n _ _ (by simp)) (zup1_n _ _ (by simp)) (zup1_n _ _ (by simp)) (zup1_n _ _ (by simp))) rfl rfl (Nat.le_of_ble_eq_true rfl) ⟨⟨Nat.le_of_ble_eq_true rfl, Nat.le_of_ble_eq_true rfl⟩, Nat.le_of_ble_eq_true rfl, Nat.le_of_ble_eq_true rfl⟩ (fun v ad2 M2 hpo => ?_)
  obtain ⟨rfl, ifr, i0, i1, i2, i3, i4, i6, iad⟩ := hpo
  rw [← iad]
  have h7 : ∀ k : zK, 7 ≤ k.1 → M2 k = none := fun k hk => by
    have hn : ¬ (k = (0, 0, 0, 0) ∨ k = (1, 0, 0, 0) ∨ k = (2, 0, 0, 0) ∨ k = (3, 0, 0, 0) ∨ k = (4, 0, 0, 0) ∨ k = (6, 0, 0, 0)) := fun q => by
      rcases q with q | q | q | q | q | q <;> rw [q] at hk <;> exact absurd hk (by decide)
    rw [(ifr k hn).1, zup1_n _ _ (fun q => hn (Or.inl q))]
  refine G_astore_n (pc := 7) 1 [(1, .ref (ad2 (0, 0, 0, 0))), (0, .ref b)] dL_law_7 rfl (by decide) rfl ?_
  refine G_new (pc := 8) (fs := [.int (zI 0), .int (zI 0), .int (zI 0), .int (zI 0), .int (zI 0), .null, .null, .null, .null, .null, .null, .int (zI 0), .null, .null, .null, .null, .null, .null, .null, .null, .int (zI 0), .null, .null, .int (zI 0), .null, .null, .null, .null, .null, .null, .null, .null, .int (zI 0), .null]) (40, 0, 0, 0) nw_L_120 dL_law_8 (h7 _ (by decide)) (by decide) ⟨Nat.le_of_ble_eq_true rfl, Nat.le_of_ble_eq_true rfl⟩ (fun ad3 had3 => ?_)
  rw [← had3 (0, 0, 0, 0) (by simp)]
  refine G_dup (pc := 11) dL_law_11 rfl ?_
  refine G_callI (pc := 12) (mc := 25) (ms := 3948) gk_L_122 dL_law_12 (c_X7_init (zup1_s _ _ _) (fun k h1 h2 => (zup1_n _ _ (fun q => by rw [q] at h1; exact absurd h1 (by decide))).trans (h7 k (by omega)))) rfl rfl (Nat.le_of_ble_eq_true rfl) ⟨⟨Nat.le_of_ble_eq_true rfl, Nat.le_of_ble_eq_true rfl⟩, Nat.le_of_ble_eq_true rfl, Nat.le_of_ble_eq_true rfl⟩ (fun v ad4 M4 hpo => ?_)
  obtain ⟨rfl, jad, M5, ⟨j40, jT, -, jM, ja⟩, hM4⟩ := hpo
  have e0 : ∀ k : zK, k.1 < 40 → M4 k = M2 k ∧ ad4 k = ad2 k := fun k hk => by
    have n40 : k ≠ (40, 0, 0, 0) := fun q => by rw [q] at hk; exact absurd hk (by decide)
    have n62 : k ≠ (62, 0, 0, 0) := fun q => by rw [q] at hk; exact absurd hk (by decide)
    refine ⟨?_, ?_⟩
    · rw [hM4, zup1_n _ _ n62, jM k (fun q => by rcases q with q | q; exact n40 q; omega), zup1_n _ _ n40]
    · rw [ja k (fun q => by omega), had3 k n40]
  have e80 : ∀ k : zK, 80 ≤ k.1 → M4 k = none := fun k hk => by
    have n40 : k ≠ (40, 0, 0, 0) := fun q => by rw [q] at hk; exact absurd hk (by decide)
    have n62 : k ≠ (62, 0, 0, 0) := fun q => by rw [q] at hk; exact absurd hk (by decide)
    rw [hM4, zup1_n _ _ n62, jM k (fun q => by rcases q with q | q; exact n40 q; omega), zup1_n _ _ n40, h7 k (by omega)]
  rw [← jad, show ad3 (0, 0, 0, 0) = ad4 (0, 0, 0, 0) from (had3 _ (by simp)).trans (e0 _ (by decide)).2.symm]
  refine G_astore_n (pc := 15) 2 [(2, .ref (ad4 (40, 0, 0, 0))), (1, .ref (ad4 (0, 0, 0, 0))), (0, .ref b)] dL_law_15 rfl (by decide) rfl ?_
  refine G_iconst (pc := 16) dL_law_16 ?_
  refine G_newa (82, 0, 0, 0) (pc := 17) (N := 1) (z := 1) (atype := .long) (t := 5) (a0 := (1, .inr (.inl (fun _ => 0)))) (zAW_of 1355 (by decide +kernel) (by decide +kernel)) rfl (fun _ _ h => h) rfl dL_law_17 (e80 _ (by decide)) (fun cA => rfl) rfl ⟨by decide, by decide⟩ (by decide) ⟨Nat.le_of_ble_eq_true rfl, Nat.le_of_ble_eq_true rfl⟩ (fun ad5 had5 => ?_)
  rw [← had5 (40, 0, 0, 0) (by simp), ← had5 (0, 0, 0, 0) (by simp)]
  refine G_astore_n (pc := 19) 3 [(3, .ref (ad5 (82, 0, 0, 0))), (2, .ref (ad5 (40, 0, 0, 0))), (1, .ref (ad5 (0, 0, 0, 0))), (0, .ref b)] dL_law_19 rfl (by decide) rfl ?_
  refine G_iconst (pc := 20) dL_law_20 ?_
  refine G_newa (83, 0, 0, 0) (pc := 21) (N := 1) (z := 1) (atype := .double) (t := 6) (a0 := (1, .inr (.inr (.inr (.inl (fun _ => FP.dconst0)))))) (zAW_of 1356 (by decide +kernel) (by decide +kernel)) rfl (fun _ _ h => h) rfl dL_law_21 ((zup1_n _ _ (by simp)).trans (e80 _ (by decide))) (fun cA => rfl) rfl ⟨by decide, by decide⟩ (by decide) ⟨Nat.le_of_ble_eq_true rfl, Nat.le_of_ble_eq_true rfl⟩ (fun ad6 had6 => ?_)
  rw [← had6 (40, 0, 0, 0) (by simp), ← had6 (0, 0, 0, 0) (by simp), ← had6 (82, 0, 0, 0) (by simp)]
  refine G_astore (pc := 23) [(4, .ref (ad6 (83, 0, 0, 0))), (3, .ref (ad6 (82, 0, 0, 0))), (2, .ref (ad6 (40, 0, 0, 0))), (1, .ref (ad6 (0, 0, 0, 0))), (0, .ref b)] dL_law_23 (by decide) rfl ?_
  refine G_nm (fun M7 hM7 => ?_)
  have m7 : ∀ k : zK, k.1 < 80 → M7 k = M4 k := fun k hk => by rw [hM7, zup1_n _ _ (fun q => by rw [q] at hk; exact absurd hk (by decide)), zup1_n _ _ (fun q => by rw [q] at hk; exact absurd hk (by decide))]
  have a7 : ∀ k : zK, k.1 < 80 → ad6 k = ad4 k := fun k hk => by rw [had6 k (fun q => by rw [q] at hk; exact absurd hk (by decide)), had5 k (fun q => by rw [q] at hk; exact absurd hk (by decide))]
  have c0 : ∀ n : Nat, n < 40 → M7 (n, 0, 0, 0) = M2 (n, 0, 0, 0) ∧ ad6 (n, 0, 0, 0) = ad2 (n, 0, 0, 0) := fun n hn => ⟨(m7 _ (by show n < 80; omega)).trans (e0 _ hn).1, (a7 _ (by show n < 80; omega)).trans (e0 _ hn).2⟩
  have key := mm_0 (Δ := z_d Γ) (ad := ad6) (M := M7) (w := 0) (wd := FP.dconst0) (by rw [(c0 0 (by decide)).1, (c0 4 (by decide)).2, (c0 6 (by decide)).2, (c0 1 (by decide)).2, (c0 3 (by decide)).2]; exact i0) (by rw [(c0 1 (by decide)).1, (c0 2 (by decide)).2]; exact i1) (by rw [(c0 2 (by decide)).1]; exact i2) (by rw [(c0 3 (by decide)).1]; exact i3) (by rw [(c0 4 (by decide)).1]; exact i4) (by rw [(c0 6 (by decide)).1]; exact i6)
    (by
      rw [m7 _ (by decide), hM4, zup1_n _ _ (by simp), j40]
      have e : mFd ad4 73 = mFd ad6 73 := by
        unfold mFd
        rw [a7 (45, 0, 0, 0) (by decide), a7 (46, 0, 0, 0) (by decide), a7 (47, 0, 0, 0) (by decide), a7 (48, 0, 0, 0) (by decide), a7 (49, 0, 0, 0) (by decide), a7 (50, 0, 0, 0) (by decide), a7 (52, 0, 0, 0) (by decide), a7 (53, 0, 0, 0) (by decide), a7 (54, 0, 0, 0) (by decide), a7 (55, 0, 0, 0) (by decide), a7 (56, 0, 0, 0) (by decide), a7 (57, 0, 0, 0) (by decide), a7 (58, 0, 0, 0) (by decide), a7 (59, 0, 0, 0) (by decide), a7 (61, 0, 0, 0) (by decide), a7 (62, 0, 0, 0) (by decide), a7 (64, 0, 0, 0) (by decide), a7 (65, 0, 0, 0) (by decide), a7 (66, 0, 0, 0) (by decide), a7 (67, 0, 0, 0) (by decide), a7 (68, 0, 0, 0) (by decide), a7 (69, 0, 0, 0) (by decide), a7 (70, 0, 0, 0) (by decide), a7 (71, 0, 0, 0) (by decide), a7 (73, 0, 0, 0) (by decide)]
      rw [e])
    (by rw [m7 _ (by decide), hM4, zup1_s]; rfl) (fun k h1 h2 h3 => by rw [m7 _ (by omega), hM4, zup1_n _ _ h3, jT k h1 h2]) (by rw [hM7, zup1_n _ _ (by simp), zup1_s]; rfl) (by rw [hM7, zup1_s]; rfl)
  refine G_ren (ad' := ad6) (M' := mm (z_d Γ) ad6 zP0 zT0 (zXl (z_d Γ) 0 FP.dconst0)) (fun k => k) (fun k e hk => ⟨key k e hk, rfl⟩) (fun k k' _ _ e => e) ?_
  refine G_iconst (pc := 25) dL_law_25 ?_
  refine G_istore (pc := 26) [(5, .int (zI 0)), (4, .ref (ad6 (83, 0, 0, 0))), (3, .ref (ad6 (82, 0, 0, 0))), (2, .ref (ad6 (40, 0, 0, 0))), (1, .ref (ad6 (0, 0, 0, 0))), (0, .ref b)] dL_law_26 (by decide) rfl ?_
  refine G_perm (lv' := zLv ad6 b 0) [0, 5, 4, 3, 2, 1] rfl ?_
  exact law_loop hst hNc hX hL hEnd 600 zP0 zT0 0 0 0 FP.dconst0 ad6 _ _ ⟨by decide, by decide, by decide⟩ xJ_0 (by decide) ⟨by decide, by decide⟩ (by decide)
