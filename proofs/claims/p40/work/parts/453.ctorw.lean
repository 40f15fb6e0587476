/-! ===== the Pier's constructor: the walk ===== -/
set_option maxHeartbeats 8000000 in
set_option maxRecDepth 100000 in
theorem w_X7_init {Γ : zCx} {ad : zK → Nat} {X : zMem} {post : zPo} {s : Nat} {d : Int} (hF : zFn Γ yX7_init.name none post 60 2000) (hs : s = (z_d Γ).2.2.2.1) (hX : ∀ k : zK, 200 ≤ k.1 → X k = none)
    (kk : ∀ ad' : zK → Nat, (∀ k : zK, k.1 < 200 → ad' k = ad k) → ad' (200, 0, 0, 0) = ad (200, 0, 0, 0) → post none ad' (pm (z_d Γ) ad' zP0 (zV0d d) X)) :
    G Γ (zRm 11 60 2000) cX7_init 3 RX7 ad (pI (fun _ => false) (z_d Γ) ad zP0 (zV0d d) [.ref (ad (0, 0, 0, 0)), .null, .int (zI 0), .int (zI 0), .int (zI 0), .int (zI 0), .int (zI 0), .null, .null, .null, .null, .null, .int (zI 0), .null, .null, .int (zI 0), .null, .null, .null, .null, .null, .null] X) 6 1021 15 [(0, .ref (ad (200, 0, 0, 0))), (1, .ref s), (2, .int (zI d))] [] := by
  subst hs
  refine G_aload_n (pc := 15) 0 0 dX7_init_15 rfl rfl ?_
  refine G_iconst (pc := 16) dX7_init_16 ?_
  refine G_putf (pc := 17) fl_X7_16 fp_X7_4 dX7_init_17 pI_f (Nat.le_of_ble_eq_true rfl) rfl rfl pI_put ?_
  show G Γ _ _ _ _ _ (pI (fun _ => false) (z_d Γ) ad zP0 (zV0d d) [.ref (ad (0, 0, 0, 0)), .null, .int (zI 0), .int (zI 0), .int (zI 2), .int (zI 0), .int (zI 0), .null, .null, .null, .null, .null, .int (zI 0), .null, .null, .int (zI 0), .null, .null, .null, .null, .null, .null] X) 6 1021 20 [(0, .ref (ad (200, 0, 0, 0))), (1, .ref (z_d Γ).2.2.2.1), (2, .int (zI d))] []
  refine G_aload_n (pc := 20) 0 0 dX7_init_20 rfl rfl ?_
  refine G_bipush (pc := 21) dX7_init_21 (by decide) ?_
  refine G_putf (pc := 23) fl_X7_20 fp_X7_5 dX7_init_23 pI_f (Nat.le_of_ble_eq_true rfl) rfl rfl pI_put ?_
  show G Γ _ _ _ _ _ (pI (fun _ => false) (z_d Γ) ad zP0 (zV0d d) [.ref (ad (0, 0, 0, 0)), .null, .int (zI 0), .int (zI 0), .int (zI 2), .int (zI 10), .int (zI 0), .null, .null, .null, .null, .null, .int (zI 0), .null, .null, .int (zI 0), .null, .null, .null, .null, .null, .null] X) 6 1021 26 [(0, .ref (ad (200, 0, 0, 0))), (1, .ref (z_d Γ).2.2.2.1), (2, .int (zI d))] []
  refine G_aload_n (pc := 26) 0 0 dX7_init_26 rfl rfl ?_
  refine G_iconst (pc := 27) dX7_init_27 ?_
  refine G_newA (pc := 28) (t := 7) (N := 0) (te := .array (.array .int)) (201, 0, 0, 0) cl_X7_23 (by decide) rfl dX7_init_28 ((pI_no (by simp) (by decide)).trans (hX _ (by decide))) rfl ⟨by omega, by omega⟩ (by decide) ⟨Nat.le_of_ble_eq_true rfl, Nat.le_of_ble_eq_true rfl⟩ (fun ad1 hup1 => ?_)
  rw [← hup1 (200, 0, 0, 0) (by simp)]
  refine G_eqv (M' := zup1 (pI (fun _ => false) (z_d Γ) ad zP0 (zV0d d) [.ref (ad (0, 0, 0, 0)), .null, .int (zI 0), .int (zI 0), .int (zI 2), .int (zI 10), .int (zI 0), .null, .null, .null, .null, .null, .int (zI 0), .null, .null, .int (zI 0), .null, .null, .null, .null, .null, .null] X) (201, 0, 0, 0) (some (.inl ((z_d Γ).2.1 7, 0, .inr (.inr (.inr (.inr (zAq (fun x => some (ad1 (202, x, 0, 0)))))))))) ) (fun k e' hk => ?_) ?_
  · by_cases hk2 : k = (201, 0, 0, 0)
    · subst hk2
      rw [zup1_s] at hk
      cases hk
      rw [zup1_s]
      exact ⟨_, rfl, fun H => va_eqF (fun x x0 x1 => by omega) H⟩
    · rw [zup1_n _ _ hk2] at hk
      rw [zup1_n _ _ hk2]
      exact ⟨e', hk, fun H h => h⟩
  rw [pI_one (ad' := ad1) (e0 := some (.inl ((z_d Γ).2.1 7, 0, .inr (.inr (.inr (.inr (zAq (fun x => some (ad1 (202, x, 0, 0)))))))))) (by decide) (by decide) hX (fun m h1 h2 => by
    have hm : m = 200 := by omega
    subst hm
    revert h1
    decide) rfl hup1 (fun i j l => rfl)]
  refine G_putf (pc := 31) fl_X7_25 fp_X7_7 dX7_init_31 pI_f (Nat.le_of_ble_eq_true rfl) rfl rfl pI_put ?_
  show G Γ _ _ _ _ _ (pI (fun m => m == 201 || (fun _ => false) m) (z_d Γ) ad1 zP0 (zV0d d) [.ref (ad (0, 0, 0, 0)), .null, .int (zI 0), .int (zI 0), .int (zI 2), .int (zI 10), .int (zI 0), .ref (ad1 (201, 0, 0, 0)), .null, .null, .null, .null, .int (zI 0), .null, .null, .int (zI 0), .null, .null, .null, .null, .null, .null] X) 7 1021 34 [(0, .ref (ad1 (200, 0, 0, 0))), (1, .ref (z_d Γ).2.2.2.1), (2, .int (zI d))] []
  refine G_aload_n (pc := 34) 0 0 dX7_init_34 rfl rfl ?_
  refine G_iconst (pc := 35) dX7_init_35 ?_
  refine G_rZ (pc := 36) (N := 4) (205, 0, 0, 0) dX7_init_36 ((pI_no (by simp) (by decide)).trans (hX _ (by decide))) rfl ⟨by omega, by omega⟩ ⟨Nat.le_of_ble_eq_true rfl, Nat.le_of_ble_eq_true rfl⟩ (fun ad2 hup2 => ?_)
  rw [← hup2 (200, 0, 0, 0) (by simp)]
  rw [pI_one (ad' := ad2) (e0 := some (.inl ((z_d Γ).2.1 1, 4, .inl (zAi (fun _ => 0))))) (by decide) (by decide) hX (fun m h1 h2 => by
    have hm : m = 204 := by omega
    subst hm
    revert h1
    decide) rfl hup2 (fun i j l => by show (if _ then (some (.inl ((z_d Γ).2.1 1, 4, .inl (zAi (fun x => zV0d d (8, x, 0, 0) 1)))) : Option va_E) else none) = _; rw [show (fun x : Int => zV0d d (8, x, 0, 0) 1) = (fun _ => 0) from funext fun x => zV0d_z (by simp) (by simp) (by simp) (by simp)])]
  refine G_putF (pc := 38) fl_X7_29 ff_X7_29 hF.2.1 dX7_init_38 pI_f (Nat.le_of_ble_eq_true rfl) rfl rfl pI_put ?_
  show G Γ _ _ _ _ _ (pI (fun m => m == 205 || (fun m => m == 201 || (fun _ => false) m) m) (z_d Γ) ad2 zP0 (zV0d d) [.ref (ad (0, 0, 0, 0)), .null, .int (zI 0), .int (zI 0), .int (zI 2), .int (zI 10), .int (zI 0), .ref (ad1 (201, 0, 0, 0)), .ref (ad2 (205, 0, 0, 0)), .null, .null, .null, .int (zI 0), .null, .null, .int (zI 0), .null, .null, .null, .null, .null, .null] X) 8 1025 41 [(0, .ref (ad2 (200, 0, 0, 0))), (1, .ref (z_d Γ).2.2.2.1), (2, .int (zI d))] []
  refine G_aload_n (pc := 41) 0 0 dX7_init_41 rfl rfl ?_
  refine G_iconst (pc := 42) dX7_init_42 ?_
  refine G_rI (pc := 43) (N := 4) (206, 0, 0, 0) dX7_init_43 ((pI_no (by simp) (by decide)).trans (hX _ (by decide))) rfl ⟨by omega, by omega⟩ ⟨Nat.le_of_ble_eq_true rfl, Nat.le_of_ble_eq_true rfl⟩ (fun ad3 hup3 => ?_)
  rw [← hup3 (200, 0, 0, 0) (by simp)]
  rw [pI_one (ad' := ad3) (e0 := some (.inl ((z_d Γ).2.1 0, 4, .inl (zAi (fun _ => 0))))) (by decide) (by decide) hX (fun m h1 h2 => by
    have hm : m = 205 := by omega
    subst hm
    revert h1
    decide) rfl hup3 (fun i j l => by show (if _ then (some (.inl ((z_d Γ).2.1 0, 4, .inl (zAi (fun x => zV0d d (8, x, 0, 0) 3)))) : Option va_E) else none) = _; rw [show (fun x : Int => zV0d d (8, x, 0, 0) 3) = (fun _ => 0) from funext fun x => zV0d_z (by simp) (by simp) (by simp) (by simp)])]
  refine G_putF (pc := 45) fl_X7_33 ff_X7_33 hF.2.1 dX7_init_45 pI_f (Nat.le_of_ble_eq_true rfl) rfl rfl pI_put ?_
  show G Γ _ _ _ _ _ (pI (fun m => m == 206 || (fun m => m == 205 || (fun m => m == 201 || (fun _ => false) m) m) m) (z_d Γ) ad3 zP0 (zV0d d) [.ref (ad (0, 0, 0, 0)), .null, .int (zI 0), .int (zI 0), .int (zI 2), .int (zI 10), .int (zI 0), .ref (ad1 (201, 0, 0, 0)), .ref (ad2 (205, 0, 0, 0)), .ref (ad3 (206, 0, 0, 0)), .null, .null, .int (zI 0), .null, .null, .int (zI 0), .null, .null, .null, .null, .null, .null] X) 9 1029 48 [(0, .ref (ad3 (200, 0, 0, 0))), (1, .ref (z_d Γ).2.2.2.1), (2, .int (zI d))] []
  refine G_aload_n (pc := 48) 0 0 dX7_init_48 rfl rfl ?_
  refine G_iconst (pc := 49) dX7_init_49 ?_
  refine G_iconst (pc := 50) dX7_init_50 ?_
  refine G_mI (pc := 51) (n := 207) dX7_init_51 ((pI_no (by simp) (by decide)).trans (hX _ (by decide))) (fun j => (pI_no (by simp) rfl).trans (hX _ (by show 200 ≤ 208; decide))) ⟨Nat.le_of_ble_eq_true rfl, Nat.le_of_ble_eq_true rfl⟩ (fun ad4 M4 h4 a4 b4 => ?_)
  have hup4 : ∀ k : zK, k.1 ≠ 207 → k.1 ≠ 208 → ad4 k = ad3 k := fun k q r => (h4 k (fun w => q (by rw [w])) (fun j _ _ w => r (by rw [w]))).1
  rw [← hup4 (200, 0, 0, 0) (by simp) (by simp)]
  rw [pI_mul (n := 207) (ad' := ad4) (e0 := some (.inl ((z_d Γ).2.1 5, 4, .inr (.inr (.inr (.inr (zAq (fun x => some (ad4 (207 + 1, x, 0, 0)))))))))) (e1 := some (.inl ((z_d Γ).2.1 0, 4, .inl (zAi (fun _ => 0))))) (by decide) ⟨by decide, by decide⟩ hX (fun m h1 h2 => by
    have hm : m = 206 := by omega
    subst hm
    revert h1
    decide) rfl h4 a4 b4 (fun i j l => rfl) (fun i j l => by show (if _ then (some (.inl ((z_d Γ).2.1 0, 4, .inl (zAi (fun x => zV0d d (11, i, x, 0) 1)))) : Option va_E) else none) = _; rw [show (fun x : Int => zV0d d (11, i, x, 0) 1) = (fun _ => 0) from funext fun x => zV0d_z (by simp) (by simp) (by simp) (by simp)])]
  refine G_putF (pc := 55) fl_X7_39 ff_X7_39 hF.2.1 dX7_init_55 pI_f (Nat.le_of_ble_eq_true rfl) rfl rfl pI_put ?_
  show G Γ _ _ _ _ _ (pI (fun m => m == 207 || (m == 207 + 1 || (fun m => m == 206 || (fun m => m == 205 || (fun m => m == 201 || (fun _ => false) m) m) m) m)) (z_d Γ) ad4 zP0 (zV0d d) [.ref (ad (0, 0, 0, 0)), .null, .int (zI 0), .int (zI 0), .int (zI 2), .int (zI 10), .int (zI 0), .ref (ad1 (201, 0, 0, 0)), .ref (ad2 (205, 0, 0, 0)), .ref (ad3 (206, 0, 0, 0)), .ref (ad4 (207, 0, 0, 0)), .null, .int (zI 0), .null, .null, .int (zI 0), .null, .null, .null, .null, .null, .null] X) 14 1049 58 [(0, .ref (ad4 (200, 0, 0, 0))), (1, .ref (z_d Γ).2.2.2.1), (2, .int (zI d))] []
  refine G_aload_n (pc := 58) 0 0 dX7_init_58 rfl rfl ?_
  refine G_iconst (pc := 59) dX7_init_59 ?_
  refine G_iconst (pc := 60) dX7_init_60 ?_
  refine G_mI (pc := 61) (n := 209) dX7_init_61 ((pI_no (by simp) (by decide)).trans (hX _ (by decide))) (fun j => (pI_no (by simp) rfl).trans (hX _ (by show 200 ≤ 210; decide))) ⟨Nat.le_of_ble_eq_true rfl, Nat.le_of_ble_eq_true rfl⟩ (fun ad5 M5 h5 a5 b5 => ?_)
  have hup5 : ∀ k : zK, k.1 ≠ 209 → k.1 ≠ 210 → ad5 k = ad4 k := fun k q r => (h5 k (fun w => q (by rw [w])) (fun j _ _ w => r (by rw [w]))).1
  rw [← hup5 (200, 0, 0, 0) (by simp) (by simp)]
  rw [pI_mul (n := 209) (ad' := ad5) (e0 := some (.inl ((z_d Γ).2.1 5, 4, .inr (.inr (.inr (.inr (zAq (fun x => some (ad5 (209 + 1, x, 0, 0)))))))))) (e1 := some (.inl ((z_d Γ).2.1 0, 4, .inl (zAi (fun _ => 0))))) (by decide) ⟨by decide, by decide⟩ hX (fun m h1 h2 => by
    have hm : m = 208 := by omega
    subst hm
    revert h1
    decide) rfl h5 a5 b5 (fun i j l => rfl) (fun i j l => by show (if _ then (some (.inl ((z_d Γ).2.1 0, 4, .inl (zAi (fun x => zV0d d (10, i, 0, 0) x)))) : Option va_E) else none) = _; rw [show (fun x : Int => zV0d d (10, i, 0, 0) x) = (fun _ => 0) from funext fun x => zV0d_z (by simp) (by simp) (by simp) (by simp)])]
  refine G_putF (pc := 65) fl_X7_42 ff_X7_42 hF.2.1 dX7_init_65 pI_f (Nat.le_of_ble_eq_true rfl) rfl rfl pI_put ?_
  show G Γ _ _ _ _ _ (pI (fun m => m == 209 || (m == 209 + 1 || (fun m => m == 207 || (m == 207 + 1 || (fun m => m == 206 || (fun m => m == 205 || (fun m => m == 201 || (fun _ => false) m) m) m) m)) m)) (z_d Γ) ad5 zP0 (zV0d d) [.ref (ad (0, 0, 0, 0)), .null, .int (zI 0), .int (zI 0), .int (zI 2), .int (zI 10), .int (zI 0), .ref (ad1 (201, 0, 0, 0)), .ref (ad2 (205, 0, 0, 0)), .ref (ad3 (206, 0, 0, 0)), .ref (ad4 (207, 0, 0, 0)), .ref (ad5 (209, 0, 0, 0)), .int (zI 0), .null, .null, .int (zI 0), .null, .null, .null, .null, .null, .null] X) 19 1069 68 [(0, .ref (ad5 (200, 0, 0, 0))), (1, .ref (z_d Γ).2.2.2.1), (2, .int (zI d))] []
  refine G_aload_n (pc := 68) 0 0 dX7_init_68 rfl rfl ?_
  refine G_sipush (pc := 69) dX7_init_69 (by decide) ?_
  refine G_rI (pc := 72) (N := 200) (211, 0, 0, 0) dX7_init_72 ((pI_no (by simp) (by decide)).trans (hX _ (by decide))) rfl ⟨by omega, by omega⟩ ⟨Nat.le_of_ble_eq_true rfl, Nat.le_of_ble_eq_true rfl⟩ (fun ad6 hup6 => ?_)
  rw [← hup6 (200, 0, 0, 0) (by simp)]
  rw [pI_one (ad' := ad6) (e0 := some (.inl ((z_d Γ).2.1 0, 200, .inl (zAi (fun _ => 0))))) (by decide) (by decide) hX (fun m h1 h2 => by
    have hm : m = 210 := by omega
    subst hm
    revert h1
    decide) rfl hup6 (fun i j l => by show (if _ then (some (.inl ((z_d Γ).2.1 0, 200, .inl (zAi (fun x => zV0d d (211, 0, 0, 0) x)))) : Option va_E) else none) = _; rw [show (fun x : Int => zV0d d (211, 0, 0, 0) x) = (fun _ => 0) from funext fun x => zV0d_z (by simp) (by simp) (by simp) (by simp)])]
  refine G_putF (pc := 74) fl_X7_45 ff_X7_45 hF.2.1 dX7_init_74 pI_f (Nat.le_of_ble_eq_true rfl) rfl rfl pI_put ?_
  show G Γ _ _ _ _ _ (pI (fun m => m == 211 || (fun m => m == 209 || (m == 209 + 1 || (fun m => m == 207 || (m == 207 + 1 || (fun m => m == 206 || (fun m => m == 205 || (fun m => m == 201 || (fun _ => false) m) m) m) m)) m)) m) (z_d Γ) ad6 zP0 (zV0d d) [.ref (ad (0, 0, 0, 0)), .null, .int (zI 0), .int (zI 0), .int (zI 2), .int (zI 10), .int (zI 0), .ref (ad1 (201, 0, 0, 0)), .ref (ad2 (205, 0, 0, 0)), .ref (ad3 (206, 0, 0, 0)), .ref (ad4 (207, 0, 0, 0)), .ref (ad5 (209, 0, 0, 0)), .int (zI 0), .ref (ad6 (211, 0, 0, 0)), .null, .int (zI 0), .null, .null, .null, .null, .null, .null] X) 20 1269 77 [(0, .ref (ad6 (200, 0, 0, 0))), (1, .ref (z_d Γ).2.2.2.1), (2, .int (zI d))] []
  refine G_aload_n (pc := 77) 0 0 dX7_init_77 rfl rfl ?_
  refine G_iconst (pc := 78) dX7_init_78 ?_
  refine G_rI (pc := 79) (N := 4) (212, 0, 0, 0) dX7_init_79 ((pI_no (by simp) (by decide)).trans (hX _ (by decide))) rfl ⟨by omega, by omega⟩ ⟨Nat.le_of_ble_eq_true rfl, Nat.le_of_ble_eq_true rfl⟩ (fun ad7 hup7 => ?_)
  rw [← hup7 (200, 0, 0, 0) (by simp)]
  refine G_dup (pc := 81) dX7_init_81 rfl ?_
  refine G_iconst (pc := 82) dX7_init_82 ?_
  refine G_iconst (pc := 83) dX7_init_83 ?_
  refine G_iast (pc := 84) dX7_init_84 (zup1_s _ _ _) ⟨by omega, by omega, by omega, by omega⟩ zup1_2 ?_
  refine G_dup (pc := 85) dX7_init_85 rfl ?_
  refine G_iconst (pc := 86) dX7_init_86 ?_
  refine G_iconst (pc := 87) dX7_init_87 ?_
  refine G_iast (pc := 88) dX7_init_88 (zup1_s _ _ _) ⟨by omega, by omega, by omega, by omega⟩ zup1_2 ?_
  refine G_dup (pc := 89) dX7_init_89 rfl ?_
  refine G_iconst (pc := 90) dX7_init_90 ?_
  refine G_iconst (pc := 91) dX7_init_91 ?_
  refine G_iast (pc := 92) dX7_init_92 (zup1_s _ _ _) ⟨by omega, by omega, by omega, by omega⟩ zup1_2 ?_
  refine G_dup (pc := 93) dX7_init_93 rfl ?_
  refine G_iconst (pc := 94) dX7_init_94 ?_
  refine G_iconst (pc := 95) dX7_init_95 ?_
  refine G_iast (pc := 96) dX7_init_96 (zup1_s _ _ _) ⟨by omega, by omega, by omega, by omega⟩ zup1_2 ?_
  rw [pI_one (ad' := ad7) (e0 := some (.inl ((z_d Γ).2.1 0, 4, .inl (zAi (zup (zup (zup (zup (fun _ => 0) 0 (-1)) 1 (-1)) 2 (-1)) 3 (-1)))))) (by decide) (by decide) hX (fun m h1 h2 => by
    have hm : m = 211 := by omega
    subst hm
    revert h1
    decide) rfl hup7 (fun i j l => rfl)]
  refine G_putF (pc := 97) fl_X7_48 ff_X7_48 hF.2.1 dX7_init_97 pI_f (Nat.le_of_ble_eq_true rfl) rfl rfl pI_put ?_
  show G Γ _ _ _ _ _ (pI (fun m => m == 212 || (fun m => m == 211 || (fun m => m == 209 || (m == 209 + 1 || (fun m => m == 207 || (m == 207 + 1 || (fun m => m == 206 || (fun m => m == 205 || (fun m => m == 201 || (fun _ => false) m) m) m) m)) m)) m) m) (z_d Γ) ad7 zP0 (zV0d d) [.ref (ad (0, 0, 0, 0)), .null, .int (zI 0), .int (zI 0), .int (zI 2), .int (zI 10), .int (zI 0), .ref (ad1 (201, 0, 0, 0)), .ref (ad2 (205, 0, 0, 0)), .ref (ad3 (206, 0, 0, 0)), .ref (ad4 (207, 0, 0, 0)), .ref (ad5 (209, 0, 0, 0)), .int (zI 0), .ref (ad6 (211, 0, 0, 0)), .ref (ad7 (212, 0, 0, 0)), .int (zI 0), .null, .null, .null, .null, .null, .null] X) 21 1273 100 [(0, .ref (ad7 (200, 0, 0, 0))), (1, .ref (z_d Γ).2.2.2.1), (2, .int (zI d))] []
  refine G_aload_n (pc := 100) 0 0 dX7_init_100 rfl rfl ?_
  refine G_iconst (pc := 101) dX7_init_101 ?_
  refine G_rI (pc := 102) (N := 4) (213, 0, 0, 0) dX7_init_102 ((pI_no (by simp) (by decide)).trans (hX _ (by decide))) rfl ⟨by omega, by omega⟩ ⟨Nat.le_of_ble_eq_true rfl, Nat.le_of_ble_eq_true rfl⟩ (fun ad8 hup8 => ?_)
  rw [← hup8 (200, 0, 0, 0) (by simp)]
  rw [pI_one (ad' := ad8) (e0 := some (.inl ((z_d Γ).2.1 0, 4, .inl (zAi (fun _ => 0))))) (by decide) (by decide) hX (fun m h1 h2 => by
    have hm : m = 212 := by omega
    subst hm
    revert h1
    decide) rfl hup8 (fun i j l => by show (if _ then (some (.inl ((z_d Γ).2.1 0, 4, .inl (zAi (fun x => zV0d d (213, 0, 0, 0) x)))) : Option va_E) else none) = _; rw [show (fun x : Int => zV0d d (213, 0, 0, 0) x) = (fun _ => 0) from funext fun x => zV0d_z (by simp) (by simp) (by simp) (by simp)])]
  refine G_putF (pc := 104) fl_X7_51 ff_X7_51 hF.2.1 dX7_init_104 pI_f (Nat.le_of_ble_eq_true rfl) rfl rfl pI_put ?_
  show G Γ _ _ _ _ _ (pI (fun m => m == 213 || (fun m => m == 212 || (fun m => m == 211 || (fun m => m == 209 || (m == 209 + 1 || (fun m => m == 207 || (m == 207 + 1 || (fun m => m == 206 || (fun m => m == 205 || (fun m => m == 201 || (fun _ => false) m) m) m) m)) m)) m) m) m) (z_d Γ) ad8 zP0 (zV0d d) [.ref (ad (0, 0, 0, 0)), .null, .int (zI 0), .int (zI 0), .int (zI 2), .int (zI 10), .int (zI 0), .ref (ad1 (201, 0, 0, 0)), .ref (ad2 (205, 0, 0, 0)), .ref (ad3 (206, 0, 0, 0)), .ref (ad4 (207, 0, 0, 0)), .ref (ad5 (209, 0, 0, 0)), .int (zI 0), .ref (ad6 (211, 0, 0, 0)), .ref (ad7 (212, 0, 0, 0)), .int (zI 0), .ref (ad8 (213, 0, 0, 0)), .null, .null, .null, .null, .null] X) 22 1277 107 [(0, .ref (ad8 (200, 0, 0, 0))), (1, .ref (z_d Γ).2.2.2.1), (2, .int (zI d))] []
  refine G_aload_n (pc := 107) 0 0 dX7_init_107 rfl rfl ?_
  refine G_iconst (pc := 108) dX7_init_108 ?_
  refine G_iconst (pc := 109) dX7_init_109 ?_
  refine G_mI (pc := 110) (n := 214) dX7_init_110 ((pI_no (by simp) (by decide)).trans (hX _ (by decide))) (fun j => (pI_no (by simp) rfl).trans (hX _ (by show 200 ≤ 215; decide))) ⟨Nat.le_of_ble_eq_true rfl, Nat.le_of_ble_eq_true rfl⟩ (fun ad9 M9 h9 a9 b9 => ?_)
  have hup9 : ∀ k : zK, k.1 ≠ 214 → k.1 ≠ 215 → ad9 k = ad8 k := fun k q r => (h9 k (fun w => q (by rw [w])) (fun j _ _ w => r (by rw [w]))).1
  rw [← hup9 (200, 0, 0, 0) (by simp) (by simp)]
  rw [pI_mul (n := 214) (ad' := ad9) (e0 := some (.inl ((z_d Γ).2.1 5, 4, .inr (.inr (.inr (.inr (zAq (fun x => some (ad9 (214 + 1, x, 0, 0)))))))))) (e1 := some (.inl ((z_d Γ).2.1 0, 4, .inl (zAi (fun _ => 0))))) (by decide) ⟨by decide, by decide⟩ hX (fun m h1 h2 => by
    have hm : m = 213 := by omega
    subst hm
    revert h1
    decide) rfl h9 a9 b9 (fun i j l => rfl) (fun i j l => by show (if _ then (some (.inl ((z_d Γ).2.1 0, 4, .inl (zAi (fun x => zV0d d (18, i, x, 0) 5)))) : Option va_E) else none) = _; rw [show (fun x : Int => zV0d d (18, i, x, 0) 5) = (fun _ => 0) from funext fun x => zV0d_z (by simp) (by simp) (by simp) (by simp)])]
  refine G_putF (pc := 114) fl_X7_54 ff_X7_54 hF.2.1 dX7_init_114 pI_f (Nat.le_of_ble_eq_true rfl) rfl rfl pI_put ?_
  show G Γ _ _ _ _ _ (pI (fun m => m == 214 || (m == 214 + 1 || (fun m => m == 213 || (fun m => m == 212 || (fun m => m == 211 || (fun m => m == 209 || (m == 209 + 1 || (fun m => m == 207 || (m == 207 + 1 || (fun m => m == 206 || (fun m => m == 205 || (fun m => m == 201 || (fun _ => false) m) m) m) m)) m)) m) m) m) m)) (z_d Γ) ad9 zP0 (zV0d d) [.ref (ad (0, 0, 0, 0)), .null, .int (zI 0), .int (zI 0), .int (zI 2), .int (zI 10), .int (zI 0), .ref (ad1 (201, 0, 0, 0)), .ref (ad2 (205, 0, 0, 0)), .ref (ad3 (206, 0, 0, 0)), .ref (ad4 (207, 0, 0, 0)), .ref (ad5 (209, 0, 0, 0)), .int (zI 0), .ref (ad6 (211, 0, 0, 0)), .ref (ad7 (212, 0, 0, 0)), .int (zI 0), .ref (ad8 (213, 0, 0, 0)), .ref (ad9 (214, 0, 0, 0)), .null, .null, .null, .null] X) 27 1297 117 [(0, .ref (ad9 (200, 0, 0, 0))), (1, .ref (z_d Γ).2.2.2.1), (2, .int (zI d))] []
  refine G_aload_n (pc := 117) 0 0 dX7_init_117 rfl rfl ?_
  refine G_iconst (pc := 118) dX7_init_118 ?_
  refine G_iconst (pc := 119) dX7_init_119 ?_
  refine G_mI (pc := 120) (n := 216) dX7_init_120 ((pI_no (by simp) (by decide)).trans (hX _ (by decide))) (fun j => (pI_no (by simp) rfl).trans (hX _ (by show 200 ≤ 217; decide))) ⟨Nat.le_of_ble_eq_true rfl, Nat.le_of_ble_eq_true rfl⟩ (fun ad10 M10 h10 a10 b10 => ?_)
  have hup10 : ∀ k : zK, k.1 ≠ 216 → k.1 ≠ 217 → ad10 k = ad9 k := fun k q r => (h10 k (fun w => q (by rw [w])) (fun j _ _ w => r (by rw [w]))).1
  rw [← hup10 (200, 0, 0, 0) (by simp) (by simp)]
  rw [pI_mul (n := 216) (ad' := ad10) (e0 := some (.inl ((z_d Γ).2.1 5, 4, .inr (.inr (.inr (.inr (zAq (fun x => some (ad10 (216 + 1, x, 0, 0)))))))))) (e1 := some (.inl ((z_d Γ).2.1 0, 4, .inl (zAi (fun _ => 0))))) (by decide) ⟨by decide, by decide⟩ hX (fun m h1 h2 => by
    have hm : m = 215 := by omega
    subst hm
    revert h1
    decide) rfl h10 a10 b10 (fun i j l => rfl) (fun i j l => by show (if _ then (some (.inl ((z_d Γ).2.1 0, 4, .inl (zAi (fun x => zV0d d (18, i, x, 0) 6)))) : Option va_E) else none) = _; rw [show (fun x : Int => zV0d d (18, i, x, 0) 6) = (fun _ => 0) from funext fun x => zV0d_z (by simp) (by simp) (by simp) (by simp)])]
  refine G_putF (pc := 124) fl_X7_57 ff_X7_57 hF.2.1 dX7_init_124 pI_f (Nat.le_of_ble_eq_true rfl) rfl rfl pI_put ?_
  show G Γ _ _ _ _ _ (pI (fun m => m == 216 || (m == 216 + 1 || (fun m => m == 214 || (m == 214 + 1 || (fun m => m == 213 || (fun m => m == 212 || (fun m => m == 211 || (fun m => m == 209 || (m == 209 + 1 || (fun m => m == 207 || (m == 207 + 1 || (fun m => m == 206 || (fun m => m == 205 || (fun m => m == 201 || (fun _ => false) m) m) m) m)) m)) m) m) m) m)) m)) (z_d Γ) ad10 zP0 (zV0d d) [.ref (ad (0, 0, 0, 0)), .null, .int (zI 0), .int (zI 0), .int (zI 2), .int (zI 10), .int (zI 0), .ref (ad1 (201, 0, 0, 0)), .ref (ad2 (205, 0, 0, 0)), .ref (ad3 (206, 0, 0, 0)), .ref (ad4 (207, 0, 0, 0)), .ref (ad5 (209, 0, 0, 0)), .int (zI 0), .ref (ad6 (211, 0, 0, 0)), .ref (ad7 (212, 0, 0, 0)), .int (zI 0), .ref (ad8 (213, 0, 0, 0)), .ref (ad9 (214, 0, 0, 0)), .ref (ad10 (216, 0, 0, 0)), .null, .null, .null] X) 32 1317 127 [(0, .ref (ad10 (200, 0, 0, 0))), (1, .ref (z_d Γ).2.2.2.1), (2, .int (zI d))] []
  refine G_aload_n (pc := 127) 0 0 dX7_init_127 rfl rfl ?_
  refine G_iconst (pc := 128) dX7_init_128 ?_
  refine G_iconst (pc := 129) dX7_init_129 ?_
  refine G_mI (pc := 130) (n := 218) dX7_init_130 ((pI_no (by simp) (by decide)).trans (hX _ (by decide))) (fun j => (pI_no (by simp) rfl).trans (hX _ (by show 200 ≤ 219; decide))) ⟨Nat.le_of_ble_eq_true rfl, Nat.le_of_ble_eq_true rfl⟩ (fun ad11 M11 h11 a11 b11 => ?_)
  have hup11 : ∀ k : zK, k.1 ≠ 218 → k.1 ≠ 219 → ad11 k = ad10 k := fun k q r => (h11 k (fun w => q (by rw [w])) (fun j _ _ w => r (by rw [w]))).1
  rw [← hup11 (200, 0, 0, 0) (by simp) (by simp)]
  rw [pI_mul (n := 218) (ad' := ad11) (e0 := some (.inl ((z_d Γ).2.1 5, 4, .inr (.inr (.inr (.inr (zAq (fun x => some (ad11 (218 + 1, x, 0, 0)))))))))) (e1 := some (.inl ((z_d Γ).2.1 0, 4, .inl (zAi (fun _ => 0))))) (by decide) ⟨by decide, by decide⟩ hX (fun m h1 h2 => by
    have hm : m = 217 := by omega
    subst hm
    revert h1
    decide) rfl h11 a11 b11 (fun i j l => rfl) (fun i j l => by show (if _ then (some (.inl ((z_d Γ).2.1 0, 4, .inl (zAi (fun x => zV0d d (18, i, x, 0) 4)))) : Option va_E) else none) = _; rw [show (fun x : Int => zV0d d (18, i, x, 0) 4) = (fun _ => 0) from funext fun x => zV0d_z (by simp) (by simp) (by simp) (by simp)])]
  refine G_putF (pc := 134) fl_X7_60 ff_X7_60 hF.2.1 dX7_init_134 pI_f (Nat.le_of_ble_eq_true rfl) rfl rfl pI_put ?_
  show G Γ _ _ _ _ _ (pI (fun m => m == 218 || (m == 218 + 1 || (fun m => m == 216 || (m == 216 + 1 || (fun m => m == 214 || (m == 214 + 1 || (fun m => m == 213 || (fun m => m == 212 || (fun m => m == 211 || (fun m => m == 209 || (m == 209 + 1 || (fun m => m == 207 || (m == 207 + 1 || (fun m => m == 206 || (fun m => m == 205 || (fun m => m == 201 || (fun _ => false) m) m) m) m)) m)) m) m) m) m)) m)) m)) (z_d Γ) ad11 zP0 (zV0d d) [.ref (ad (0, 0, 0, 0)), .null, .int (zI 0), .int (zI 0), .int (zI 2), .int (zI 10), .int (zI 0), .ref (ad1 (201, 0, 0, 0)), .ref (ad2 (205, 0, 0, 0)), .ref (ad3 (206, 0, 0, 0)), .ref (ad4 (207, 0, 0, 0)), .ref (ad5 (209, 0, 0, 0)), .int (zI 0), .ref (ad6 (211, 0, 0, 0)), .ref (ad7 (212, 0, 0, 0)), .int (zI 0), .ref (ad8 (213, 0, 0, 0)), .ref (ad9 (214, 0, 0, 0)), .ref (ad10 (216, 0, 0, 0)), .ref (ad11 (218, 0, 0, 0)), .null, .null] X) 37 1337 137 [(0, .ref (ad11 (200, 0, 0, 0))), (1, .ref (z_d Γ).2.2.2.1), (2, .int (zI d))] []
  refine G_aload_n (pc := 137) 0 0 dX7_init_137 rfl rfl ?_
  refine G_iconst (pc := 138) dX7_init_138 ?_
  refine G_bipush (pc := 139) dX7_init_139 (by decide) ?_
  refine G_mZ (pc := 141) (n := 220) dX7_init_141 ((pI_no (by simp) (by decide)).trans (hX _ (by decide))) (fun j => (pI_no (by simp) rfl).trans (hX _ (by show 200 ≤ 221; decide))) ⟨Nat.le_of_ble_eq_true rfl, Nat.le_of_ble_eq_true rfl⟩ (fun ad12 M12 h12 a12 b12 => ?_)
  have hup12 : ∀ k : zK, k.1 ≠ 220 → k.1 ≠ 221 → ad12 k = ad11 k := fun k q r => (h12 k (fun w => q (by rw [w])) (fun j _ _ w => r (by rw [w]))).1
  rw [← hup12 (200, 0, 0, 0) (by simp) (by simp)]
  rw [pI_mul (n := 220) (ad' := ad12) (e0 := some (.inl ((z_d Γ).2.1 8, 4, .inr (.inr (.inr (.inr (zAq (fun x => some (ad12 (220 + 1, x, 0, 0)))))))))) (e1 := some (.inl ((z_d Γ).2.1 1, 6, .inl (zAi (fun _ => 0))))) (by decide) ⟨by decide, by decide⟩ hX (fun m h1 h2 => by
    have hm : m = 219 := by omega
    subst hm
    revert h1
    decide) rfl h12 a12 b12 (fun i j l => rfl) (fun i j l => by show (if _ then (some (.inl ((z_d Γ).2.1 1, 6, .inl (zAi (fun x => zV0d d (17, i, 0, 0) x)))) : Option va_E) else none) = _; rw [show (fun x : Int => zV0d d (17, i, 0, 0) x) = (fun _ => 0) from funext fun x => zV0d_z (by simp) (by simp) (by simp) (by simp)])]
  refine G_putF (pc := 145) fl_X7_65 ff_X7_65 hF.2.1 dX7_init_145 pI_f (Nat.le_of_ble_eq_true rfl) rfl rfl pI_put ?_
  show G Γ _ _ _ _ _ (pI (fun m => m == 220 || (m == 220 + 1 || (fun m => m == 218 || (m == 218 + 1 || (fun m => m == 216 || (m == 216 + 1 || (fun m => m == 214 || (m == 214 + 1 || (fun m => m == 213 || (fun m => m == 212 || (fun m => m == 211 || (fun m => m == 209 || (m == 209 + 1 || (fun m => m == 207 || (m == 207 + 1 || (fun m => m == 206 || (fun m => m == 205 || (fun m => m == 201 || (fun _ => false) m) m) m) m)) m)) m) m) m) m)) m)) m)) m)) (z_d Γ) ad12 zP0 (zV0d d) [.ref (ad (0, 0, 0, 0)), .null, .int (zI 0), .int (zI 0), .int (zI 2), .int (zI 10), .int (zI 0), .ref (ad1 (201, 0, 0, 0)), .ref (ad2 (205, 0, 0, 0)), .ref (ad3 (206, 0, 0, 0)), .ref (ad4 (207, 0, 0, 0)), .ref (ad5 (209, 0, 0, 0)), .int (zI 0), .ref (ad6 (211, 0, 0, 0)), .ref (ad7 (212, 0, 0, 0)), .int (zI 0), .ref (ad8 (213, 0, 0, 0)), .ref (ad9 (214, 0, 0, 0)), .ref (ad10 (216, 0, 0, 0)), .ref (ad11 (218, 0, 0, 0)), .ref (ad12 (220, 0, 0, 0)), .null] X) 42 1365 148 [(0, .ref (ad12 (200, 0, 0, 0))), (1, .ref (z_d Γ).2.2.2.1), (2, .int (zI d))] []
  refine G_aload_n (pc := 148) 0 0 dX7_init_148 rfl rfl ?_
  refine G_iconst (pc := 149) dX7_init_149 ?_
  refine G_newA (pc := 150) (t := 5) (N := 0) (te := .int) (222, 0, 0, 0) cl_X7_68 (by decide) rfl dX7_init_150 ((pI_no (by simp) (by decide)).trans (hX _ (by decide))) rfl ⟨by omega, by omega⟩ (by decide) ⟨Nat.le_of_ble_eq_true rfl, Nat.le_of_ble_eq_true rfl⟩ (fun ad13 hup13 => ?_)
  rw [← hup13 (200, 0, 0, 0) (by simp)]
  refine G_eqv (M' := zup1 (pI (fun m => m == 220 || (m == 220 + 1 || (fun m => m == 218 || (m == 218 + 1 || (fun m => m == 216 || (m == 216 + 1 || (fun m => m == 214 || (m == 214 + 1 || (fun m => m == 213 || (fun m => m == 212 || (fun m => m == 211 || (fun m => m == 209 || (m == 209 + 1 || (fun m => m == 207 || (m == 207 + 1 || (fun m => m == 206 || (fun m => m == 205 || (fun m => m == 201 || (fun _ => false) m) m) m) m)) m)) m) m) m) m)) m)) m)) m)) (z_d Γ) ad12 zP0 (zV0d d) [.ref (ad (0, 0, 0, 0)), .null, .int (zI 0), .int (zI 0), .int (zI 2), .int (zI 10), .int (zI 0), .ref (ad1 (201, 0, 0, 0)), .ref (ad2 (205, 0, 0, 0)), .ref (ad3 (206, 0, 0, 0)), .ref (ad4 (207, 0, 0, 0)), .ref (ad5 (209, 0, 0, 0)), .int (zI 0), .ref (ad6 (211, 0, 0, 0)), .ref (ad7 (212, 0, 0, 0)), .int (zI 0), .ref (ad8 (213, 0, 0, 0)), .ref (ad9 (214, 0, 0, 0)), .ref (ad10 (216, 0, 0, 0)), .ref (ad11 (218, 0, 0, 0)), .ref (ad12 (220, 0, 0, 0)), .null] X) (222, 0, 0, 0) (some (.inl ((z_d Γ).2.1 5, 0, .inr (.inr (.inr (.inr (zAq (fun x => some (ad13 (223, x, 0, 0)))))))))) ) (fun k e' hk => ?_) ?_
  · by_cases hk2 : k = (222, 0, 0, 0)
    · subst hk2
      rw [zup1_s] at hk
      cases hk
      rw [zup1_s]
      exact ⟨_, rfl, fun H => va_eqF (fun x x0 x1 => by omega) H⟩
    · rw [zup1_n _ _ hk2] at hk
      rw [zup1_n _ _ hk2]
      exact ⟨e', hk, fun H h => h⟩
  rw [pI_one (ad' := ad13) (e0 := some (.inl ((z_d Γ).2.1 5, 0, .inr (.inr (.inr (.inr (zAq (fun x => some (ad13 (223, x, 0, 0)))))))))) (by decide) (by decide) hX (fun m h1 h2 => by
    have hm : m = 221 := by omega
    subst hm
    revert h1
    decide) rfl hup13 (fun i j l => rfl)]
  refine G_putf (pc := 153) fl_X7_69 fp_X7_21 dX7_init_153 pI_f (Nat.le_of_ble_eq_true rfl) rfl rfl pI_put ?_
  show G Γ _ _ _ _ _ (pI (fun m => m == 222 || (fun m => m == 220 || (m == 220 + 1 || (fun m => m == 218 || (m == 218 + 1 || (fun m => m == 216 || (m == 216 + 1 || (fun m => m == 214 || (m == 214 + 1 || (fun m => m == 213 || (fun m => m == 212 || (fun m => m == 211 || (fun m => m == 209 || (m == 209 + 1 || (fun m => m == 207 || (m == 207 + 1 || (fun m => m == 206 || (fun m => m == 205 || (fun m => m == 201 || (fun _ => false) m) m) m) m)) m)) m) m) m) m)) m)) m)) m)) m) (z_d Γ) ad13 zP0 (zV0d d) [.ref (ad (0, 0, 0, 0)), .null, .int (zI 0), .int (zI 0), .int (zI 2), .int (zI 10), .int (zI 0), .ref (ad1 (201, 0, 0, 0)), .ref (ad2 (205, 0, 0, 0)), .ref (ad3 (206, 0, 0, 0)), .ref (ad4 (207, 0, 0, 0)), .ref (ad5 (209, 0, 0, 0)), .int (zI 0), .ref (ad6 (211, 0, 0, 0)), .ref (ad7 (212, 0, 0, 0)), .int (zI 0), .ref (ad8 (213, 0, 0, 0)), .ref (ad9 (214, 0, 0, 0)), .ref (ad10 (216, 0, 0, 0)), .ref (ad11 (218, 0, 0, 0)), .ref (ad12 (220, 0, 0, 0)), .ref (ad13 (222, 0, 0, 0))] X) 43 1365 156 [(0, .ref (ad13 (200, 0, 0, 0))), (1, .ref (z_d Γ).2.2.2.1), (2, .int (zI d))] []
  refine G_aload_n (pc := 156) 0 0 dX7_init_156 rfl rfl ?_
  refine G_aload_n (pc := 157) 1 1 dX7_init_157 rfl rfl ?_
  refine G_putF (pc := 158) fl_X7_72 ff_X7_72 hF.2.1 dX7_init_158 pI_f (Nat.le_of_ble_eq_true rfl) rfl rfl pI_put ?_
  show G Γ _ _ _ _ _ (pI (fun m => m == 222 || (fun m => m == 220 || (m == 220 + 1 || (fun m => m == 218 || (m == 218 + 1 || (fun m => m == 216 || (m == 216 + 1 || (fun m => m == 214 || (m == 214 + 1 || (fun m => m == 213 || (fun m => m == 212 || (fun m => m == 211 || (fun m => m == 209 || (m == 209 + 1 || (fun m => m == 207 || (m == 207 + 1 || (fun m => m == 206 || (fun m => m == 205 || (fun m => m == 201 || (fun _ => false) m) m) m) m)) m)) m) m) m) m)) m)) m)) m)) m) (z_d Γ) ad13 zP0 (zV0d d) [.ref (ad (0, 0, 0, 0)), .ref (z_d Γ).2.2.2.1, .int (zI 0), .int (zI 0), .int (zI 2), .int (zI 10), .int (zI 0), .ref (ad1 (201, 0, 0, 0)), .ref (ad2 (205, 0, 0, 0)), .ref (ad3 (206, 0, 0, 0)), .ref (ad4 (207, 0, 0, 0)), .ref (ad5 (209, 0, 0, 0)), .int (zI 0), .ref (ad6 (211, 0, 0, 0)), .ref (ad7 (212, 0, 0, 0)), .int (zI 0), .ref (ad8 (213, 0, 0, 0)), .ref (ad9 (214, 0, 0, 0)), .ref (ad10 (216, 0, 0, 0)), .ref (ad11 (218, 0, 0, 0)), .ref (ad12 (220, 0, 0, 0)), .ref (ad13 (222, 0, 0, 0))] X) 43 1365 161 [(0, .ref (ad13 (200, 0, 0, 0))), (1, .ref (z_d Γ).2.2.2.1), (2, .int (zI d))] []
  refine G_aload_n (pc := 161) 0 0 dX7_init_161 rfl rfl ?_
  refine G_iload_n (pc := 162) 2 2 dX7_init_162 rfl rfl ?_
  refine G_putf (pc := 163) fl_X7_75 fp_X7_2 dX7_init_163 pI_f (Nat.le_of_ble_eq_true rfl) rfl rfl pI_put ?_
  show G Γ _ _ _ _ _ (pI (fun m => m == 222 || (fun m => m == 220 || (m == 220 + 1 || (fun m => m == 218 || (m == 218 + 1 || (fun m => m == 216 || (m == 216 + 1 || (fun m => m == 214 || (m == 214 + 1 || (fun m => m == 213 || (fun m => m == 212 || (fun m => m == 211 || (fun m => m == 209 || (m == 209 + 1 || (fun m => m == 207 || (m == 207 + 1 || (fun m => m == 206 || (fun m => m == 205 || (fun m => m == 201 || (fun _ => false) m) m) m) m)) m)) m) m) m) m)) m)) m)) m)) m) (z_d Γ) ad13 zP0 (zV0d d) [.ref (ad (0, 0, 0, 0)), .ref (z_d Γ).2.2.2.1, .int (zI d), .int (zI 0), .int (zI 2), .int (zI 10), .int (zI 0), .ref (ad1 (201, 0, 0, 0)), .ref (ad2 (205, 0, 0, 0)), .ref (ad3 (206, 0, 0, 0)), .ref (ad4 (207, 0, 0, 0)), .ref (ad5 (209, 0, 0, 0)), .int (zI 0), .ref (ad6 (211, 0, 0, 0)), .ref (ad7 (212, 0, 0, 0)), .int (zI 0), .ref (ad8 (213, 0, 0, 0)), .ref (ad9 (214, 0, 0, 0)), .ref (ad10 (216, 0, 0, 0)), .ref (ad11 (218, 0, 0, 0)), .ref (ad12 (220, 0, 0, 0)), .ref (ad13 (222, 0, 0, 0))] X) 43 1365 166 [(0, .ref (ad13 (200, 0, 0, 0))), (1, .ref (z_d Γ).2.2.2.1), (2, .int (zI d))] []
  have e0 : ad13 (0, 0, 0, 0) = ad (0, 0, 0, 0) := (hup13 _ (by simp)).trans ((hup12 _ (by simp) (by simp)).trans ((hup11 _ (by simp) (by simp)).trans ((hup10 _ (by simp) (by simp)).trans ((hup9 _ (by simp) (by simp)).trans ((hup8 _ (by simp)).trans ((hup7 _ (by simp)).trans ((hup6 _ (by simp)).trans ((hup5 _ (by simp) (by simp)).trans ((hup4 _ (by simp) (by simp)).trans ((hup3 _ (by simp)).trans ((hup2 _ (by simp)).trans (hup1 _ (by simp)))))))))))))
  have e200 : ad13 (200, 0, 0, 0) = ad (200, 0, 0, 0) := (hup13 _ (by simp)).trans ((hup12 _ (by simp) (by simp)).trans ((hup11 _ (by simp) (by simp)).trans ((hup10 _ (by simp) (by simp)).trans ((hup9 _ (by simp) (by simp)).trans ((hup8 _ (by simp)).trans ((hup7 _ (by simp)).trans ((hup6 _ (by simp)).trans ((hup5 _ (by simp) (by simp)).trans ((hup4 _ (by simp) (by simp)).trans ((hup3 _ (by simp)).trans ((hup2 _ (by simp)).trans (hup1 _ (by simp)))))))))))))
  have e201 : ad13 (201, 0, 0, 0) = ad1 (201, 0, 0, 0) := (hup13 _ (by simp)).trans ((hup12 _ (by simp) (by simp)).trans ((hup11 _ (by simp) (by simp)).trans ((hup10 _ (by simp) (by simp)).trans ((hup9 _ (by simp) (by simp)).trans ((hup8 _ (by simp)).trans ((hup7 _ (by simp)).trans ((hup6 _ (by simp)).trans ((hup5 _ (by simp) (by simp)).trans ((hup4 _ (by simp) (by simp)).trans ((hup3 _ (by simp)).trans (hup2 _ (by simp))))))))))))
  have e205 : ad13 (205, 0, 0, 0) = ad2 (205, 0, 0, 0) := (hup13 _ (by simp)).trans ((hup12 _ (by simp) (by simp)).trans ((hup11 _ (by simp) (by simp)).trans ((hup10 _ (by simp) (by simp)).trans ((hup9 _ (by simp) (by simp)).trans ((hup8 _ (by simp)).trans ((hup7 _ (by simp)).trans ((hup6 _ (by simp)).trans ((hup5 _ (by simp) (by simp)).trans ((hup4 _ (by simp) (by simp)).trans (hup3 _ (by simp)))))))))))
  have e206 : ad13 (206, 0, 0, 0) = ad3 (206, 0, 0, 0) := (hup13 _ (by simp)).trans ((hup12 _ (by simp) (by simp)).trans ((hup11 _ (by simp) (by simp)).trans ((hup10 _ (by simp) (by simp)).trans ((hup9 _ (by simp) (by simp)).trans ((hup8 _ (by simp)).trans ((hup7 _ (by simp)).trans ((hup6 _ (by simp)).trans ((hup5 _ (by simp) (by simp)).trans (hup4 _ (by simp) (by simp))))))))))
  have e207 : ad13 (207, 0, 0, 0) = ad4 (207, 0, 0, 0) := (hup13 _ (by simp)).trans ((hup12 _ (by simp) (by simp)).trans ((hup11 _ (by simp) (by simp)).trans ((hup10 _ (by simp) (by simp)).trans ((hup9 _ (by simp) (by simp)).trans ((hup8 _ (by simp)).trans ((hup7 _ (by simp)).trans ((hup6 _ (by simp)).trans (hup5 _ (by simp) (by simp)))))))))
  have e209 : ad13 (209, 0, 0, 0) = ad5 (209, 0, 0, 0) := (hup13 _ (by simp)).trans ((hup12 _ (by simp) (by simp)).trans ((hup11 _ (by simp) (by simp)).trans ((hup10 _ (by simp) (by simp)).trans ((hup9 _ (by simp) (by simp)).trans ((hup8 _ (by simp)).trans ((hup7 _ (by simp)).trans (hup6 _ (by simp))))))))
  have e211 : ad13 (211, 0, 0, 0) = ad6 (211, 0, 0, 0) := (hup13 _ (by simp)).trans ((hup12 _ (by simp) (by simp)).trans ((hup11 _ (by simp) (by simp)).trans ((hup10 _ (by simp) (by simp)).trans ((hup9 _ (by simp) (by simp)).trans ((hup8 _ (by simp)).trans (hup7 _ (by simp)))))))
  have e212 : ad13 (212, 0, 0, 0) = ad7 (212, 0, 0, 0) := (hup13 _ (by simp)).trans ((hup12 _ (by simp) (by simp)).trans ((hup11 _ (by simp) (by simp)).trans ((hup10 _ (by simp) (by simp)).trans ((hup9 _ (by simp) (by simp)).trans (hup8 _ (by simp))))))
  have e213 : ad13 (213, 0, 0, 0) = ad8 (213, 0, 0, 0) := (hup13 _ (by simp)).trans ((hup12 _ (by simp) (by simp)).trans ((hup11 _ (by simp) (by simp)).trans ((hup10 _ (by simp) (by simp)).trans (hup9 _ (by simp) (by simp)))))
  have e214 : ad13 (214, 0, 0, 0) = ad9 (214, 0, 0, 0) := (hup13 _ (by simp)).trans ((hup12 _ (by simp) (by simp)).trans ((hup11 _ (by simp) (by simp)).trans (hup10 _ (by simp) (by simp))))
  have e216 : ad13 (216, 0, 0, 0) = ad10 (216, 0, 0, 0) := (hup13 _ (by simp)).trans ((hup12 _ (by simp) (by simp)).trans (hup11 _ (by simp) (by simp)))
  have e218 : ad13 (218, 0, 0, 0) = ad11 (218, 0, 0, 0) := (hup13 _ (by simp)).trans (hup12 _ (by simp) (by simp))
  have e220 : ad13 (220, 0, 0, 0) = ad12 (220, 0, 0, 0) := hup13 _ (by simp)
  have e222 : ad13 (222, 0, 0, 0) = ad13 (222, 0, 0, 0) := rfl
  have elo : ∀ k : zK, k.1 < 200 → ad13 k = ad k := fun k hk => (hup13 k (fun q => by rw [q] at hk; exact absurd hk (by show ¬ 222 < 200; decide))).trans ((hup12 k (by omega) (by omega)).trans ((hup11 k (by omega) (by omega)).trans ((hup10 k (by omega) (by omega)).trans ((hup9 k (by omega) (by omega)).trans ((hup8 k (fun q => by rw [q] at hk; exact absurd hk (by show ¬ 213 < 200; decide))).trans ((hup7 k (fun q => by rw [q] at hk; exact absurd hk (by show ¬ 212 < 200; decide))).trans ((hup6 k (fun q => by rw [q] at hk; exact absurd hk (by show ¬ 211 < 200; decide))).trans ((hup5 k (by omega) (by omega)).trans ((hup4 k (by omega) (by omega)).trans ((hup3 k (fun q => by rw [q] at hk; exact absurd hk (by show ¬ 206 < 200; decide))).trans ((hup2 k (fun q => by rw [q] at hk; exact absurd hk (by show ¬ 205 < 200; decide))).trans (hup1 k (fun q => by rw [q] at hk; exact absurd hk (by show ¬ 201 < 200; decide))))))))))))))
  rw [pI_all hX (by
    show (some (.inr (8, [.ref (ad13 (0, 0, 0, 0)), .ref (z_d Γ).2.2.2.1, .int (zI d), .int (zI 0), .int (zI 2), .int (zI 10), .int (zI 0), .ref (ad13 (201, 0, 0, 0)), .ref (ad13 (205, 0, 0, 0)), .ref (ad13 (206, 0, 0, 0)), .ref (ad13 (207, 0, 0, 0)), .ref (ad13 (209, 0, 0, 0)), .int (zI 0), .ref (ad13 (211, 0, 0, 0)), .ref (ad13 (212, 0, 0, 0)), .int (zI 0), .ref (ad13 (213, 0, 0, 0)), .ref (ad13 (214, 0, 0, 0)), .ref (ad13 (216, 0, 0, 0)), .ref (ad13 (218, 0, 0, 0)), .ref (ad13 (220, 0, 0, 0)), .ref (ad13 (222, 0, 0, 0))])) : Option va_E) = _
    rw [e0, e201, e205, e206, e207, e209, e211, e212, e213, e214, e216, e218, e220, e222]) (by
    intro m hm
    simp at hm
    omega) (fun k hk hS hne => ?_)]
  · exact G_vret (pc := 166) hF dX7_init_166 ⟨Nat.le_of_ble_eq_true rfl, Nat.le_of_ble_eq_true rfl⟩ (kk _ elo e200)
  · exact zno_V0 hk (fun q => by rcases q with q | q | q | q | q | q | q | q | q | q | q | q | q | q | q | q | q | q | q <;> (rw [q] at hS; revert hS; decide)) hne
