/-! ===== the law: acts, steps, times ===== -/
set_option maxHeartbeats 4000000 in
set_option maxRecDepth 100000 in
theorem l_act {Γ : zCx} {a0 a b : Nat} {Vs : zS} {tm rows stp : Int} {nc0 ns0 : Nat} (hNc : zNc (z_s Γ)) (hst : (z_l Γ).stackTraces = false) (hL : (z_d Γ).2.2.2.2.1 ≤ 3072) (hD : Vs (200, 0, 0, 0) 2 ≤ 900000) (h4 : Vs (0, 0, 0, 0) 4 ≤ 180) (h6 : Vs (0, 0, 0, 0) 6 ≤ 9800) (hR : nc0 + 12000 ≤ 600086 ∧ ns0 + 220000 ≤ 7301442) (kk : ∀ (ad : zK → Nat) (P : zP) (D : zS), zFd a0 a Vs 4 ad P D → 1 ≤ P 0 0 0 → 1 ≤ P 3 0 0 → G Γ zRW cL_law 21 RL ad (pm (z_d Γ) ad P D (mm (z_d Γ) ad P D z00)) (nc0 + 12000) (ns0 + 220000) 74 [(5, .int (zI stp)), (4, .int (zI rows)), (3, .ref a0), (2, .ref a), (1, .int (zI tm)), (0, .ref b)] []) :
    ∀ (m : Nat) (k : Int) (ad : zK → Nat) (P : zP) (D : zS) (nc ns : Nat), (0 ≤ k ∧ k ≤ 4) → zFd a0 a Vs k ad P D → 1 ≤ P 0 0 0 → 1 ≤ P 3 0 0 → ((nc : Int) ≤ nc0 + 3000 * k ∧ (ns : Int) ≤ ns0 + 55000 * k) → (4 - k).toNat < m → G Γ zRW cL_law 21 RL ad (pm (z_d Γ) ad P D (mm (z_d Γ) ad P D z00)) nc ns 53 [(6, .int (zI k)), (5, .int (zI stp)), (4, .int (zI rows)), (3, .ref a0), (2, .ref a), (1, .int (zI tm)), (0, .ref b)] [] := by
  intro m
  induction m with
  | zero => intro k ad P D nc ns _ _ _ _ _ h; omega
  | succ m ih =>
    intro k ad P D nc ns hk h q0 q3 hcs hm
    have u := h.2.2
    refine G_iload (pc := 53) 0 dL_law_53 rfl ?_
    refine G_iconst (pc := 55) dL_law_55 ?_
    refine G_icmp_ge (pc := 56) 74 dL_law_56 (by decide) ⟨by omega, by omega⟩ ⟨by omega, by omega⟩ (fun c56 => ?_) (fun c56 => ?_)
    · refine G_perm (lv' := [(5, .int (zI stp)), (4, .int (zI rows)), (3, .ref a0), (2, .ref a), (1, .int (zI tm)), (0, .ref b)]) [1, 2, 3, 4, 5, 6] rfl ?_
      have e9 : k = 4 := by omega
      rw [e9] at h
      exact G_more (by omega) (by omega) (kk ad P D h q0 q3)
    · refine G_aload_n (pc := 59) 2 4 dL_law_59 rfl rfl ?_
      refine G_actL (pc := 60) hNc dL_law_60 h hL (by omega) (by omega) (by omega) q0 q3 hst ⟨⟨Nat.le_of_ble_eq_true rfl, Nat.le_of_ble_eq_true rfl⟩, by show nc + 3000 ≤ 600086; omega, by show ns + 55000 ≤ 7301442; omega⟩ (fun ad2 P2 D2 h2 w0 w3 => ?_)
      refine G_if_ne (pc := 63) 68 dL_law_63 (by decide) ⟨by omega, by omega⟩ (fun c63 => ?_) (fun c63 => absurd c63 (by omega))
      refine G_iinc (pc := 68) 0 [(6, .int (zI (k + 1))), (5, .int (zI stp)), (4, .int (zI rows)), (3, .ref a0), (2, .ref a), (1, .int (zI tm)), (0, .ref b)] dL_law_68 rfl (by decide) rfl ?_
      refine G_goto (pc := 71) 53 dL_law_71 (by decide) ?_
      refine G_perm (lv' := [(6, .int (zI (k + 1))), (5, .int (zI stp)), (4, .int (zI rows)), (3, .ref a0), (2, .ref a), (1, .int (zI tm)), (0, .ref b)]) [0, 1, 2, 3, 4, 5, 6] rfl ?_
      exact ih (k + 1) ad2 P2 D2 _ _ ⟨by omega, by omega⟩ h2 w0 w3 ⟨by omega, by omega⟩ (by omega)
set_option maxHeartbeats 4000000 in
set_option maxRecDepth 100000 in
theorem l_step {Γ : zCx} {b : Nat} {tm : Int} {nc0 ns0 : Nat} (hNc : zNc (z_s Γ)) (hst : (z_l Γ).stackTraces = false) (hL : (z_d Γ).2.2.2.2.1 ≤ 3072) (hR : nc0 + 96100 ≤ 600086 ∧ ns0 + 1761000 ≤ 7301442) (kk : ∀ (ad : zK → Nat) (M : zMem), G Γ zRW cL_law 21 RL ad M (nc0 + 96100) (ns0 + 1761000) 1093 [(1, .int (zI tm)), (0, .ref b)] []) :
    ∀ (m : Nat) (stp rows : Int) (ad : zK → Nat) (P : zP) (V : zS) (nc ns : Nat), (0 ≤ stp ∧ stp ≤ 8) → zJ P V → (0 ≤ rows ∧ rows ≤ V (1, 0, 0, 0) 1) → V (200, 0, 0, 0) 2 ≤ 40000 + 5000 * stp → V (0, 0, 0, 0) 4 ≤ 40 + 4 * stp → V (0, 0, 0, 0) 6 ≤ 500 + 56 * stp → 1 ≤ P 0 0 0 → 1 ≤ P 3 0 0 → ((nc : Int) ≤ nc0 + 12010 * stp ∧ (ns : Int) ≤ ns0 + 220100 * stp) → (8 - stp).toNat < m → G Γ zRW cL_law 21 RL ad (pm (z_d Γ) ad P V (mm (z_d Γ) ad P V z00)) nc ns 43 [(5, .int (zI stp)), (4, .int (zI rows)), (3, .ref (ad (0, 0, 0, 0))), (2, .ref (ad (200, 0, 0, 0))), (1, .int (zI tm)), (0, .ref b)] [] := by
  intro m
  induction m with
  | zero => intro stp rows ad P V nc ns _ _ _ _ _ _ _ _ _ h; omega
  | succ m ih =>
    intro stp rows ad P V nc ns hs hJ hrow hd h4 h6 q0 q3 hcs hm
    refine G_iload (pc := 43) 0 dL_law_43 rfl ?_
    refine G_bipush (pc := 45) dL_law_45 (by decide) ?_
    refine G_icmp_ge (pc := 47) 1093 dL_law_47 (by decide) ⟨by omega, by omega⟩ ⟨by omega, by omega⟩ (fun c47 => ?_) (fun c47 => ?_)
    · refine G_perm (lv' := [(1, .int (zI tm)), (0, .ref b)]) [4, 5] rfl ?_
      exact G_more (by omega) (by omega) (kk ad _)
    · refine G_iconst (pc := 50) dL_law_50 ?_
      refine G_istore (pc := 51) [(6, .int (zI 0)), (5, .int (zI stp)), (4, .int (zI rows)), (3, .ref (ad (0, 0, 0, 0))), (2, .ref (ad (200, 0, 0, 0))), (1, .int (zI tm)), (0, .ref b)] dL_law_51 (by decide) rfl ?_
      refine G_perm (lv' := [(6, .int (zI 0)), (5, .int (zI stp)), (4, .int (zI rows)), (3, .ref (ad (0, 0, 0, 0))), (2, .ref (ad (200, 0, 0, 0))), (1, .int (zI tm)), (0, .ref b)]) [0, 1, 2, 3, 4, 5, 6] rfl ?_
      have s0 : zFd (ad (0, 0, 0, 0)) (ad (200, 0, 0, 0)) V 0 ad P V := ⟨⟨rfl, rfl⟩, hJ, by omega, by omega, by omega, Int.le_refl _⟩
      refine l_act (nc0 := nc) (ns0 := ns) hNc hst hL (by omega) (by omega) (by omega) ⟨by omega, by omega⟩ (fun ad1 P1 D1 h1 w0 w3 => ?_) 5 0 ad P V nc ns ⟨by omega, by omega⟩ s0 q0 q3 ⟨by omega, by omega⟩ (by omega)
      have u := h1.2.2
      have hJ1 := h1.2.1
      have hl1 := hJ1.wv.W.l
      rw [← h1.1.1, ← h1.1.2, pm_mm]
      refine l_chk (nc0 := nc + 12000) (ns0 := ns + 220000) hJ1 ⟨by omega, by omega⟩ ⟨by omega, by omega⟩ (fun ad2 => ?_)
      refine l_d hJ1 ⟨by omega, by omega⟩ hL w3 (by omega) (fun D2 h2 => ?_) (fun M => G_more (by omega) (by omega) (kk ad2 M))
      have v1 := h2.2.2 (1, 0, 0, 0) 1 (by simp)
      have v4 := h2.2.2 (0, 0, 0, 0) 4 (by simp)
      have v6 := h2.2.2 (0, 0, 0, 0) 6 (by simp)
      have v2 := h2.2.1
      refine G_iinc (pc := 1087) 1 [(5, .int (zI (stp + 1))), (6, .long (zL (zdg P1 D1))), (4, .int (zI (D1 (1, 0, 0, 0) 1))), (3, .ref (ad2 (0, 0, 0, 0))), (2, .ref (ad2 (200, 0, 0, 0))), (1, .int (zI tm)), (0, .ref b)] dL_law_1087 rfl (by decide) rfl ?_
      refine G_goto (pc := 1090) 43 dL_law_1090 (by decide) ?_
      refine G_perm (lv' := [(5, .int (zI (stp + 1))), (4, .int (zI (D1 (1, 0, 0, 0) 1))), (3, .ref (ad2 (0, 0, 0, 0))), (2, .ref (ad2 (200, 0, 0, 0))), (1, .int (zI tm)), (0, .ref b)]) [0, 2, 3, 4, 5, 6] rfl ?_
      exact ih (stp + 1) (D1 (1, 0, 0, 0) 1) ad2 P1 D2 _ _ ⟨by omega, by omega⟩ h2.1 ⟨by omega, by omega⟩ (by omega) (by omega) (by omega) w0 w3 ⟨by omega, by omega⟩ (by omega)
set_option maxHeartbeats 4000000 in
set_option maxRecDepth 100000 in
theorem l_time {Γ : zCx} (hNc : zNc (z_s Γ)) (hst : (z_l Γ).stackTraces = false) (hL : (z_d Γ).2.2.2.2.1 ≤ 3072) (hEnd : ∀ (ad : zK → Nat) (M : zMem) (nc ns : Nat) (lv : List (Nat × Value)), nc ≤ 600086 → ns ≤ 7301442 → G Γ zRW cL_law 21 RL ad M nc ns 1100 lv [.int (zI 1)]) :
    ∀ (m : Nat) (tm : Int) (ad : zK → Nat) (nc ns : Nat), (0 ≤ tm ∧ tm ≤ 3) → ((nc : Int) ≤ 100000 * tm ∧ (ns : Int) ≤ 1800000 * tm) → (3 - tm).toNat < m → G Γ zRW cL_law 21 RL ad z00 nc ns 2 [(1, .int (zI tm)), (0, .ref (z_d Γ).2.2.2.1)] [] := by
  intro m
  induction m with
  | zero => intro tm ad nc ns _ _ h; omega
  | succ m ih =>
    intro tm ad nc ns htm hcs hm
    refine G_iload_n (pc := 2) 1 0 dL_law_2 rfl rfl ?_
    refine G_iconst (pc := 3) dL_law_3 ?_
    refine G_icmp_ge (pc := 4) 1099 dL_law_4 (by decide) ⟨by omega, by omega⟩ ⟨by omega, by omega⟩ (fun c4 => ?_) (fun c4 => ?_)
    · refine G_iconst (pc := 1099) dL_law_1099 ?_
      exact hEnd _ _ _ _ _ (by omega) (by omega)
    · refine G_new (pc := 7) (fs := [.null, .null, .int (zI 0), .int (zI 0), .int (zI 0), .int (zI 0), .int (zI 0), .null, .null, .null, .null, .null, .int (zI 0), .null, .null, .int (zI 0), .null, .null, .null, .null, .null, .null]) (200, 0, 0, 0) nw_L_9 dL_law_7 rfl (by decide) ⟨by show nc + 1 ≤ 600086; omega, by show ns + 22 ≤ 7301442; omega⟩ (fun ad1 had1 => ?_)
      refine G_dup (pc := 10) dL_law_10 rfl ?_
      refine G_aload_n (pc := 11) 0 1 dL_law_11 rfl rfl ?_
      refine G_bipush (pc := 12) dL_law_12 (by decide) ?_
      refine G_iload_n (pc := 14) 1 0 dL_law_14 rfl rfl ?_
      refine G_imul (pc := 15) dL_law_15 ?_
      refine G_bipush (pc := 16) dL_law_16 (by decide) ?_
      refine G_iadd (pc := 18) dL_law_18 ?_
      refine G_callI (pc := 19) (mc := 60) (ms := 2000) gk_L_11 dL_law_19 (c_X7_init (d := (31 * tm) + 7) (zup1_s _ _ _) (fun k hk => zup1_n _ _ hk)) rfl rfl (Nat.le_of_ble_eq_true rfl) ⟨⟨Nat.le_of_ble_eq_true rfl, Nat.le_of_ble_eq_true rfl⟩, by show nc + 1 + 60 ≤ 600086; omega, by show ns + 22 + 2000 ≤ 7301442; omega⟩ (fun v ad2 M2 hpo => ?_)
      obtain ⟨rfl, e2, rfl⟩ := hpo
      rw [← e2]
      have hJ0 := zJ_V0 (d := (31 * tm) + 7) ⟨by omega, by omega⟩
      have d2 : zV0d ((31 * tm) + 7) (200, 0, 0, 0) 2 = (31 * tm) + 7 := by unfold zV0d; rw [if_neg (by simp), if_pos ⟨rfl, rfl⟩]
      have d4 : zV0d ((31 * tm) + 7) (0, 0, 0, 0) 4 = 0 := (zV0d_lo (by simp)).trans rfl
      have d6 : zV0d ((31 * tm) + 7) (0, 0, 0, 0) 6 = 0 := (zV0d_lo (by simp)).trans rfl
      have d1 : zV0d ((31 * tm) + 7) (1, 0, 0, 0) 1 = 0 := (zV0d_lo (by simp)).trans rfl
      generalize zV0d ((31 * tm) + 7) = V0 at hJ0 d1 d2 d4 d6 ⊢
      show G Γ zRW cL_law 21 RL ad2 (pm (z_d Γ) ad2 zP0 V0 (mm (z_d Γ) ad2 zP0 V0 z00)) _ _ _ _ [.ref (ad2 (200, 0, 0, 0))]
      refine G_astore_n (pc := 22) 2 [(2, .ref (ad2 (200, 0, 0, 0))), (1, .int (zI tm)), (0, .ref (z_d Γ).2.2.2.1)] dL_law_22 rfl (by decide) rfl ?_
      refine G_aload_n (pc := 23) 2 0 dL_law_23 rfl rfl ?_
      refine G_getf (pc := 24) fl_L_14 dL_law_24 pg_200 rfl ?_
      refine G_astore_n (pc := 27) 3 [(3, .ref (ad2 (0, 0, 0, 0))), (2, .ref (ad2 (200, 0, 0, 0))), (1, .int (zI tm)), (0, .ref (z_d Γ).2.2.2.1)] dL_law_27 rfl (by decide) rfl ?_
      refine G_aload_n (pc := 28) 2 1 dL_law_28 rfl rfl ?_
      refine G_foundL (pc := 29) hNc dL_law_29 hJ0 hL (by omega) (by omega) hst ⟨⟨Nat.le_of_ble_eq_true rfl, Nat.le_of_ble_eq_true rfl⟩, by show nc + 1 + 60 + 120 ≤ 600086; omega, by show ns + 22 + 2000 + 5000 ≤ 7301442; omega⟩ (fun ad3 P3 D3 h3 w0 w3 => ?_)
      have u := h3.2.2
      have hl3 := h3.2.1.wv.W.l
      refine G_if_ne (pc := 32) 37 dL_law_32 (by decide) ⟨by omega, by omega⟩ (fun c32 => ?_) (fun c32 => absurd c32 (by omega))
      refine G_iconst (pc := 37) dL_law_37 ?_
      refine G_istore (pc := 38) [(4, .int (zI 0)), (3, .ref (ad2 (0, 0, 0, 0))), (2, .ref (ad2 (200, 0, 0, 0))), (1, .int (zI tm)), (0, .ref (z_d Γ).2.2.2.1)] dL_law_38 (by decide) rfl ?_
      refine G_iconst (pc := 40) dL_law_40 ?_
      refine G_istore (pc := 41) [(5, .int (zI 0)), (4, .int (zI 0)), (3, .ref (ad2 (0, 0, 0, 0))), (2, .ref (ad2 (200, 0, 0, 0))), (1, .int (zI tm)), (0, .ref (z_d Γ).2.2.2.1)] dL_law_41 (by decide) rfl ?_
      rw [← h3.1.1, ← h3.1.2]
      refine G_perm (lv' := [(5, .int (zI 0)), (4, .int (zI 0)), (3, .ref (ad3 (0, 0, 0, 0))), (2, .ref (ad3 (200, 0, 0, 0))), (1, .int (zI tm)), (0, .ref (z_d Γ).2.2.2.1)]) [0, 1, 2, 3, 4, 5] rfl ?_
      refine l_step (nc0 := nc + 1 + 60 + 120) (ns0 := ns + 22 + 2000 + 5000) hNc hst hL ⟨by omega, by omega⟩ (fun ad4 M4 => ?_) 9 0 0 ad3 P3 D3 _ _ ⟨by omega, by omega⟩ h3.2.1 ⟨by omega, by omega⟩ (by omega) (by omega) (by omega) w0 w3 ⟨by omega, by omega⟩ (by omega)
      refine G_iinc (pc := 1093) 0 [(1, .int (zI (tm + 1))), (0, .ref (z_d Γ).2.2.2.1)] dL_law_1093 rfl (by decide) rfl ?_
      refine G_goto (pc := 1096) 2 dL_law_1096 (by decide) ?_
      refine G_ren (ad' := ad4) (M' := z00) (fun k => k) (fun k e hk => by cases hk) (fun k k' _ _ e => e) ?_
      exact ih (tm + 1) ad4 _ _ ⟨by omega, by omega⟩ ⟨by omega, by omega⟩ (by omega)
set_option maxHeartbeats 4000000 in
set_option maxRecDepth 100000 in
theorem law_body {Γ : zCx} (hNc : zNc (z_s Γ)) (hst : (z_l Γ).stackTraces = false) (hL : (z_d Γ).2.2.2.2.1 ≤ 3072) (hEnd : ∀ (ad : zK → Nat) (M : zMem) (nc ns : Nat) (lv : List (Nat × Value)), nc ≤ 600086 → ns ≤ 7301442 → G Γ zRW cL_law 21 RL ad M nc ns 1100 lv [.int (zI 1)]) (ad : zK → Nat) : G Γ zRW cL_law 21 RL ad (fun _ => none) 0 0 0 [(0, .ref (z_d Γ).2.2.2.1)] [] := by
  refine G_iconst (pc := 0) dL_law_0 ?_
  refine G_istore_n (pc := 1) 1 [(1, .int (zI 0)), (0, .ref (z_d Γ).2.2.2.1)] dL_law_1 rfl (by decide) rfl ?_
  exact l_time hNc hst hL hEnd 4 0 ad 0 0 ⟨by omega, by omega⟩ ⟨by omega, by omega⟩ (by omega)
