/-! ===== the model's constructor ===== -/
/-- the model's fields, its arrays made up to the kind c -/
def mFd (ad : zK → Nat) (c : Nat) : List Value := [.int (zI 0), .int (zI 0), .int (zI 2), .int (zI 10), .int (zI 0), if 45 ≤ c then .ref (ad (45, 0, 0, 0)) else .null, if 46 ≤ c then .ref (ad (46, 0, 0, 0)) else .null, if 47 ≤ c then .ref (ad (47, 0, 0, 0)) else .null, if 48 ≤ c then .ref (ad (48, 0, 0, 0)) else .null, if 49 ≤ c then .ref (ad (49, 0, 0, 0)) else .null, if 50 ≤ c then .ref (ad (50, 0, 0, 0)) else .null, .int (zI 0), if 52 ≤ c then .ref (ad (52, 0, 0, 0)) else .null, if 53 ≤ c then .ref (ad (53, 0, 0, 0)) else .null, if 54 ≤ c then .ref (ad (54, 0, 0, 0)) else .null, if 55 ≤ c then .ref (ad (55, 0, 0, 0)) else .null, if 56 ≤ c then .ref (ad (56, 0, 0, 0)) else .null, if 57 ≤ c then .ref (ad (57, 0, 0, 0)) else .null, if 58 ≤ c then .ref (ad (58, 0, 0, 0)) else .null, if 59 ≤ c then .ref (ad (59, 0, 0, 0)) else .null, .int (zI 0), if 61 ≤ c then .ref (ad (61, 0, 0, 0)) else .null, if 62 ≤ c then .ref (ad (62, 0, 0, 0)) else .null, .int (zI 0), if 64 ≤ c then .ref (ad (64, 0, 0, 0)) else .null, if 65 ≤ c then .ref (ad (65, 0, 0, 0)) else .null, if 66 ≤ c then .ref (ad (66, 0, 0, 0)) else .null, if 67 ≤ c then .ref (ad (67, 0, 0, 0)) else .null, if 68 ≤ c then .ref (ad (68, 0, 0, 0)) else .null, if 69 ≤ c then .ref (ad (69, 0, 0, 0)) else .null, if 70 ≤ c then .ref (ad (70, 0, 0, 0)) else .null, if 71 ≤ c then .ref (ad (71, 0, 0, 0)) else .null, .int (zI 0), if 73 ≤ c then .ref (ad (73, 0, 0, 0)) else .null]
def mTg (Δ : zDl) : zMem := fun k => if k.2.1 = 0 ∧ k.2.2.1 = 0 ∧ k.2.2.2 = 0 then (if k.1 = 45 then some (.inl (Δ.2.1 0, 4, .inl (zAi (fun _ => 0)))) else if k.1 = 46 then some (.inl (Δ.2.1 0, 4, .inl (zAi (fun _ => 0)))) else if k.1 = 47 then some (.inl (Δ.2.1 0, 16, .inl (zAi (fun _ => 0)))) else if k.1 = 48 then some (.inl (Δ.2.1 0, 16, .inl (zAi (fun _ => 0)))) else if k.1 = 49 then some (.inl (Δ.2.1 0, 16, .inl (zAi (fun _ => 0)))) else if k.1 = 50 then some (.inl (Δ.2.1 1, 4, .inl (zAi (fun _ => 0)))) else if k.1 = 52 then some (.inl (Δ.2.1 0, 80, .inl (zAi (fun _ => 0)))) else if k.1 = 53 then some (.inl (Δ.2.1 0, 80, .inl (zAi (fun _ => 0)))) else if k.1 = 54 then some (.inl (Δ.2.1 0, 80, .inl (zAi (fun _ => 0)))) else if k.1 = 55 then some (.inl (Δ.2.1 0, 80, .inl (zAi (fun _ => 0)))) else if k.1 = 56 then some (.inl (Δ.2.1 0, 80, .inl (zAi (fun _ => 0)))) else if k.1 = 57 then some (.inl (Δ.2.1 0, 80, .inl (zAi (fun _ => 0)))) else if k.1 = 58 then some (.inl (Δ.2.1 1, 80, .inl (zAi (fun _ => 0)))) else if k.1 = 59 then some (.inl (Δ.2.1 0, 1280, .inl (zAi (fun _ => 0)))) else if k.1 = 61 then some (.inl (Δ.2.1 0, 8, .inl (zAi (fun _ => 0)))) else if k.1 = 62 then some (.inl (Δ.2.1 0, 4, .inl (zAi (fun _ => 0)))) else if k.1 = 64 then some (.inl (Δ.2.1 0, 4, .inl (zAi (fun _ => 0)))) else if k.1 = 65 then some (.inl (Δ.2.1 0, 16, .inl (zAi (fun _ => 0)))) else if k.1 = 66 then some (.inl (Δ.2.1 0, 16, .inl (zAi (fun _ => 0)))) else if k.1 = 67 then some (.inl (Δ.2.1 0, 16, .inl (zAi (fun _ => 0)))) else if k.1 = 68 then some (.inl (Δ.2.1 1, 24, .inl (zAi (fun _ => 0)))) else if k.1 = 69 then some (.inl (Δ.2.1 0, 320, .inl (zAi (fun _ => 0)))) else if k.1 = 70 then some (.inl (Δ.2.1 0, 320, .inl (zAi (fun _ => 0)))) else if k.1 = 71 then some (.inl (Δ.2.1 0, 320, .inl (zAi (fun _ => 0)))) else if k.1 = 73 then some (.inl (Δ.2.1 0, 1000, .inl (zAi (fun _ => 0)))) else none) else none
def mdI (Δ : zDl) (ad0 : zK → Nat) (M0 : zMem) (n : Nat) (ad : zK → Nat) (M : zMem) : Prop := M (40, 0, 0, 0) = some (.inr (8, mFd ad n)) ∧ (∀ k : zK, 45 ≤ k.1 → k.1 ≤ n → M k = mTg Δ k) ∧ (∀ k : zK, n < k.1 → k.1 ≤ 73 → M k = none) ∧ (∀ k : zK, ¬ (k = (40, 0, 0, 0) ∨ 45 ≤ k.1 ∧ k.1 ≤ 73) → M k = M0 k) ∧ ∀ k : zK, ¬ (45 ≤ k.1 ∧ k.1 ≤ 73) → ad k = ad0 k
theorem mFd_cg {ad ad' : zK → Nat} {c : Nat} (h : ∀ k : zK, k.1 ≤ c → ad' k = ad k) : mFd ad' c = mFd ad c := by
  have e : ∀ n : Nat, (if n ≤ c then Value.ref (ad' (n, 0, 0, 0)) else .null) = if n ≤ c then .ref (ad (n, 0, 0, 0)) else .null := fun n => by
    by_cases hn : n ≤ c
    · rw [if_pos hn, if_pos hn, h _ hn]
    · rw [if_neg hn, if_neg hn]
  unfold mFd
  simp only [e]
section MD
variable {Δ : zDl} {ad0 ad ad' : zK → Nat} {M0 M : zMem} {n n' : Nat} {e : va_E}
theorem md_obj (h : mdI Δ ad0 M0 n ad M) (had : ∀ k, k ≠ (n', 0, 0, 0) → ad' k = ad k) (hn : n < n') (h44 : 44 ≤ n) : zup1 M (n', 0, 0, 0) (some e) (40, 0, 0, 0) = some (.inr (8, mFd ad' n)) := by
  rw [zup1_n _ _ (fun q => by have := congrArg Prod.fst q; simp only at this; omega), h.1, mFd_cg (ad := ad) (fun k hk => had k (fun q => by rw [q] at hk; simp only at hk; omega))]
theorem md_step (h : mdI Δ ad0 M0 n ad M) (had : ∀ k, k ≠ (n', 0, 0, 0) → ad' k = ad k) (hn : n < n' ∧ n' ≤ 73) (h44 : 44 ≤ n) (ht : mTg Δ (n', 0, 0, 0) = some e) (hz : ∀ k : zK, n < k.1 → k.1 ≤ n' → k ≠ (n', 0, 0, 0) → mTg Δ k = none) {fs : List Value} (hf : fs = mFd ad' n') : mdI Δ ad0 M0 n' ad' (zup1 (zup1 M (n', 0, 0, 0) (some e)) (40, 0, 0, 0) (some (.inr (8, fs)))) := by
  obtain ⟨h1, h2, h3, h4, h5⟩ := h
  subst hf
  have ne40 : ∀ k : zK, 45 ≤ k.1 → k ≠ (40, 0, 0, 0) := fun k hk q => by rw [q] at hk; simp only at hk; omega
  refine ⟨zup1_s _ _ _, fun k hk1 hk2 => ?_, fun k hk1 hk2 => ?_, fun k hk => ?_, fun k hk => ?_⟩
  · rw [zup1_n _ _ (ne40 k hk1)]
    by_cases hc : k = (n', 0, 0, 0)
    · rw [hc, zup1_s, ht]
    · rw [zup1_n _ _ hc]
      by_cases hkn : k.1 ≤ n
      · exact h2 k hk1 hkn
      · rw [h3 k (by omega) (by omega), hz k (by omega) hk2 hc]
  · rw [zup1_n _ _ (ne40 k (by omega)), zup1_n _ _ (fun q => by rw [q] at hk1; simp only at hk1; omega)]
    exact h3 k (by omega) hk2
  · rw [zup1_n _ _ (fun q => hk (Or.inl q)), zup1_n _ _ (fun q => hk (Or.inr (by rw [q]; simp only; omega)))]
    exact h4 k hk
  · rw [had k (fun q => hk (by rw [q]; simp only; omega))]
    exact h5 k hk
theorem mTg_n {k : zK} (h : ¬ (k.2.1 = 0 ∧ k.2.2.1 = 0 ∧ k.2.2.2 = 0)) : mTg Δ k = none := if_neg h
theorem mTg_z (h1 : n < n') (hg : ∀ m : Nat, n < m → m < n' → mTg Δ (m, 0, 0, 0) = none) : ∀ k : zK, n < k.1 → k.1 ≤ n' → k ≠ (n', 0, 0, 0) → mTg Δ k = none := fun k hk1 hk2 hk3 => by
  by_cases hc : k.2.1 = 0 ∧ k.2.2.1 = 0 ∧ k.2.2.2 = 0
  · obtain ⟨m, i, j, q⟩ := k
    obtain ⟨c1, c2, c3⟩ := hc
    simp only at c1 c2 c3 hk1 hk2
    subst c1 c2 c3
    exact hg m hk1 (Nat.lt_of_le_of_ne hk2 (fun e => hk3 (by rw [e])))
  · exact mTg_n hc
end MD
set_option maxHeartbeats 4000000 in
set_option maxRecDepth 100000 in
theorem c_X7_init {l : Launch} {Δ : zDl} {ad : zK → Nat} {M : zMem} (h0 : M (40, 0, 0, 0) = some (.inr (8, [.int (zI 0), .int (zI 0), .int (zI 0), .int (zI 0), .int (zI 0), .null, .null, .null, .null, .null, .null, .int (zI 0), .null, .null, .null, .null, .null, .null, .null, .null, .int (zI 0), .null, .null, .int (zI 0), .null, .null, .null, .null, .null, .null, .null, .null, .int (zI 0), .null]))) (h1 : ∀ k : zK, 44 < k.1 → k.1 ≤ 73 → M k = none) : zMn l Δ yX7_init cX7_init 2 none 9 25 3948 [.ref (ad (40, 0, 0, 0))] ad M (fun v ad' M' => v = none ∧ ad' (40, 0, 0, 0) = ad (40, 0, 0, 0) ∧ ∃ M1, mdI Δ ad M 73 ad' M1 ∧ M' = zup1 M1 (62, 0, 0, 0) (some (.inl (Δ.2.1 0, 4, .inl (zAi (zup (zup (zup (zup (fun _ => 0) 0 (-1)) (0 + 1) (-1)) (0 + 1 + 1) (-1)) (0 + 1 + 1 + 1) (-1))))))) := by
  refine zMn_of (by decide) (Nat.le_of_ble_eq_true rfl) (fun Γ hl hΔ hF => ?_)
  subst hl hΔ
  show G Γ _ _ _ RX7 _ _ _ _ _ [(0, .ref (ad (40, 0, 0, 0)))] []
  have hs : ad (40, 0, 0, 0) = ad (40, 0, 0, 0) := rfl
  refine G_aload_n (pc := 0) 0 0 dX7_init_0 rfl rfl ?_
  refine G_objInit (pc := 1) oi_X7_1 dX7_init_1 ⟨Nat.le_of_ble_eq_true rfl, Nat.le_of_ble_eq_true rfl⟩ ?_
  refine G_aload_n (pc := 4) 0 0 dX7_init_4 rfl rfl ?_
  refine G_iconst (pc := 5) dX7_init_5 ?_
  refine G_putf (pc := 6) fl_X7_7 fp_X7_2 dX7_init_6 h0 (Nat.le_of_ble_eq_true rfl) rfl rfl rfl ?_
  refine G_aload_n (pc := 9) 0 0 dX7_init_9 rfl rfl ?_
  refine G_bipush (pc := 10) dX7_init_10 (by decide) ?_
  refine G_putf (pc := 12) fl_X7_13 fp_X7_3 dX7_init_12 (zup1_s _ _ _) (Nat.le_of_ble_eq_true rfl) rfl rfl rfl ?_
  have hI : mdI (z_d Γ) ad M 44 ad (zup1 (zup1 M (40, 0, 0, 0) (some (.inr (8, [.int (zI 0), .int (zI 0), .int (zI 0), .int (zI 0), .int (zI 0), .null, .null, .null, .null, .null, .null, .int (zI 0), .null, .null, .null, .null, .null, .null, .null, .null, .int (zI 0), .null, .null, .int (zI 0), .null, .null, .null, .null, .null, .null, .null, .null, .int (zI 0), .null].set 2 (.int (zI 2)))))) (40, 0, 0, 0) (some (.inr (8, ([.int (zI 0), .int (zI 0), .int (zI 0), .int (zI 0), .int (zI 0), .null, .null, .null, .null, .null, .null, .int (zI 0), .null, .null, .null, .null, .null, .null, .null, .null, .int (zI 0), .null, .null, .int (zI 0), .null, .null, .null, .null, .null, .null, .null, .null, .int (zI 0), .null].set 2 (.int (zI 2))).set 3 (.int (zI 10)))))) := ⟨zup1_s _ _ _, fun k a b => absurd b (by omega), fun k a b => by rw [zuu, zup1_n _ _ (fun q => by rw [q] at a; simp only at a; omega)]; exact h1 k a b, fun k hk => by rw [zuu, zup1_n _ _ (fun q => hk (Or.inl q))], fun _ _ => rfl⟩
  refine G_nm (fun M0 hM0 => ?_)
  rw [← hM0] at hI
  clear hM0
  refine G_aload_n (pc := 15) 0 0 dX7_init_15 rfl rfl ?_
  refine G_iconst (pc := 16) dX7_init_16 ?_
  refine G_rI (pc := 17) (N := 4) (45, 0, 0, 0) dX7_init_17 (hI.2.2.1 _ (by decide) (by decide)) rfl ⟨by decide, by decide⟩ ⟨Nat.le_of_ble_eq_true rfl, Nat.le_of_ble_eq_true rfl⟩ (fun ad45 had45 => ?_)
  have hs45 := had45 (40, 0, 0, 0) (by simp)
  rw [← hs45]
  refine G_putF (pc := 19) fl_X7_16 ff_X7_16 hF.2.1 dX7_init_19 (md_obj hI had45 (by decide) (by decide)) (Nat.le_of_ble_eq_true rfl) rfl rfl rfl ?_
  have hI45 := md_step hI had45 ⟨by decide, by decide⟩ (by decide) (by rfl) (mTg_z (by decide) (fun m a b => absurd b (by omega))) (fs := (mFd ad45 44).set 5 (.ref (ad45 (45, 0, 0, 0)))) (by rfl)
  refine G_nm (fun M45 hM45 => ?_)
  rw [← hM45] at hI45
  replace hs := hs45.trans hs
  clear hM45 had45 hs45 hI
  refine G_aload_n (pc := 22) 0 0 dX7_init_22 rfl rfl ?_
  refine G_iconst (pc := 23) dX7_init_23 ?_
  refine G_rI (pc := 24) (N := 4) (46, 0, 0, 0) dX7_init_24 (hI45.2.2.1 _ (by decide) (by decide)) rfl ⟨by decide, by decide⟩ ⟨Nat.le_of_ble_eq_true rfl, Nat.le_of_ble_eq_true rfl⟩ (fun ad46 had46 => ?_)
  have hs46 := had46 (40, 0, 0, 0) (by simp)
  rw [← hs46]
  refine G_putF (pc := 26) fl_X7_20 ff_X7_20 hF.2.1 dX7_init_26 (md_obj hI45 had46 (by decide) (by decide)) (Nat.le_of_ble_eq_true rfl) rfl rfl rfl ?_
  have hI46 := md_step hI45 had46 ⟨by decide, by decide⟩ (by decide) (by rfl) (mTg_z (by decide) (fun m a b => absurd b (by omega))) (fs := (mFd ad46 45).set 6 (.ref (ad46 (46, 0, 0, 0)))) (by rfl)
  refine G_nm (fun M46 hM46 => ?_)
  rw [← hM46] at hI46
  replace hs := hs46.trans hs
  clear hM46 had46 hs46 hI45
  refine G_aload_n (pc := 29) 0 0 dX7_init_29 rfl rfl ?_
  refine G_bipush (pc := 30) dX7_init_30 (by decide) ?_
  refine G_rI (pc := 32) (N := 16) (47, 0, 0, 0) dX7_init_32 (hI46.2.2.1 _ (by decide) (by decide)) rfl ⟨by decide, by decide⟩ ⟨Nat.le_of_ble_eq_true rfl, Nat.le_of_ble_eq_true rfl⟩ (fun ad47 had47 => ?_)
  have hs47 := had47 (40, 0, 0, 0) (by simp)
  rw [← hs47]
  refine G_putF (pc := 34) fl_X7_23 ff_X7_23 hF.2.1 dX7_init_34 (md_obj hI46 had47 (by decide) (by decide)) (Nat.le_of_ble_eq_true rfl) rfl rfl rfl ?_
  have hI47 := md_step hI46 had47 ⟨by decide, by decide⟩ (by decide) (by rfl) (mTg_z (by decide) (fun m a b => absurd b (by omega))) (fs := (mFd ad47 46).set 7 (.ref (ad47 (47, 0, 0, 0)))) (by rfl)
  refine G_nm (fun M47 hM47 => ?_)
  rw [← hM47] at hI47
  replace hs := hs47.trans hs
  clear hM47 had47 hs47 hI46
  refine G_aload_n (pc := 37) 0 0 dX7_init_37 rfl rfl ?_
  refine G_bipush (pc := 38) dX7_init_38 (by decide) ?_
  refine G_rI (pc := 40) (N := 16) (48, 0, 0, 0) dX7_init_40 (hI47.2.2.1 _ (by decide) (by decide)) rfl ⟨by decide, by decide⟩ ⟨Nat.le_of_ble_eq_true rfl, Nat.le_of_ble_eq_true rfl⟩ (fun ad48 had48 => ?_)
  have hs48 := had48 (40, 0, 0, 0) (by simp)
  rw [← hs48]
  refine G_putF (pc := 42) fl_X7_26 ff_X7_26 hF.2.1 dX7_init_42 (md_obj hI47 had48 (by decide) (by decide)) (Nat.le_of_ble_eq_true rfl) rfl rfl rfl ?_
  have hI48 := md_step hI47 had48 ⟨by decide, by decide⟩ (by decide) (by rfl) (mTg_z (by decide) (fun m a b => absurd b (by omega))) (fs := (mFd ad48 47).set 8 (.ref (ad48 (48, 0, 0, 0)))) (by rfl)
  refine G_nm (fun M48 hM48 => ?_)
  rw [← hM48] at hI48
  replace hs := hs48.trans hs
  clear hM48 had48 hs48 hI47
  refine G_aload_n (pc := 45) 0 0 dX7_init_45 rfl rfl ?_
  refine G_bipush (pc := 46) dX7_init_46 (by decide) ?_
  refine G_rI (pc := 48) (N := 16) (49, 0, 0, 0) dX7_init_48 (hI48.2.2.1 _ (by decide) (by decide)) rfl ⟨by decide, by decide⟩ ⟨Nat.le_of_ble_eq_true rfl, Nat.le_of_ble_eq_true rfl⟩ (fun ad49 had49 => ?_)
  have hs49 := had49 (40, 0, 0, 0) (by simp)
  rw [← hs49]
  refine G_putF (pc := 50) fl_X7_29 ff_X7_29 hF.2.1 dX7_init_50 (md_obj hI48 had49 (by decide) (by decide)) (Nat.le_of_ble_eq_true rfl) rfl rfl rfl ?_
  have hI49 := md_step hI48 had49 ⟨by decide, by decide⟩ (by decide) (by rfl) (mTg_z (by decide) (fun m a b => absurd b (by omega))) (fs := (mFd ad49 48).set 9 (.ref (ad49 (49, 0, 0, 0)))) (by rfl)
  refine G_nm (fun M49 hM49 => ?_)
  rw [← hM49] at hI49
  replace hs := hs49.trans hs
  clear hM49 had49 hs49 hI48
  refine G_aload_n (pc := 53) 0 0 dX7_init_53 rfl rfl ?_
  refine G_iconst (pc := 54) dX7_init_54 ?_
  refine G_rZ (pc := 55) (N := 4) (50, 0, 0, 0) dX7_init_55 (hI49.2.2.1 _ (by decide) (by decide)) rfl ⟨by decide, by decide⟩ ⟨Nat.le_of_ble_eq_true rfl, Nat.le_of_ble_eq_true rfl⟩ (fun ad50 had50 => ?_)
  have hs50 := had50 (40, 0, 0, 0) (by simp)
  rw [← hs50]
  refine G_putF (pc := 57) fl_X7_32 ff_X7_32 hF.2.1 dX7_init_57 (md_obj hI49 had50 (by decide) (by decide)) (Nat.le_of_ble_eq_true rfl) rfl rfl rfl ?_
  have hI50 := md_step hI49 had50 ⟨by decide, by decide⟩ (by decide) (by rfl) (mTg_z (by decide) (fun m a b => absurd b (by omega))) (fs := (mFd ad50 49).set 10 (.ref (ad50 (50, 0, 0, 0)))) (by rfl)
  refine G_nm (fun M50 hM50 => ?_)
  rw [← hM50] at hI50
  replace hs := hs50.trans hs
  clear hM50 had50 hs50 hI49
  refine G_aload_n (pc := 60) 0 0 dX7_init_60 rfl rfl ?_
  refine G_bipush (pc := 61) dX7_init_61 (by decide) ?_
  refine G_rI (pc := 63) (N := 80) (52, 0, 0, 0) dX7_init_63 (hI50.2.2.1 _ (by decide) (by decide)) rfl ⟨by decide, by decide⟩ ⟨Nat.le_of_ble_eq_true rfl, Nat.le_of_ble_eq_true rfl⟩ (fun ad52 had52 => ?_)
  have hs52 := had52 (40, 0, 0, 0) (by simp)
  rw [← hs52]
  refine G_putF (pc := 65) fl_X7_36 ff_X7_36 hF.2.1 dX7_init_65 (md_obj hI50 had52 (by decide) (by decide)) (Nat.le_of_ble_eq_true rfl) rfl rfl rfl ?_
  have hI52 := md_step hI50 had52 ⟨by decide, by decide⟩ (by decide) (by rfl) (mTg_z (by decide) (fun m a b => by have e : m = 51 := (by omega); subst e; rfl)) (fs := (mFd ad52 50).set 12 (.ref (ad52 (52, 0, 0, 0)))) (by rfl)
  refine G_nm (fun M52 hM52 => ?_)
  rw [← hM52] at hI52
  replace hs := hs52.trans hs
  clear hM52 had52 hs52 hI50
  refine G_aload_n (pc := 68) 0 0 dX7_init_68 rfl rfl ?_
  refine G_bipush (pc := 69) dX7_init_69 (by decide) ?_
  refine G_rI (pc := 71) (N := 80) (53, 0, 0, 0) dX7_init_71 (hI52.2.2.1 _ (by decide) (by decide)) rfl ⟨by decide, by decide⟩ ⟨Nat.le_of_ble_eq_true rfl, Nat.le_of_ble_eq_true rfl⟩ (fun ad53 had53 => ?_)
  have hs53 := had53 (40, 0, 0, 0) (by simp)
  rw [← hs53]
  refine G_putF (pc := 73) fl_X7_39 ff_X7_39 hF.2.1 dX7_init_73 (md_obj hI52 had53 (by decide) (by decide)) (Nat.le_of_ble_eq_true rfl) rfl rfl rfl ?_
  have hI53 := md_step hI52 had53 ⟨by decide, by decide⟩ (by decide) (by rfl) (mTg_z (by decide) (fun m a b => absurd b (by omega))) (fs := (mFd ad53 52).set 13 (.ref (ad53 (53, 0, 0, 0)))) (by rfl)
  refine G_nm (fun M53 hM53 => ?_)
  rw [← hM53] at hI53
  replace hs := hs53.trans hs
  clear hM53 had53 hs53 hI52
  refine G_aload_n (pc := 76) 0 0 dX7_init_76 rfl rfl ?_
  refine G_bipush (pc := 77) dX7_init_77 (by decide) ?_
  refine G_rI (pc := 79) (N := 80) (54, 0, 0, 0) dX7_init_79 (hI53.2.2.1 _ (by decide) (by decide)) rfl ⟨by decide, by decide⟩ ⟨Nat.le_of_ble_eq_true rfl, Nat.le_of_ble_eq_true rfl⟩ (fun ad54 had54 => ?_)
  have hs54 := had54 (40, 0, 0, 0) (by simp)
  rw [← hs54]
  refine G_putF (pc := 81) fl_X7_42 ff_X7_42 hF.2.1 dX7_init_81 (md_obj hI53 had54 (by decide) (by decide)) (Nat.le_of_ble_eq_true rfl) rfl rfl rfl ?_
  have hI54 := md_step hI53 had54 ⟨by decide, by decide⟩ (by decide) (by rfl) (mTg_z (by decide) (fun m a b => absurd b (by omega))) (fs := (mFd ad54 53).set 14 (.ref (ad54 (54, 0, 0, 0)))) (by rfl)
  refine G_nm (fun M54 hM54 => ?_)
  rw [← hM54] at hI54
  replace hs := hs54.trans hs
  clear hM54 had54 hs54 hI53
  refine G_aload_n (pc := 84) 0 0 dX7_init_84 rfl rfl ?_
  refine G_bipush (pc := 85) dX7_init_85 (by decide) ?_
  refine G_rI (pc := 87) (N := 80) (55, 0, 0, 0) dX7_init_87 (hI54.2.2.1 _ (by decide) (by decide)) rfl ⟨by decide, by decide⟩ ⟨Nat.le_of_ble_eq_true rfl, Nat.le_of_ble_eq_true rfl⟩ (fun ad55 had55 => ?_)
  have hs55 := had55 (40, 0, 0, 0) (by simp)
  rw [← hs55]
  refine G_putF (pc := 89) fl_X7_45 ff_X7_45 hF.2.1 dX7_init_89 (md_obj hI54 had55 (by decide) (by decide)) (Nat.le_of_ble_eq_true rfl) rfl rfl rfl ?_
  have hI55 := md_step hI54 had55 ⟨by decide, by decide⟩ (by decide) (by rfl) (mTg_z (by decide) (fun m a b => absurd b (by omega))) (fs := (mFd ad55 54).set 15 (.ref (ad55 (55, 0, 0, 0)))) (by rfl)
  refine G_nm (fun M55 hM55 => ?_)
  rw [← hM55] at hI55
  replace hs := hs55.trans hs
  clear hM55 had55 hs55 hI54
  refine G_aload_n (pc := 92) 0 0 dX7_init_92 rfl rfl ?_
  refine G_bipush (pc := 93) dX7_init_93 (by decide) ?_
  refine G_rI (pc := 95) (N := 80) (56, 0, 0, 0) dX7_init_95 (hI55.2.2.1 _ (by decide) (by decide)) rfl ⟨by decide, by decide⟩ ⟨Nat.le_of_ble_eq_true rfl, Nat.le_of_ble_eq_true rfl⟩ (fun ad56 had56 => ?_)
  have hs56 := had56 (40, 0, 0, 0) (by simp)
  rw [← hs56]
  refine G_putF (pc := 97) fl_X7_48 ff_X7_48 hF.2.1 dX7_init_97 (md_obj hI55 had56 (by decide) (by decide)) (Nat.le_of_ble_eq_true rfl) rfl rfl rfl ?_
  have hI56 := md_step hI55 had56 ⟨by decide, by decide⟩ (by decide) (by rfl) (mTg_z (by decide) (fun m a b => absurd b (by omega))) (fs := (mFd ad56 55).set 16 (.ref (ad56 (56, 0, 0, 0)))) (by rfl)
  refine G_nm (fun M56 hM56 => ?_)
  rw [← hM56] at hI56
  replace hs := hs56.trans hs
  clear hM56 had56 hs56 hI55
  refine G_aload_n (pc := 100) 0 0 dX7_init_100 rfl rfl ?_
  refine G_bipush (pc := 101) dX7_init_101 (by decide) ?_
  refine G_rI (pc := 103) (N := 80) (57, 0, 0, 0) dX7_init_103 (hI56.2.2.1 _ (by decide) (by decide)) rfl ⟨by decide, by decide⟩ ⟨Nat.le_of_ble_eq_true rfl, Nat.le_of_ble_eq_true rfl⟩ (fun ad57 had57 => ?_)
  have hs57 := had57 (40, 0, 0, 0) (by simp)
  rw [← hs57]
  refine G_putF (pc := 105) fl_X7_51 ff_X7_51 hF.2.1 dX7_init_105 (md_obj hI56 had57 (by decide) (by decide)) (Nat.le_of_ble_eq_true rfl) rfl rfl rfl ?_
  have hI57 := md_step hI56 had57 ⟨by decide, by decide⟩ (by decide) (by rfl) (mTg_z (by decide) (fun m a b => absurd b (by omega))) (fs := (mFd ad57 56).set 17 (.ref (ad57 (57, 0, 0, 0)))) (by rfl)
  refine G_nm (fun M57 hM57 => ?_)
  rw [← hM57] at hI57
  replace hs := hs57.trans hs
  clear hM57 had57 hs57 hI56
  refine G_aload_n (pc := 108) 0 0 dX7_init_108 rfl rfl ?_
  refine G_bipush (pc := 109) dX7_init_109 (by decide) ?_
  refine G_rZ (pc := 111) (N := 80) (58, 0, 0, 0) dX7_init_111 (hI57.2.2.1 _ (by decide) (by decide)) rfl ⟨by decide, by decide⟩ ⟨Nat.le_of_ble_eq_true rfl, Nat.le_of_ble_eq_true rfl⟩ (fun ad58 had58 => ?_)
  have hs58 := had58 (40, 0, 0, 0) (by simp)
  rw [← hs58]
  refine G_putF (pc := 113) fl_X7_54 ff_X7_54 hF.2.1 dX7_init_113 (md_obj hI57 had58 (by decide) (by decide)) (Nat.le_of_ble_eq_true rfl) rfl rfl rfl ?_
  have hI58 := md_step hI57 had58 ⟨by decide, by decide⟩ (by decide) (by rfl) (mTg_z (by decide) (fun m a b => absurd b (by omega))) (fs := (mFd ad58 57).set 18 (.ref (ad58 (58, 0, 0, 0)))) (by rfl)
  refine G_nm (fun M58 hM58 => ?_)
  rw [← hM58] at hI58
  replace hs := hs58.trans hs
  clear hM58 had58 hs58 hI57
  refine G_aload_n (pc := 116) 0 0 dX7_init_116 rfl rfl ?_
  refine G_sipush (pc := 117) dX7_init_117 (by decide) ?_
  refine G_rI (pc := 120) (N := 1280) (59, 0, 0, 0) dX7_init_120 (hI58.2.2.1 _ (by decide) (by decide)) rfl ⟨by decide, by decide⟩ ⟨Nat.le_of_ble_eq_true rfl, Nat.le_of_ble_eq_true rfl⟩ (fun ad59 had59 => ?_)
  have hs59 := had59 (40, 0, 0, 0) (by simp)
  rw [← hs59]
  refine G_putF (pc := 122) fl_X7_57 ff_X7_57 hF.2.1 dX7_init_122 (md_obj hI58 had59 (by decide) (by decide)) (Nat.le_of_ble_eq_true rfl) rfl rfl rfl ?_
  have hI59 := md_step hI58 had59 ⟨by decide, by decide⟩ (by decide) (by rfl) (mTg_z (by decide) (fun m a b => absurd b (by omega))) (fs := (mFd ad59 58).set 19 (.ref (ad59 (59, 0, 0, 0)))) (by rfl)
  refine G_nm (fun M59 hM59 => ?_)
  rw [← hM59] at hI59
  replace hs := hs59.trans hs
  clear hM59 had59 hs59 hI58
  refine G_aload_n (pc := 125) 0 0 dX7_init_125 rfl rfl ?_
  refine G_bipush (pc := 126) dX7_init_126 (by decide) ?_
  refine G_rI (pc := 128) (N := 8) (61, 0, 0, 0) dX7_init_128 (hI59.2.2.1 _ (by decide) (by decide)) rfl ⟨by decide, by decide⟩ ⟨Nat.le_of_ble_eq_true rfl, Nat.le_of_ble_eq_true rfl⟩ (fun ad61 had61 => ?_)
  have hs61 := had61 (40, 0, 0, 0) (by simp)
  rw [← hs61]
  refine G_putf (pc := 130) fl_X7_60 fp_X7_21 dX7_init_130 (md_obj hI59 had61 (by decide) (by decide)) (Nat.le_of_ble_eq_true rfl) rfl rfl rfl ?_
  have hI61 := md_step hI59 had61 ⟨by decide, by decide⟩ (by decide) (by rfl) (mTg_z (by decide) (fun m a b => by have e : m = 60 := (by omega); subst e; rfl)) (fs := (mFd ad61 59).set 21 (.ref (ad61 (61, 0, 0, 0)))) (by rfl)
  refine G_nm (fun M61 hM61 => ?_)
  rw [← hM61] at hI61
  replace hs := hs61.trans hs
  clear hM61 had61 hs61 hI59
  refine G_aload_n (pc := 133) 0 0 dX7_init_133 rfl rfl ?_
  refine G_iconst (pc := 134) dX7_init_134 ?_
  refine G_rI (pc := 135) (N := 4) (62, 0, 0, 0) dX7_init_135 (hI61.2.2.1 _ (by decide) (by decide)) rfl ⟨by decide, by decide⟩ ⟨Nat.le_of_ble_eq_true rfl, Nat.le_of_ble_eq_true rfl⟩ (fun ad62 had62 => ?_)
  have hs62 := had62 (40, 0, 0, 0) (by simp)
  rw [← hs62]
  refine G_putF (pc := 137) fl_X7_63 ff_X7_63 hF.2.1 dX7_init_137 (md_obj hI61 had62 (by decide) (by decide)) (Nat.le_of_ble_eq_true rfl) rfl rfl rfl ?_
  have hI62 := md_step hI61 had62 ⟨by decide, by decide⟩ (by decide) (by rfl) (mTg_z (by decide) (fun m a b => absurd b (by omega))) (fs := (mFd ad62 61).set 22 (.ref (ad62 (62, 0, 0, 0)))) (by rfl)
  refine G_nm (fun M62 hM62 => ?_)
  rw [← hM62] at hI62
  replace hs := hs62.trans hs
  clear hM62 had62 hs62 hI61
  refine G_aload_n (pc := 140) 0 0 dX7_init_140 rfl rfl ?_
  refine G_iconst (pc := 141) dX7_init_141 ?_
  refine G_rI (pc := 142) (N := 4) (64, 0, 0, 0) dX7_init_142 (hI62.2.2.1 _ (by decide) (by decide)) rfl ⟨by decide, by decide⟩ ⟨Nat.le_of_ble_eq_true rfl, Nat.le_of_ble_eq_true rfl⟩ (fun ad64 had64 => ?_)
  have hs64 := had64 (40, 0, 0, 0) (by simp)
  rw [← hs64]
  refine G_putF (pc := 144) fl_X7_66 ff_X7_66 hF.2.1 dX7_init_144 (md_obj hI62 had64 (by decide) (by decide)) (Nat.le_of_ble_eq_true rfl) rfl rfl rfl ?_
  have hI64 := md_step hI62 had64 ⟨by decide, by decide⟩ (by decide) (by rfl) (mTg_z (by decide) (fun m a b => by have e : m = 63 := (by omega); subst e; rfl)) (fs := (mFd ad64 62).set 24 (.ref (ad64 (64, 0, 0, 0)))) (by rfl)
  refine G_nm (fun M64 hM64 => ?_)
  rw [← hM64] at hI64
  replace hs := hs64.trans hs
  clear hM64 had64 hs64 hI62
  refine G_aload_n (pc := 147) 0 0 dX7_init_147 rfl rfl ?_
  refine G_bipush (pc := 148) dX7_init_148 (by decide) ?_
  refine G_rI (pc := 150) (N := 16) (65, 0, 0, 0) dX7_init_150 (hI64.2.2.1 _ (by decide) (by decide)) rfl ⟨by decide, by decide⟩ ⟨Nat.le_of_ble_eq_true rfl, Nat.le_of_ble_eq_true rfl⟩ (fun ad65 had65 => ?_)
  have hs65 := had65 (40, 0, 0, 0) (by simp)
  rw [← hs65]
  refine G_putF (pc := 152) fl_X7_69 ff_X7_69 hF.2.1 dX7_init_152 (md_obj hI64 had65 (by decide) (by decide)) (Nat.le_of_ble_eq_true rfl) rfl rfl rfl ?_
  have hI65 := md_step hI64 had65 ⟨by decide, by decide⟩ (by decide) (by rfl) (mTg_z (by decide) (fun m a b => absurd b (by omega))) (fs := (mFd ad65 64).set 25 (.ref (ad65 (65, 0, 0, 0)))) (by rfl)
  refine G_nm (fun M65 hM65 => ?_)
  rw [← hM65] at hI65
  replace hs := hs65.trans hs
  clear hM65 had65 hs65 hI64
  refine G_aload_n (pc := 155) 0 0 dX7_init_155 rfl rfl ?_
  refine G_bipush (pc := 156) dX7_init_156 (by decide) ?_
  refine G_rI (pc := 158) (N := 16) (66, 0, 0, 0) dX7_init_158 (hI65.2.2.1 _ (by decide) (by decide)) rfl ⟨by decide, by decide⟩ ⟨Nat.le_of_ble_eq_true rfl, Nat.le_of_ble_eq_true rfl⟩ (fun ad66 had66 => ?_)
  have hs66 := had66 (40, 0, 0, 0) (by simp)
  rw [← hs66]
  refine G_putF (pc := 160) fl_X7_72 ff_X7_72 hF.2.1 dX7_init_160 (md_obj hI65 had66 (by decide) (by decide)) (Nat.le_of_ble_eq_true rfl) rfl rfl rfl ?_
  have hI66 := md_step hI65 had66 ⟨by decide, by decide⟩ (by decide) (by rfl) (mTg_z (by decide) (fun m a b => absurd b (by omega))) (fs := (mFd ad66 65).set 26 (.ref (ad66 (66, 0, 0, 0)))) (by rfl)
  refine G_nm (fun M66 hM66 => ?_)
  rw [← hM66] at hI66
  replace hs := hs66.trans hs
  clear hM66 had66 hs66 hI65
  refine G_aload_n (pc := 163) 0 0 dX7_init_163 rfl rfl ?_
  refine G_bipush (pc := 164) dX7_init_164 (by decide) ?_
  refine G_rI (pc := 166) (N := 16) (67, 0, 0, 0) dX7_init_166 (hI66.2.2.1 _ (by decide) (by decide)) rfl ⟨by decide, by decide⟩ ⟨Nat.le_of_ble_eq_true rfl, Nat.le_of_ble_eq_true rfl⟩ (fun ad67 had67 => ?_)
  have hs67 := had67 (40, 0, 0, 0) (by simp)
  rw [← hs67]
  refine G_putF (pc := 168) fl_X7_75 ff_X7_75 hF.2.1 dX7_init_168 (md_obj hI66 had67 (by decide) (by decide)) (Nat.le_of_ble_eq_true rfl) rfl rfl rfl ?_
  have hI67 := md_step hI66 had67 ⟨by decide, by decide⟩ (by decide) (by rfl) (mTg_z (by decide) (fun m a b => absurd b (by omega))) (fs := (mFd ad67 66).set 27 (.ref (ad67 (67, 0, 0, 0)))) (by rfl)
  refine G_nm (fun M67 hM67 => ?_)
  rw [← hM67] at hI67
  replace hs := hs67.trans hs
  clear hM67 had67 hs67 hI66
  refine G_aload_n (pc := 171) 0 0 dX7_init_171 rfl rfl ?_
  refine G_bipush (pc := 172) dX7_init_172 (by decide) ?_
  refine G_rZ (pc := 174) (N := 24) (68, 0, 0, 0) dX7_init_174 (hI67.2.2.1 _ (by decide) (by decide)) rfl ⟨by decide, by decide⟩ ⟨Nat.le_of_ble_eq_true rfl, Nat.le_of_ble_eq_true rfl⟩ (fun ad68 had68 => ?_)
  have hs68 := had68 (40, 0, 0, 0) (by simp)
  rw [← hs68]
  refine G_putF (pc := 176) fl_X7_78 ff_X7_78 hF.2.1 dX7_init_176 (md_obj hI67 had68 (by decide) (by decide)) (Nat.le_of_ble_eq_true rfl) rfl rfl rfl ?_
  have hI68 := md_step hI67 had68 ⟨by decide, by decide⟩ (by decide) (by rfl) (mTg_z (by decide) (fun m a b => absurd b (by omega))) (fs := (mFd ad68 67).set 28 (.ref (ad68 (68, 0, 0, 0)))) (by rfl)
  refine G_nm (fun M68 hM68 => ?_)
  rw [← hM68] at hI68
  replace hs := hs68.trans hs
  clear hM68 had68 hs68 hI67
  refine G_aload_n (pc := 179) 0 0 dX7_init_179 rfl rfl ?_
  refine G_sipush (pc := 180) dX7_init_180 (by decide) ?_
  refine G_rI (pc := 183) (N := 320) (69, 0, 0, 0) dX7_init_183 (hI68.2.2.1 _ (by decide) (by decide)) rfl ⟨by decide, by decide⟩ ⟨Nat.le_of_ble_eq_true rfl, Nat.le_of_ble_eq_true rfl⟩ (fun ad69 had69 => ?_)
  have hs69 := had69 (40, 0, 0, 0) (by simp)
  rw [← hs69]
  refine G_putF (pc := 185) fl_X7_81 ff_X7_81 hF.2.1 dX7_init_185 (md_obj hI68 had69 (by decide) (by decide)) (Nat.le_of_ble_eq_true rfl) rfl rfl rfl ?_
  have hI69 := md_step hI68 had69 ⟨by decide, by decide⟩ (by decide) (by rfl) (mTg_z (by decide) (fun m a b => absurd b (by omega))) (fs := (mFd ad69 68).set 29 (.ref (ad69 (69, 0, 0, 0)))) (by rfl)
  refine G_nm (fun M69 hM69 => ?_)
  rw [← hM69] at hI69
  replace hs := hs69.trans hs
  clear hM69 had69 hs69 hI68
  refine G_aload_n (pc := 188) 0 0 dX7_init_188 rfl rfl ?_
  refine G_sipush (pc := 189) dX7_init_189 (by decide) ?_
  refine G_rI (pc := 192) (N := 320) (70, 0, 0, 0) dX7_init_192 (hI69.2.2.1 _ (by decide) (by decide)) rfl ⟨by decide, by decide⟩ ⟨Nat.le_of_ble_eq_true rfl, Nat.le_of_ble_eq_true rfl⟩ (fun ad70 had70 => ?_)
  have hs70 := had70 (40, 0, 0, 0) (by simp)
  rw [← hs70]
  refine G_putF (pc := 194) fl_X7_84 ff_X7_84 hF.2.1 dX7_init_194 (md_obj hI69 had70 (by decide) (by decide)) (Nat.le_of_ble_eq_true rfl) rfl rfl rfl ?_
  have hI70 := md_step hI69 had70 ⟨by decide, by decide⟩ (by decide) (by rfl) (mTg_z (by decide) (fun m a b => absurd b (by omega))) (fs := (mFd ad70 69).set 30 (.ref (ad70 (70, 0, 0, 0)))) (by rfl)
  refine G_nm (fun M70 hM70 => ?_)
  rw [← hM70] at hI70
  replace hs := hs70.trans hs
  clear hM70 had70 hs70 hI69
  refine G_aload_n (pc := 197) 0 0 dX7_init_197 rfl rfl ?_
  refine G_sipush (pc := 198) dX7_init_198 (by decide) ?_
  refine G_rI (pc := 201) (N := 320) (71, 0, 0, 0) dX7_init_201 (hI70.2.2.1 _ (by decide) (by decide)) rfl ⟨by decide, by decide⟩ ⟨Nat.le_of_ble_eq_true rfl, Nat.le_of_ble_eq_true rfl⟩ (fun ad71 had71 => ?_)
  have hs71 := had71 (40, 0, 0, 0) (by simp)
  rw [← hs71]
  refine G_putF (pc := 203) fl_X7_87 ff_X7_87 hF.2.1 dX7_init_203 (md_obj hI70 had71 (by decide) (by decide)) (Nat.le_of_ble_eq_true rfl) rfl rfl rfl ?_
  have hI71 := md_step hI70 had71 ⟨by decide, by decide⟩ (by decide) (by rfl) (mTg_z (by decide) (fun m a b => absurd b (by omega))) (fs := (mFd ad71 70).set 31 (.ref (ad71 (71, 0, 0, 0)))) (by rfl)
  refine G_nm (fun M71 hM71 => ?_)
  rw [← hM71] at hI71
  replace hs := hs71.trans hs
  clear hM71 had71 hs71 hI70
  refine G_aload_n (pc := 206) 0 0 dX7_init_206 rfl rfl ?_
  refine G_sipush (pc := 207) dX7_init_207 (by decide) ?_
  refine G_rI (pc := 210) (N := 1000) (73, 0, 0, 0) dX7_init_210 (hI71.2.2.1 _ (by decide) (by decide)) rfl ⟨by decide, by decide⟩ ⟨Nat.le_of_ble_eq_true rfl, Nat.le_of_ble_eq_true rfl⟩ (fun ad73 had73 => ?_)
  have hs73 := had73 (40, 0, 0, 0) (by simp)
  rw [← hs73]
  refine G_putF (pc := 212) fl_X7_90 ff_X7_90 hF.2.1 dX7_init_212 (md_obj hI71 had73 (by decide) (by decide)) (Nat.le_of_ble_eq_true rfl) rfl rfl rfl ?_
  have hI73 := md_step hI71 had73 ⟨by decide, by decide⟩ (by decide) (by rfl) (mTg_z (by decide) (fun m a b => by have e : m = 72 := (by omega); subst e; rfl)) (fs := (mFd ad73 71).set 33 (.ref (ad73 (73, 0, 0, 0)))) (by rfl)
  refine G_nm (fun M73 hM73 => ?_)
  rw [← hM73] at hI73
  replace hs := hs73.trans hs
  clear hM73 had73 hs73 hI71
  refine G_iconst (pc := 215) dX7_init_215 ?_
  refine G_istore_n (pc := 216) 1 [(1, .int (zI (0))), (0, .ref (ad73 (40, 0, 0, 0)))] dX7_init_216 rfl (by decide) rfl ?_
  have f62 : M73 (62, 0, 0, 0) = some (.inl ((z_d Γ).2.1 0, 4, .inl (zAi (fun _ => 0)))) := hI73.2.1 _ (by decide) (by decide)
  have fob := hI73.1
  refine G_iload_n (pc := 217) 1 0 dX7_init_217 rfl rfl ?_
  refine G_iconst (pc := 218) dX7_init_218 ?_
  refine G_icmp_ge (pc := 219) 235 dX7_init_219 (by decide) ⟨by omega, by omega⟩ ⟨by omega, by omega⟩ (fun q => absurd q (by omega)) (fun q => ?_)
  refine G_aload_n (pc := 222) 0 1 dX7_init_222 rfl rfl ?_
  refine G_getf (pc := 223) fl_X7_63 dX7_init_223 fob rfl ?_
  refine G_iload_n (pc := 226) 1 0 dX7_init_226 rfl rfl ?_
  refine G_iconst (pc := 227) dX7_init_227 ?_
  refine G_iast (pc := 228) dX7_init_228 f62 ⟨by omega, by omega, by omega, by omega⟩ rfl ?_
  refine G_nm (fun Ml0 hMl0 => ?_)
  have fl0 : Ml0 (62, 0, 0, 0) = some (.inl ((z_d Γ).2.1 0, 4, .inl (zAi (zup (fun _ => 0) (0) (-1))))) := by rw [hMl0]; exact zup1_s _ _ _
  have fo0 : Ml0 (40, 0, 0, 0) = some (.inr (8, mFd ad73 73)) := by rw [hMl0, zup1_n _ _ (by simp)]; exact fob
  refine G_iinc (pc := 229) 0 [(1, .int (zI (0 + 1))), (0, .ref (ad73 (40, 0, 0, 0)))] dX7_init_229 rfl (by decide) rfl ?_
  refine G_goto (pc := 232) 217 dX7_init_232 (by decide) ?_
  refine G_iload_n (pc := 217) 1 0 dX7_init_217 rfl rfl ?_
  refine G_iconst (pc := 218) dX7_init_218 ?_
  refine G_icmp_ge (pc := 219) 235 dX7_init_219 (by decide) ⟨by omega, by omega⟩ ⟨by omega, by omega⟩ (fun q => absurd q (by omega)) (fun q => ?_)
  refine G_aload_n (pc := 222) 0 1 dX7_init_222 rfl rfl ?_
  refine G_getf (pc := 223) fl_X7_63 dX7_init_223 fo0 rfl ?_
  refine G_iload_n (pc := 226) 1 0 dX7_init_226 rfl rfl ?_
  refine G_iconst (pc := 227) dX7_init_227 ?_
  refine G_iast (pc := 228) dX7_init_228 fl0 ⟨by omega, by omega, by omega, by omega⟩ rfl ?_
  refine G_nm (fun Ml1 hMl1 => ?_)
  have fl1 : Ml1 (62, 0, 0, 0) = some (.inl ((z_d Γ).2.1 0, 4, .inl (zAi (zup (zup (fun _ => 0) (0) (-1)) (0 + 1) (-1))))) := by rw [hMl1]; exact zup1_s _ _ _
  have fo1 : Ml1 (40, 0, 0, 0) = some (.inr (8, mFd ad73 73)) := by rw [hMl1, zup1_n _ _ (by simp)]; exact fo0
  refine G_iinc (pc := 229) 0 [(1, .int (zI (0 + 1 + 1))), (0, .ref (ad73 (40, 0, 0, 0)))] dX7_init_229 rfl (by decide) rfl ?_
  refine G_goto (pc := 232) 217 dX7_init_232 (by decide) ?_
  refine G_iload_n (pc := 217) 1 0 dX7_init_217 rfl rfl ?_
  refine G_iconst (pc := 218) dX7_init_218 ?_
  refine G_icmp_ge (pc := 219) 235 dX7_init_219 (by decide) ⟨by omega, by omega⟩ ⟨by omega, by omega⟩ (fun q => absurd q (by omega)) (fun q => ?_)
  refine G_aload_n (pc := 222) 0 1 dX7_init_222 rfl rfl ?_
  refine G_getf (pc := 223) fl_X7_63 dX7_init_223 fo1 rfl ?_
  refine G_iload_n (pc := 226) 1 0 dX7_init_226 rfl rfl ?_
  refine G_iconst (pc := 227) dX7_init_227 ?_
  refine G_iast (pc := 228) dX7_init_228 fl1 ⟨by omega, by omega, by omega, by omega⟩ rfl ?_
  refine G_nm (fun Ml2 hMl2 => ?_)
  have fl2 : Ml2 (62, 0, 0, 0) = some (.inl ((z_d Γ).2.1 0, 4, .inl (zAi (zup (zup (zup (fun _ => 0) (0) (-1)) (0 + 1) (-1)) (0 + 1 + 1) (-1))))) := by rw [hMl2]; exact zup1_s _ _ _
  have fo2 : Ml2 (40, 0, 0, 0) = some (.inr (8, mFd ad73 73)) := by rw [hMl2, zup1_n _ _ (by simp)]; exact fo1
  refine G_iinc (pc := 229) 0 [(1, .int (zI (0 + 1 + 1 + 1))), (0, .ref (ad73 (40, 0, 0, 0)))] dX7_init_229 rfl (by decide) rfl ?_
  refine G_goto (pc := 232) 217 dX7_init_232 (by decide) ?_
  refine G_iload_n (pc := 217) 1 0 dX7_init_217 rfl rfl ?_
  refine G_iconst (pc := 218) dX7_init_218 ?_
  refine G_icmp_ge (pc := 219) 235 dX7_init_219 (by decide) ⟨by omega, by omega⟩ ⟨by omega, by omega⟩ (fun q => absurd q (by omega)) (fun q => ?_)
  refine G_aload_n (pc := 222) 0 1 dX7_init_222 rfl rfl ?_
  refine G_getf (pc := 223) fl_X7_63 dX7_init_223 fo2 rfl ?_
  refine G_iload_n (pc := 226) 1 0 dX7_init_226 rfl rfl ?_
  refine G_iconst (pc := 227) dX7_init_227 ?_
  refine G_iast (pc := 228) dX7_init_228 fl2 ⟨by omega, by omega, by omega, by omega⟩ rfl ?_
  refine G_nm (fun Ml3 hMl3 => ?_)
  have fl3 : Ml3 (62, 0, 0, 0) = some (.inl ((z_d Γ).2.1 0, 4, .inl (zAi (zup (zup (zup (zup (fun _ => 0) (0) (-1)) (0 + 1) (-1)) (0 + 1 + 1) (-1)) (0 + 1 + 1 + 1) (-1))))) := by rw [hMl3]; exact zup1_s _ _ _
  have fo3 : Ml3 (40, 0, 0, 0) = some (.inr (8, mFd ad73 73)) := by rw [hMl3, zup1_n _ _ (by simp)]; exact fo2
  refine G_iinc (pc := 229) 0 [(1, .int (zI (0 + 1 + 1 + 1 + 1))), (0, .ref (ad73 (40, 0, 0, 0)))] dX7_init_229 rfl (by decide) rfl ?_
  refine G_goto (pc := 232) 217 dX7_init_232 (by decide) ?_
  refine G_iload_n (pc := 217) 1 0 dX7_init_217 rfl rfl ?_
  refine G_iconst (pc := 218) dX7_init_218 ?_
  refine G_icmp_ge (pc := 219) 235 dX7_init_219 (by decide) ⟨by omega, by omega⟩ ⟨by omega, by omega⟩ (fun q => ?_) (fun q => absurd (show (0 + 1 + 1 + 1 + 1 : Int) ≥ 4 by omega) q)
  refine G_vret (pc := 235) hF dX7_init_235 ⟨Nat.le_of_ble_eq_true rfl, Nat.le_of_ble_eq_true rfl⟩ ⟨rfl, hs, M73, hI73, ?_⟩
  rw [hMl3, hMl2, hMl1, hMl0, zuu, zuu, zuu]
