/-! ===== the constructors of Topic and Group ===== -/
/-- references to the cells of a kind, up to below p -/
def zFk (ad : zK → Nat) (n : Nat) (Y p : Int) : Int → Option Nat := fun x => if 0 ≤ x ∧ x < p then some (ad (n, Y, x, 0)) else none
theorem zFk_0 {ad : zK → Nat} {n : Nat} {Y : Int} : zFk ad n Y 0 = fun _ => none := by
  funext x
  unfold zFk
  rw [if_neg (by omega)]
theorem zFk_s {ad ad' : zK → Nat} {n : Nat} {Y p : Int} (hp : 0 ≤ p) (h : ∀ x, 0 ≤ x → x < p → ad' (n, Y, x, 0) = ad (n, Y, x, 0)) : zup (zFk ad n Y p) p (some (ad' (n, Y, p, 0))) = zFk ad' n Y (p + 1) := by
  funext x
  show (if x = p then some (ad' (n, Y, p, 0)) else zFk ad n Y p x) = zFk ad' n Y (p + 1) x
  unfold zFk
  by_cases hx : x = p
  · subst hx
    rw [if_pos rfl, if_pos (by omega)]
  · rw [if_neg hx]
    by_cases h1 : 0 ≤ x ∧ x < p
    · rw [if_pos h1, if_pos (by omega), h x h1.1 h1.2]
    · rw [if_neg h1, if_neg (by omega)]
def tpN (Y : Int) (k : zK) : Prop := k.2.1 = Y ∧ 8 ≤ k.1 ∧ k.1 ≤ 12
/-- a topic half made: its first p partitions stand -/
def tpI (Δ : zDl) (ad0 : zK → Nat) (M0 : zMem) (Y b : Int) (n : Nat) (p : Int) (ad : zK → Nat) (M : zMem) : Prop :=
  M (8, Y, 0, 0) = some (.inr (6, [.ref (ad (9, Y, 0, 0)), .int (zI b), .ref (ad (10, Y, 0, 0)), .int (zI 0)])) ∧
  M (9, Y, 0, 0) = some (.inl (Δ.2.1 2, n, .inr (.inr (.inr (.inr (zAq (zFk ad 11 Y p))))))) ∧
  M (10, Y, 0, 0) = some (.inl (Δ.2.1 0, 4, .inl (zAi (fun _ => 0)))) ∧
  (∀ x, 0 ≤ x → x < p → M (11, Y, x, 0) = some (.inr (4, [.ref (ad (12, Y, x, 0)), .int (zI 0)])) ∧ M (12, Y, x, 0) = some (zLi 0 Δ.2.2.1 0)) ∧
  (∀ x, p ≤ x → x < n → M (11, Y, x, 0) = none ∧ M (12, Y, x, 0) = none) ∧
  (∀ k, ¬ tpN Y k → M k = M0 k ∧ ad k = ad0 k) ∧ ad (8, Y, 0, 0) = ad0 (8, Y, 0, 0)
theorem tp_step {Δ : zDl} {ad0 ad ad1 ad2 : zK → Nat} {M0 M M2 : zMem} {Y b p : Int} {n : Nat} {e : va_E} (h : tpI Δ ad0 M0 Y b n p ad M) (hp : 0 ≤ p ∧ p < n) (had : ∀ k, k ≠ (11, Y, p, 0) → ad1 k = ad k)
    (hfr : ∀ k, ¬ (k = (11, Y, p, 0) ∨ k = (12, Y, p, 0)) → M2 k = zup1 M (11, Y, p, 0) (some e) k ∧ ad2 k = ad1 k) (h1 : M2 (11, Y, p, 0) = some (.inr (4, [.ref (ad2 (12, Y, p, 0)), .int (zI 0)]))) (h2 : M2 (12, Y, p, 0) = some (zLi 0 Δ.2.2.1 0)) :
    tpI Δ ad0 M0 Y b n (p + 1) ad2 (zup1 M2 (9, Y, 0, 0) (some (.inl (Δ.2.1 2, n, .inr (.inr (.inr (.inr (zAq (zup (zFk ad 11 Y p) p (some (ad2 (11, Y, p, 0)))))))))))) := by
  obtain ⟨i1, i2, i3, i4, i5, i6, i7⟩ := h
  have ha : ∀ k, ¬ (k = (11, Y, p, 0) ∨ k = (12, Y, p, 0)) → ad2 k = ad k := fun k hk => ((hfr k hk).2).trans (had k (fun q => hk (Or.inl q)))
  have hm : ∀ k, ¬ (k = (11, Y, p, 0) ∨ k = (12, Y, p, 0)) → M2 k = M k := fun k hk => ((hfr k hk).1).trans (zup1_n _ _ (fun q => hk (Or.inl q)))
  have hx : ∀ (m : Nat) x, x ≠ p → ¬ (((m, Y, x, 0) : zK) = (11, Y, p, 0) ∨ ((m, Y, x, 0) : zK) = (12, Y, p, 0)) := fun m x hx q => by
    rcases q with q | q <;> · simp only [Prod.mk.injEq] at q; omega
  have hl : ∀ m : Nat, m ≠ 11 → m ≠ 12 → ¬ (((m, Y, 0, 0) : zK) = (11, Y, p, 0) ∨ ((m, Y, 0, 0) : zK) = (12, Y, p, 0)) := fun m h1 h2 q => by
    rcases q with q | q <;> · simp only [Prod.mk.injEq] at q; omega
  refine ⟨?_, ?_, ?_, fun x hx1 hx2 => ?_, fun x hx1 hx2 => ?_, fun k hk => ?_, ?_⟩
  · rw [zup1_n _ _ (by simp), hm _ (hl 8 (by decide) (by decide)), i1, ha _ (hl 9 (by decide) (by decide)), ha _ (hl 10 (by decide) (by decide))]
  · rw [zup1_s, zFk_s hp.1 (fun x a b => ha _ (hx 11 x (by omega)))]
  · rw [zup1_n _ _ (by simp), hm _ (hl 10 (by decide) (by decide)), i3]
  · rw [zup1_n _ _ (by simp), zup1_n _ _ (by simp)]
    by_cases hxp : x = p
    · subst hxp; exact ⟨h1, h2⟩
    · rw [hm _ (hx 11 x hxp), hm _ (hx 12 x hxp), ha _ (hx 12 x hxp)]
      exact i4 x hx1 (by omega)
  · rw [zup1_n _ _ (by simp), zup1_n _ _ (by simp), hm _ (hx 11 x (by omega)), hm _ (hx 12 x (by omega))]
    exact i5 x (by omega) hx2
  · have hk2 : ¬ (k = (11, Y, p, 0) ∨ k = (12, Y, p, 0)) := fun q => hk (by rcases q with q | q <;> rw [q] <;> exact ⟨rfl, Nat.le_of_ble_eq_true rfl, Nat.le_of_ble_eq_true rfl⟩)
    rw [zup1_n _ _ (fun q => hk (by rw [q]; exact ⟨rfl, Nat.le_of_ble_eq_true rfl, Nat.le_of_ble_eq_true rfl⟩)), hm _ hk2, ha _ hk2]
    exact i6 k hk
  · rw [ha _ (hl 8 (by decide) (by decide))]
    exact i7
set_option maxHeartbeats 4000000 in
set_option maxRecDepth 100000 in
theorem c_X5_init {l : Launch} {Δ : zDl} {ad : zK → Nat} {M : zMem} {Y b : Int} {n : Nat} (hn : 1 ≤ n ∧ n ≤ 4) (hb : b = 0 ∨ b = 1) (h0 : M (8, Y, 0, 0) = some (.inr (6, [.null, .int (zI 0), .null, .int (zI 0)]))) (h9 : M (9, Y, 0, 0) = none) (h10 : M (10, Y, 0, 0) = none) (h11 : ∀ x, 0 ≤ x → x < (n : Int) → M (11, Y, x, 0) = none ∧ M (12, Y, x, 0) = none) : zMn l Δ yX5_init cX5_init 4 none 5 10 28 [.ref (ad (8, Y, 0, 0)), .int (zI (n : Int)), .int (zI b)] ad M (fun v ad' M' => v = none ∧ tpI Δ ad M Y b n n ad' M') := by
  refine zMn_of (by decide) (Nat.le_of_ble_eq_true rfl) (fun Γ hl hΔ hF => ?_)
  subst hl hΔ
  show G Γ _ _ _ RX5 _ _ _ _ _ [(0, .ref (ad (8, Y, 0, 0))), (1, .int (zI (n : Int))), (2, .int (zI b))] []
  refine G_aload_n (pc := 0) 0 0 dX5_init_0 rfl rfl ?_
  refine G_objInit (pc := 1) oi_X5_3 dX5_init_1 ⟨Nat.le_of_ble_eq_true rfl, Nat.le_of_ble_eq_true rfl⟩ ?_
  refine G_aload_n (pc := 4) 0 0 dX5_init_4 rfl rfl ?_
  refine G_iconst (pc := 5) dX5_init_5 ?_
  refine G_rI (pc := 6) (N := 4) (10, Y, 0, 0) dX5_init_6 h10 rfl ⟨by omega, by omega⟩ ⟨Nat.le_of_ble_eq_true rfl, Nat.le_of_ble_eq_true rfl⟩ (fun ad1 had1 => ?_)
  rw [← had1 (8, Y, 0, 0) (by simp)]
  refine G_putF (pc := 8) fl_X5_9 ff_X5_9 hF.2.1 dX5_init_8 ((zup1_n _ _ (by simp)).trans h0) (Nat.le_of_ble_eq_true rfl) rfl rfl rfl ?_
  refine G_aload_n (pc := 11) 0 0 dX5_init_11 rfl rfl ?_
  refine G_iconst (pc := 12) dX5_init_12 ?_
  refine G_putf (pc := 13) fl_X5_15 fp_X5_3 dX5_init_13 (zup1_s _ _ _) (Nat.le_of_ble_eq_true rfl) rfl rfl rfl ?_
  refine G_aload_n (pc := 16) 0 0 dX5_init_16 rfl rfl ?_
  refine G_iload_n (pc := 17) 2 2 dX5_init_17 rfl rfl ?_
  refine G_putF (pc := 18) fl_X5_19 ff_X5_19 hF.2.1 dX5_init_18 (zup1_s _ _ _) (Nat.le_of_ble_eq_true rfl) (zb_nar hb) (by rcases hb with rfl | rfl <;> rfl) rfl ?_
  rw [zuu, zuu]
  refine G_aload_n (pc := 21) 0 0 dX5_init_21 rfl rfl ?_
  refine G_iload_n (pc := 22) 1 1 dX5_init_22 rfl rfl ?_
  refine G_newq (pc := 23) (t := 2) (N := n) (9, Y, 0, 0) ct_X5_23.2 (Or.inl rfl) rfl dX5_init_23 (by rw [zup1_n _ _ (by simp), zup1_n _ _ (by simp)]; exact h9) rfl ⟨by omega, by omega⟩ (by omega) ⟨Nat.le_of_ble_eq_true rfl, by show 4 + n ≤ 28; omega⟩ (fun ad2 had2 => ?_)
  rw [← had2 (8, Y, 0, 0) (by simp)]
  refine G_putF (pc := 26) fl_X5_25 ff_X5_25 hF.2.1 dX5_init_26 ((zup1_n _ _ (by simp)).trans (zup1_s _ _ _)) (Nat.le_of_ble_eq_true rfl) rfl rfl rfl ?_
  refine G_nm (fun M1 hM1 => ?_)
  have hI : tpI (z_d Γ) ad M Y b n 0 ad2 M1 := by
    rw [hM1]
    refine ⟨?_, ?_, ?_, fun x h1 h2 => by omega, fun x h1 h2 => ?_, fun k hk => ⟨?_, ?_⟩, ?_⟩
    · rw [zup1_s, ← had2 (10, Y, 0, 0) (by simp)]
      rfl
    · rw [zup1_n _ _ (by simp), zup1_s, zFk_0]
      rfl
    · rw [zup1_n _ _ (by simp), zup1_n _ _ (by simp), zup1_n _ _ (by simp), zup1_s]
    · rw [zup1_n _ _ (by simp), zup1_n _ _ (by simp), zup1_n _ _ (by simp), zup1_n _ _ (by simp), zup1_n _ _ (by simp), zup1_n _ _ (by simp), zup1_n _ _ (by simp), zup1_n _ _ (by simp)]
      exact h11 x h1 h2
    · have e : ∀ m : Nat, 8 ≤ m → m ≤ 12 → k ≠ (m, Y, 0, 0) := fun m h1 h2 q => hk (by rw [q]; exact ⟨rfl, h1, h2⟩)
      rw [zup1_n _ _ (e 8 (by decide) (by decide)), zup1_n _ _ (e 9 (by decide) (by decide)), zup1_n _ _ (e 8 (by decide) (by decide)), zup1_n _ _ (e 10 (by decide) (by decide))]
    · have e : ∀ m : Nat, 8 ≤ m → m ≤ 12 → k ≠ (m, Y, 0, 0) := fun m h1 h2 q => hk (by rw [q]; exact ⟨rfl, h1, h2⟩)
      rw [had2 _ (e 9 (by decide) (by decide)), had1 _ (e 10 (by decide) (by decide))]
    · rw [had2 _ (by simp), had1 _ (by simp)]
  refine G_iconst (pc := 29) dX5_init_29 ?_
  refine G_istore_n (pc := 30) 3 [(3, .int (zI 0)), (0, .ref (ad2 (8, Y, 0, 0))), (1, .int (zI (n : Int))), (2, .int (zI b))] dX5_init_30 rfl (by decide) rfl ?_
  have L : ∀ (m : Nat) (p : Int) (nc ns : Nat) (ad' : zK → Nat) (M' : zMem), tpI (z_d Γ) ad M Y b n p ad' M' → (0 ≤ p ∧ p ≤ n) → ((nc : Int) ≤ 2 + 2 * p ∧ (ns : Int) ≤ 8 + 5 * p) → ((n : Int) - p).toNat < m → G Γ (zRm 5 10 28) cX5_init 4 RX5 ad' M' nc ns 31 [(3, .int (zI p)), (0, .ref (ad' (8, Y, 0, 0))), (1, .int (zI (n : Int))), (2, .int (zI b))] [] := by
    intro m
    induction m with
    | zero => intro p nc ns ad' M' _ _ _ h; omega
    | succ m ih =>
      intro p nc ns ad' M' hi hp hc hm
      refine G_iload_n (pc := 31) 3 0 dX5_init_31 rfl rfl ?_
      refine G_iload_n (pc := 32) 1 2 dX5_init_32 rfl rfl ?_
      refine G_icmp_ge (pc := 33) 55 dX5_init_33 (by decide) ⟨by omega, by omega⟩ ⟨by omega, by omega⟩ (fun c => ?_) (fun c => ?_)
      · obtain rfl : p = n := by omega
        exact G_vret (pc := 55) hF dX5_init_55 ⟨by omega, by omega⟩ ⟨rfl, hi⟩
      · refine G_aload_n (pc := 36) 0 1 dX5_init_36 rfl rfl ?_
        refine G_getf (pc := 37) fl_X5_25 dX5_init_37 hi.1 rfl ?_
        refine G_iload_n (pc := 40) 3 0 dX5_init_40 rfl rfl ?_
        refine G_new (pc := 41) (fs := [.null, .int (zI 0)]) (11, Y, p, 0) nw_X5_23 dX5_init_41 (hi.2.2.2.2.1 p (by omega) (by omega)).1 (by decide) ⟨by show nc + 1 ≤ 10; omega, by show ns + 2 ≤ 28; omega⟩ (fun ad1 had => ?_)
        rw [← had (8, Y, 0, 0) (by simp), ← had (9, Y, 0, 0) (by simp)]
        refine G_dup (pc := 44) dX5_init_44 rfl ?_
        refine G_callIN (pc := 45) (mc := 1) (ms := 3) gk_X5_29 dX5_init_45 (c_X3_init (zup1_s _ _ _) ((zup1_n _ _ (by simp)).trans (hi.2.2.2.2.1 p (by omega) (by omega)).2)) rfl rfl (Nat.le_of_ble_eq_true rfl) ⟨⟨Nat.le_of_ble_eq_true rfl, Nat.le_of_ble_eq_true rfl⟩, by show nc + 1 + 1 ≤ 10; omega, by show ns + 2 + 3 ≤ 28; omega⟩ (fun v ad2 M2 hpo => ?_)
        obtain ⟨rfl, hfr, p1, p2, hme⟩ := hpo
        have hst := tp_step hi ⟨by omega, by omega⟩ had hfr p1 p2
        have e8 : ad2 (8, Y, 0, 0) = ad1 (8, Y, 0, 0) := (hfr _ (by simp)).2
        have e9 : ad2 (9, Y, 0, 0) = ad1 (9, Y, 0, 0) := (hfr _ (by simp)).2
        rw [← e8, ← e9, ← hme]
        have f9 : M2 (9, Y, 0, 0) = some (.inl ((z_d Γ).2.1 2, n, .inr (.inr (.inr (.inr (zAq (zFk ad' 11 Y p))))))) := ((hfr _ (by simp)).1).trans ((zup1_n _ _ (by simp)).trans hi.2.1)
        refine G_aast (pc := 48) (t := 2) rfl rfl dX5_init_48 f9 p1 ⟨by omega, by omega, by omega, by omega⟩ rfl ?_
        refine G_iinc_e (pc := 49) 0 (fun zw => [(3, .int (zI zw)), (0, .ref (ad2 (8, Y, 0, 0))), (1, .int (zI (n : Int))), (2, .int (zI b))]) dX5_init_49 rfl (by decide) (fun _ => rfl) (fun v e => ?_)
        refine G_goto (pc := 52) 31 dX5_init_52 (by decide) ?_
        subst e
        exact ih (p + 1) _ _ ad2 _ hst ⟨by omega, by omega⟩ ⟨by omega, by omega⟩ (by omega)
  exact L _ 0 _ _ ad2 M1 hI ⟨by omega, by omega⟩ ⟨by show ((0 + 1 + 1 : Nat) : Int) ≤ _; omega, by show ((0 + 4 + n : Nat) : Int) ≤ _; omega⟩ (Nat.lt_succ_self _)
