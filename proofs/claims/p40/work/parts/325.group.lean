/-! ===== the constructor of Group ===== -/
def grN (Y : Int) (k : zK) : Prop := k.2.1 = Y ∧ 15 ≤ k.1 ∧ k.1 ≤ 21
def zA80 (Δ : zDl) : va_E := .inl (Δ.2.1 0, 80, .inl (zAi (fun _ => 0)))
/-- a group half made: its first p partitions stand -/
def grI (Δ : zDl) (ad0 : zK → Nat) (M0 : zMem) (Y t : Int) (f : Int → Int) (n : Nat) (p : Int) (ad : zK → Nat) (M : zMem) : Prop :=
  M (15, Y, 0, 0) = some (.inr (1, [.ref (ad (16, Y, 0, 0)), .ref (ad (17, Y, 0, 0))])) ∧
  M (16, Y, 0, 0) = some (.inl (Δ.2.1 3, n, .inr (.inr (.inr (.inr (zAq (zFk ad 18 Y p))))))) ∧
  M (17, Y, 0, 0) = some (.inl (Δ.2.1 1, 6, .inl (zAi (fun _ => 0)))) ∧
  (∀ x, 0 ≤ x → x < p → M (18, Y, x, 0) = some (.inr (5, [.ref (ad (11, t, x, 0)), .ref (ad (19, Y, x, 0)), .ref (ad (20, Y, x, 0)), .ref (ad (21, Y, x, 0)), .int (zI (-1)), .int (zI (f x)), .int (zI (f x))])) ∧ M (19, Y, x, 0) = some (zA80 Δ) ∧ M (20, Y, x, 0) = some (zA80 Δ) ∧ M (21, Y, x, 0) = some (zA80 Δ)) ∧
  (∀ x, p ≤ x → x < n → M (18, Y, x, 0) = none ∧ M (19, Y, x, 0) = none ∧ M (20, Y, x, 0) = none ∧ M (21, Y, x, 0) = none) ∧
  (∀ k, ¬ grN Y k → M k = M0 k ∧ ad k = ad0 k) ∧ ad (15, Y, 0, 0) = ad0 (15, Y, 0, 0)
theorem gr_step {Δ : zDl} {ad0 ad ad1 ad2 : zK → Nat} {M0 M M2 : zMem} {Y t p : Int} {f : Int → Int} {n : Nat} {e : va_E} (h : grI Δ ad0 M0 Y t f n p ad M) (hp : 0 ≤ p ∧ p < n) (had : ∀ k, k ≠ (18, Y, p, 0) → ad1 k = ad k)
    (hfr : ∀ k, ¬ (k = (18, Y, p, 0) ∨ k = (19, Y, p, 0) ∨ k = (20, Y, p, 0) ∨ k = (21, Y, p, 0)) → M2 k = zup1 M (18, Y, p, 0) (some e) k ∧ ad2 k = ad1 k) (h1 : M2 (18, Y, p, 0) = some (.inr (5, [.ref (ad2 (11, t, p, 0)), .ref (ad2 (19, Y, p, 0)), .ref (ad2 (20, Y, p, 0)), .ref (ad2 (21, Y, p, 0)), .int (zI (-1)), .int (zI (f p)), .int (zI (f p))]))) (h2 : M2 (19, Y, p, 0) = some (zA80 Δ)) (h3 : M2 (20, Y, p, 0) = some (zA80 Δ)) (h4 : M2 (21, Y, p, 0) = some (zA80 Δ)) :
    grI Δ ad0 M0 Y t f n (p + 1) ad2 (zup1 M2 (16, Y, 0, 0) (some (.inl (Δ.2.1 3, n, .inr (.inr (.inr (.inr (zAq (zup (zFk ad 18 Y p) p (some (ad2 (18, Y, p, 0)))))))))))) := by
  obtain ⟨i1, i2, i3, i4, i5, i6, i7⟩ := h
  have ha : ∀ k, ¬ (k = (18, Y, p, 0) ∨ k = (19, Y, p, 0) ∨ k = (20, Y, p, 0) ∨ k = (21, Y, p, 0)) → ad2 k = ad k := fun k hk => ((hfr k hk).2).trans (had k (fun q => hk (Or.inl q)))
  have hm : ∀ k, ¬ (k = (18, Y, p, 0) ∨ k = (19, Y, p, 0) ∨ k = (20, Y, p, 0) ∨ k = (21, Y, p, 0)) → M2 k = M k := fun k hk => ((hfr k hk).1).trans (zup1_n _ _ (fun q => hk (Or.inl q)))
  have hx : ∀ (m : Nat) x, x ≠ p → ¬ (((m, Y, x, 0) : zK) = (18, Y, p, 0) ∨ ((m, Y, x, 0) : zK) = (19, Y, p, 0) ∨ ((m, Y, x, 0) : zK) = (20, Y, p, 0) ∨ ((m, Y, x, 0) : zK) = (21, Y, p, 0)) := fun m x hx q => by
    rcases q with q | q | q | q <;> · simp only [Prod.mk.injEq] at q; omega
  have hl : ∀ (m : Nat) i j, m < 18 → ¬ (((m, i, j, 0) : zK) = (18, Y, p, 0) ∨ ((m, i, j, 0) : zK) = (19, Y, p, 0) ∨ ((m, i, j, 0) : zK) = (20, Y, p, 0) ∨ ((m, i, j, 0) : zK) = (21, Y, p, 0)) := fun m i j h1 q => by
    rcases q with q | q | q | q <;> · simp only [Prod.mk.injEq] at q; omega
  refine ⟨?_, ?_, ?_, fun x hx1 hx2 => ?_, fun x hx1 hx2 => ?_, fun k hk => ?_, ?_⟩
  · rw [zup1_n _ _ (by simp), hm _ (hl 15 _ _ (by decide)), i1, ha _ (hl 16 _ _ (by decide)), ha _ (hl 17 _ _ (by decide))]
  · rw [zup1_s, zFk_s hp.1 (fun x a b => ha _ (hx 18 x (by omega)))]
  · rw [zup1_n _ _ (by simp), hm _ (hl 17 _ _ (by decide)), i3]
  · rw [zup1_n _ _ (by simp), zup1_n _ _ (by simp), zup1_n _ _ (by simp), zup1_n _ _ (by simp)]
    by_cases hxp : x = p
    · subst hxp; exact ⟨h1, h2, h3, h4⟩
    · rw [hm _ (hx 18 x hxp), hm _ (hx 19 x hxp), hm _ (hx 20 x hxp), hm _ (hx 21 x hxp), ha _ (hl 11 t x (by decide)), ha _ (hx 19 x hxp), ha _ (hx 20 x hxp), ha _ (hx 21 x hxp)]
      exact i4 x hx1 (by omega)
  · rw [zup1_n _ _ (by simp), zup1_n _ _ (by simp), zup1_n _ _ (by simp), zup1_n _ _ (by simp), hm _ (hx 18 x (by omega)), hm _ (hx 19 x (by omega)), hm _ (hx 20 x (by omega)), hm _ (hx 21 x (by omega))]
    exact i5 x (by omega) hx2
  · have hk2 : ¬ (k = (18, Y, p, 0) ∨ k = (19, Y, p, 0) ∨ k = (20, Y, p, 0) ∨ k = (21, Y, p, 0)) := fun q => hk (by rcases q with q | q | q | q <;> rw [q] <;> exact ⟨rfl, Nat.le_of_ble_eq_true rfl, Nat.le_of_ble_eq_true rfl⟩)
    rw [zup1_n _ _ (fun q => hk (by rw [q]; exact ⟨rfl, Nat.le_of_ble_eq_true rfl, Nat.le_of_ble_eq_true rfl⟩)), hm _ hk2, ha _ hk2]
    exact i6 k hk
  · rw [ha _ (hl 15 _ _ (by decide))]
    exact i7
set_option maxHeartbeats 4000000 in
set_option maxRecDepth 100000 in
theorem c_X0_init {l : Launch} {Δ : zDl} {ad : zK → Nat} {M : zMem} {Y t : Int} {f : Int → Int} {n : Nat} {w1 w2 w3 : Value} {F9 : Int → Option Nat} (hn : 1 ≤ n ∧ n ≤ 4) (h0 : M (15, Y, 0, 0) = some (.inr (1, [.null, .null]))) (h16 : M (16, Y, 0, 0) = none) (h17 : M (17, Y, 0, 0) = none) (h18 : ∀ x, 0 ≤ x → x < (n : Int) → M (18, Y, x, 0) = none ∧ M (19, Y, x, 0) = none ∧ M (20, Y, x, 0) = none ∧ M (21, Y, x, 0) = none)
    (h8 : M (8, t, 0, 0) = some (.inr (6, [.ref (ad (9, t, 0, 0)), w1, w2, w3]))) (h9 : M (9, t, 0, 0) = some (.inl (Δ.2.1 2, n, .inr (.inr (.inr (.inr (zAq F9))))))) (hF9 : ∀ x, 0 ≤ x → x < (n : Int) → F9 x = some (ad (11, t, x, 0))) (h11 : ∀ x, 0 ≤ x → x < (n : Int) → M (11, t, x, 0) = some (.inr (4, [.ref (ad (12, t, x, 0)), .int (zI (f x))]))) : zMn l Δ yX0_init cX0_init 3 none 5 18 998 [.ref (ad (15, Y, 0, 0)), .ref (ad (8, t, 0, 0))] ad M (fun v ad' M' => v = none ∧ grI Δ ad M Y t f n n ad' M') := by
  refine zMn_of (by decide) (Nat.le_of_ble_eq_true rfl) (fun Γ hl hΔ hF => ?_)
  subst hl hΔ
  show G Γ _ _ _ RX0 _ _ _ _ _ [(0, .ref (ad (15, Y, 0, 0))), (1, .ref (ad (8, t, 0, 0)))] []
  refine G_aload_n (pc := 0) 0 0 dX0_init_0 rfl rfl ?_
  refine G_objInit (pc := 1) oi_X0_3 dX0_init_1 ⟨Nat.le_of_ble_eq_true rfl, Nat.le_of_ble_eq_true rfl⟩ ?_
  refine G_aload_n (pc := 4) 0 0 dX0_init_4 rfl rfl ?_
  refine G_bipush (pc := 5) dX0_init_5 (by decide) ?_
  refine G_rZ (pc := 7) (N := 6) (17, Y, 0, 0) dX0_init_7 h17 rfl ⟨by omega, by omega⟩ ⟨Nat.le_of_ble_eq_true rfl, Nat.le_of_ble_eq_true rfl⟩ (fun ad1 had1 => ?_)
  rw [← had1 (15, Y, 0, 0) (by simp), ← had1 (8, t, 0, 0) (by simp)]
  refine G_putF (pc := 9) fl_X0_9 ff_X0_9 hF.2.1 dX0_init_9 ((zup1_n _ _ (by simp)).trans h0) (Nat.le_of_ble_eq_true rfl) rfl rfl rfl ?_
  refine G_aload_n (pc := 12) 0 0 dX0_init_12 rfl rfl ?_
  refine G_aload_n (pc := 13) 1 1 dX0_init_13 rfl rfl ?_
  refine G_getf (pc := 14) fl_X0_15 dX0_init_14 ((zup1_n _ _ (by simp)).trans ((zup1_n _ _ (by simp)).trans h8)) rfl ?_
  rw [← had1 (9, t, 0, 0) (by simp)]
  refine G_alen (pc := 17) (t := 2) rfl dX0_init_17 ((zup1_n _ _ (by simp)).trans ((zup1_n _ _ (by simp)).trans h9)) ?_
  refine G_newq (pc := 18) (t := 3) (N := n) (16, Y, 0, 0) ct_X0_21.2 (Or.inr (Or.inl rfl)) rfl dX0_init_18 (by rw [zup1_n _ _ (by simp), zup1_n _ _ (by simp)]; exact h16) rfl ⟨by omega, by omega⟩ (by omega) ⟨Nat.le_of_ble_eq_true rfl, by show 6 + n ≤ 998; omega⟩ (fun ad2 had2 => ?_)
  rw [← had2 (15, Y, 0, 0) (by simp), ← had2 (8, t, 0, 0) (by simp)]
  refine G_putF (pc := 21) fl_X0_23 ff_X0_23 hF.2.1 dX0_init_21 ((zup1_n _ _ (by simp)).trans (zup1_s _ _ _)) (Nat.le_of_ble_eq_true rfl) rfl rfl rfl ?_
  refine G_nm (fun M1 hM1 => ?_)
  have hI : grI (z_d Γ) ad M Y t f n 0 ad2 M1 := by
    rw [hM1]
    refine ⟨?_, ?_, ?_, fun x h1 h2 => by omega, fun x h1 h2 => ?_, fun k hk => ⟨?_, ?_⟩, ?_⟩
    · rw [zup1_s, ← had2 (17, Y, 0, 0) (by simp)]
      rfl
    · rw [zup1_n _ _ (by simp), zup1_s, zFk_0]
      rfl
    · rw [zup1_n _ _ (by simp), zup1_n _ _ (by simp), zup1_n _ _ (by simp), zup1_s]
    · obtain ⟨a1, a2, a3, a4⟩ := h18 x h1 h2
      refine ⟨?_, ?_, ?_, ?_⟩ <;> rw [zup1_n _ _ (by simp), zup1_n _ _ (by simp), zup1_n _ _ (by simp), zup1_n _ _ (by simp)] <;> assumption
    · have e : ∀ m : Nat, 15 ≤ m → m ≤ 21 → k ≠ (m, Y, 0, 0) := fun m h1 h2 q => hk (by rw [q]; exact ⟨rfl, h1, h2⟩)
      rw [zup1_n _ _ (e 15 (by decide) (by decide)), zup1_n _ _ (e 16 (by decide) (by decide)), zup1_n _ _ (e 15 (by decide) (by decide)), zup1_n _ _ (e 17 (by decide) (by decide))]
    · have e : ∀ m : Nat, 15 ≤ m → m ≤ 21 → k ≠ (m, Y, 0, 0) := fun m h1 h2 q => hk (by rw [q]; exact ⟨rfl, h1, h2⟩)
      rw [had2 _ (e 16 (by decide) (by decide)), had1 _ (e 17 (by decide) (by decide))]
    · rw [had2 _ (by simp), had1 _ (by simp)]
  refine G_iconst (pc := 24) dX0_init_24 ?_
  refine G_istore_n (pc := 25) 2 [(2, .int (zI 0)), (0, .ref (ad2 (15, Y, 0, 0))), (1, .ref (ad2 (8, t, 0, 0)))] dX0_init_25 rfl (by decide) rfl ?_
  have L : ∀ (m : Nat) (p : Int) (nc ns : Nat) (ad' : zK → Nat) (M' : zMem), grI (z_d Γ) ad M Y t f n p ad' M' → (0 ≤ p ∧ p ≤ n) → ((nc : Int) ≤ 2 + 4 * p ∧ (ns : Int) ≤ 10 + 247 * p) → ((n : Int) - p).toNat < m → G Γ (zRm 5 18 998) cX0_init 3 RX0 ad' M' nc ns 26 [(2, .int (zI p)), (0, .ref (ad' (15, Y, 0, 0))), (1, .ref (ad' (8, t, 0, 0)))] [] := by
    intro m
    induction m with
    | zero => intro p nc ns ad' M' _ _ _ h; omega
    | succ m ih =>
      intro p nc ns ad' M' hi hp hc hm
      have nN : ∀ (q : Nat) i j, q < 15 → ¬ grN Y (q, i, j, 0) := fun q i j hq z => by have := z.2.1; simp only at this; omega
      have fr := hi.2.2.2.2.2.1
      refine G_iload_n (pc := 26) 2 0 dX0_init_26 rfl rfl ?_
      refine G_aload_n (pc := 27) 0 1 dX0_init_27 rfl rfl ?_
      refine G_getf (pc := 28) fl_X0_23 dX0_init_28 hi.1 rfl ?_
      refine G_alen (pc := 31) (t := 3) rfl dX0_init_31 hi.2.1 ?_
      refine G_icmp_ge (pc := 32) 60 dX0_init_32 (by decide) ⟨by omega, by omega⟩ ⟨by omega, by omega⟩ (fun c => ?_) (fun c => ?_)
      · obtain rfl : p = n := by omega
        exact G_vret (pc := 60) hF dX0_init_60 ⟨by omega, by omega⟩ ⟨rfl, hi⟩
      · obtain ⟨g1, g2, g3, g4⟩ := hi.2.2.2.2.1 p (by omega) (by omega)
        refine G_aload_n (pc := 35) 0 1 dX0_init_35 rfl rfl ?_
        refine G_getf (pc := 36) fl_X0_23 dX0_init_36 hi.1 rfl ?_
        refine G_iload_n (pc := 39) 2 0 dX0_init_39 rfl rfl ?_
        refine G_new (pc := 40) (fs := [.null, .null, .null, .null, .int (zI 0), .int (zI 0), .int (zI 0)]) (18, Y, p, 0) nw_X0_21 dX0_init_40 g1 (by decide) ⟨by show nc + 1 ≤ 18; omega, by show ns + 7 ≤ 998; omega⟩ (fun ad1 had => ?_)
        rw [← had (15, Y, 0, 0) (by simp), ← had (16, Y, 0, 0) (by simp), ← had (8, t, 0, 0) (by simp)]
        refine G_dup (pc := 43) dX0_init_43 rfl ?_
        refine G_aload_n (pc := 44) 1 2 dX0_init_44 rfl rfl ?_
        refine G_getf (pc := 45) fl_X0_15 dX0_init_45 ((zup1_n _ _ (by simp)).trans ((fr _ (nN 8 t 0 (by decide))).1.trans h8)) rfl ?_
        rw [← (fr _ (nN 9 t 0 (by decide))).2, ← had (9, t, 0, 0) (by simp)]
        refine G_iload_n (pc := 48) 2 0 dX0_init_48 rfl rfl ?_
        refine G_aald (pc := 49) (t := 2) rfl dX0_init_49 ((zup1_n _ _ (by simp)).trans ((fr _ (nN 9 t 0 (by decide))).1.trans h9)) ⟨by omega, by omega, by omega, by omega⟩ (hF9 p (by omega) (by omega)) ?_
        rw [← (fr _ (nN 11 t p (by decide))).2, ← had (11, t, p, 0) (by simp)]
        have f11 : zup1 M' (18, Y, p, 0) (some (.inr (5, [.null, .null, .null, .null, .int (zI 0), .int (zI 0), .int (zI 0)]))) (11, t, p, 0) = some (.inr (4, [.ref (ad (12, t, p, 0)), .int (zI (f p))])) := (zup1_n _ _ (by simp)).trans ((fr _ (nN 11 t p (by decide))).1.trans (h11 p (by omega) (by omega)))
        refine G_callI (pc := 50) (mc := 3) (ms := 240) gk_X0_27 dX0_init_50 (c_X4_init (zup1_s _ _ _) f11 ((zup1_n _ _ (by simp)).trans g2) ((zup1_n _ _ (by simp)).trans g3) ((zup1_n _ _ (by simp)).trans g4)) rfl rfl (Nat.le_of_ble_eq_true rfl) ⟨⟨Nat.le_of_ble_eq_true rfl, Nat.le_of_ble_eq_true rfl⟩, by show nc + 1 + 3 ≤ 18; omega, by show ns + 7 + 240 ≤ 998; omega⟩ (fun v ad2 M2 hpo => ?_)
        obtain ⟨rfl, hfr, p1, p2, p3, p4, hme⟩ := hpo
        have hst := gr_step hi ⟨by omega, by omega⟩ had hfr p1 p2 p3 p4
        have e15 : ad2 (15, Y, 0, 0) = ad1 (15, Y, 0, 0) := (hfr _ (by simp)).2
        have e16 : ad2 (16, Y, 0, 0) = ad1 (16, Y, 0, 0) := (hfr _ (by simp)).2
        have e8 : ad2 (8, t, 0, 0) = ad1 (8, t, 0, 0) := (hfr _ (by simp)).2
        rw [← e15, ← e16, ← e8, ← hme]
        have f16 : M2 (16, Y, 0, 0) = some (.inl ((z_d Γ).2.1 3, n, .inr (.inr (.inr (.inr (zAq (zFk ad' 18 Y p))))))) := ((hfr _ (by simp)).1).trans ((zup1_n _ _ (by simp)).trans hi.2.1)
        refine G_aast (pc := 53) (t := 3) rfl rfl dX0_init_53 f16 p1 ⟨by omega, by omega, by omega, by omega⟩ rfl ?_
        refine G_iinc_e (pc := 54) 0 (fun zw => [(2, .int (zI zw)), (0, .ref (ad2 (15, Y, 0, 0))), (1, .ref (ad2 (8, t, 0, 0)))]) dX0_init_54 rfl (by decide) (fun _ => rfl) (fun v e => ?_)
        refine G_goto (pc := 57) 26 dX0_init_57 (by decide) ?_
        subst e
        exact ih (p + 1) _ _ ad2 _ hst ⟨by omega, by omega⟩ ⟨by omega, by omega⟩ (by omega)
  exact L _ 0 _ _ ad2 M1 hI ⟨by omega, by omega⟩ ⟨by show ((0 + 1 + 1 : Nat) : Int) ≤ _; omega, by show ((0 + 6 + n : Nat) : Int) ≤ _; omega⟩ (Nat.lt_succ_self _)
