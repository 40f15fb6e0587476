/-! ===== the class's group, where it makes one ===== -/
theorem zmk_Pg {P : zP} {t c c' g p : Int} : ∀ (n : Nat) (S : zS), zmk (zPg P t c) g p n S = zmk (zPg P t c') g p n S := by
  intro n
  induction n with
  | zero => intro S; rfl
  | succ n ih =>
    intro S
    show (if zmc (zPg P t c) g p S then zmk (zPg P t c) g p n (zst S (18, g, p, 0) 5 (S (18, g, p, 0) 5 + 1)) else S) = if zmc (zPg P t c') g p S then zmk (zPg P t c') g p n (zst S (18, g, p, 0) 5 (S (18, g, p, 0) 5 + 1)) else S
    exact ite_iff Iff.rfl (fun _ => ih _)
theorem zk1_Pg {P : zP} {t c c' g p : Int} : zk1 (zPg P t c) g p = zk1 (zPg P t c') g p := by
  funext o S
  exact ite_iff Iff.rfl (fun _ => rfl)
theorem zku_Pg {P : zP} {t c c' g p : Int} {S : zS} : zku (zPg P t c) S g p = zku (zPg P t c') S g p := by
  unfold zku
  rw [zk1_Pg (c := c) (c' := c'), zmk_Pg (c := c) (c' := c')]
  rfl
theorem zkG_Pg {P : zP} {t c c' g : Int} {S : zS} : zkG (zPg P t c) g S = zkG (zPg P t c') g S := by
  have e : zkf (zPg P t c) g = zkf (zPg P t c') g := by
    funext p S
    exact zku_Pg
  unfold zkG
  rw [e]
  rfl
set_option maxHeartbeats 2000000 in
theorem mm_group2 {Δ : zDl} {ad2 ad3 : zK → Nat} {P : zP} {S : zS} {X W M3 : zMem} {t m1 z : Int} {c : Nat} {kb : zK} (hP : zWP P) (hX : X (91, 0, 0, 0) = none) (hc : P 3 0 0 < c) (hz : zI z = zI (m1))
    (hM : ∀ k, k ≠ (6, 0, 0, 0) → k ≠ (7, 0, 0, 0) → k ≠ (91, 0, 0, 0) → M3 k = mn W Δ ad2 (zPg P t 200) S X k) (ha : ∀ k, k ≠ (91, 0, 0, 0) → ad3 k = ad2 k)
    (g6 : M3 (6, 0, 0, 0) = some (zLi m1 (ad3 kb) (P 3 0 0 + 1))) (g7 : M3 kb = some (zOA Δ c (zup (fun x => if 0 ≤ x ∧ x < P 3 0 0 then some (ad2 (15, x, 0, 0)) else none) (P 3 0 0) (some (ad2 (15, P 3 0 0, 0, 0))))))
    (hkb : kb = (7, 0, 0, 0) ∨ kb = (91, 0, 0, 0)) : ∀ k e', mm Δ (zup1 ad3 (7, 0, 0, 0) (ad3 kb)) (zPg P t c) (zst S (6, 0, 0, 0) 0 z) X k = some e' → M3 (if k = (7, 0, 0, 0) then kb else k) = some e' ∧ zup1 ad3 (7, 0, 0, 0) (ad3 kb) k = ad3 (if k = (7, 0, 0, 0) then kb else k) := by
  intro k e' hk
  refine ⟨?_, ?_⟩
  rotate_left
  · by_cases q : k = (7, 0, 0, 0)
    · rw [q, zup1_s, if_pos rfl]
    · rw [zup1_n _ _ q, if_neg q]
  have hN := hP.n.1.2.1
  have eT : ∀ (a : Nat) (i j o : Int), a ≠ 7 → a ≠ 91 → zup1 ad3 (7, 0, 0, 0) (ad3 kb) (a, i, j, o) = ad2 (a, i, j, o) := fun a i j o h h2 => (zup1_n _ _ (fun q => h (congrArg Prod.fst q))).trans (ha _ (fun q => h2 (congrArg Prod.fst q)))
  obtain ⟨N, i, j, o⟩ := k
  by_cases h80 : N < 80
  rotate_left
  · rw [mm_ge _ h80] at hk
    have h91 : ((N, i, j, o) : zK) ≠ (91, 0, 0, 0) := fun q => by rw [q, hX] at hk; cases hk
    have h7 : ((N, i, j, o) : zK) ≠ (7, 0, 0, 0) := fun q => by simp only [Prod.mk.injEq] at q; omega
    have h6 : ((N, i, j, o) : zK) ≠ (6, 0, 0, 0) := fun q => by simp only [Prod.mk.injEq] at q; omega
    rw [if_neg h7, hM _ h6 h7 h91]
    exact mn_g (by simp only; omega) ((mm_ge _ h80).trans hk)
  have hk2 := hk
  rw [mm_lt _ h80] at hk
  have in4 := (zcnt_in hk).1
  simp only at in4
  by_cases c6 : N = 6
  · obtain ⟨rfl, rfl, rfl⟩ := in4 (by omega)
    subst c6
    rw [if_neg (by simp), g6]
    have hk' : zc6 Δ (zup1 ad3 (7, 0, 0, 0) (ad3 kb)) (zPg P t c) 0 0 0 (zst S (6, 0, 0, 0) 0 z (6, 0, 0, 0)) = some e' := hk
    rw [show zc6 Δ (zup1 ad3 (7, 0, 0, 0) (ad3 kb)) (zPg P t c) 0 0 0 (zst S (6, 0, 0, 0) 0 z (6, 0, 0, 0)) = _ from if_pos ⟨rfl, rfl, rfl⟩, zPg_7, zPg_3, if_neg (show ¬ (c : Int) = 0 by omega), zup1_s, zst_s, hz] at hk'
    exact hk'
  by_cases c7 : N = 7
  · obtain ⟨rfl, rfl, rfl⟩ := in4 (by omega)
    subst c7
    rw [if_pos rfl, g7]
    have hk' : zc7 Δ (zup1 ad3 (7, 0, 0, 0) (ad3 kb)) (zPg P t c) 0 0 0 (zst S (6, 0, 0, 0) 0 z (7, 0, 0, 0)) = some e' := hk
    have hF : zup (fun x => if 0 ≤ x ∧ x < P 3 0 0 then some (ad2 (15, x, 0, 0)) else none) (P 3 0 0) (some (ad2 (15, P 3 0 0, 0, 0))) = fun x => if 0 ≤ x ∧ x < P 3 0 0 + 1 then some (zup1 ad3 (7, 0, 0, 0) (ad3 kb) (15, x, 0, 0)) else none := by
      funext x
      show (if x = P 3 0 0 then some (ad2 (15, P 3 0 0, 0, 0)) else if 0 ≤ x ∧ x < P 3 0 0 then some (ad2 (15, x, 0, 0)) else none) = if 0 ≤ x ∧ x < P 3 0 0 + 1 then some (zup1 ad3 (7, 0, 0, 0) (ad3 kb) (15, x, 0, 0)) else none
      rw [eT 15 _ _ _ (by decide) (by decide)]
      by_cases hx : x = P 3 0 0
      · subst hx
        rw [if_pos rfl, if_pos (by omega)]
      · rw [if_neg hx]
        by_cases h1 : 0 ≤ x ∧ x < P 3 0 0
        · rw [if_pos h1, if_pos (by omega)]
        · rw [if_neg h1, if_neg (by omega)]
    rw [show zc7 Δ (zup1 ad3 (7, 0, 0, 0) (ad3 kb)) (zPg P t c) 0 0 0 (zst S (6, 0, 0, 0) 0 z (7, 0, 0, 0)) = _ from if_pos ⟨⟨rfl, rfl, rfl⟩, by rw [zPg_7]; omega⟩, zPg_7, zPg_3, ← hF, show ((c : Int)).toNat = c by omega] at hk'
    exact hk'
  have h7 : ((N, i, j, o) : zK) ≠ (7, 0, 0, 0) := fun q => c7 (congrArg Prod.fst q)
  have h6 : ((N, i, j, o) : zK) ≠ (6, 0, 0, 0) := fun q => c6 (congrArg Prod.fst q)
  have n91 : ((N, i, j, o) : zK) ≠ (91, 0, 0, 0) := fun q => by simp only [Prod.mk.injEq] at q; omega
  rw [if_neg h7, hM _ h6 h7 n91]
  refine mn_g (by simp only; omega) (Eq.trans ?_ hk2)
  refine Eq.symm (mm_old (fun _ => ⟨⟨fun _ => ⟨rfl, rfl⟩, fun w => absurd w (by simp only; omega), fun _ => ⟨Iff.rfl, fun _ => ⟨rfl, fun _ => ⟨rfl, rfl⟩⟩⟩, fun _ => ⟨Iff.rfl, fun _ => ⟨rfl, rfl⟩⟩, fun _ => rfl⟩, fun w hw => ?_, funext (fun f => zst_k _ _ _ _ h6)⟩))
  rcases hw with ⟨a0, q1 | q1 | q1 | q1⟩ | ⟨a0, q1⟩ | ⟨a0, q1⟩ | ⟨a0, x, hx, q1⟩ | ⟨a0, q1⟩ | ⟨a0, x, hx, q1⟩ | ⟨a0, hx, q1 | q1⟩ | ⟨a0, hx, x, q1⟩ | ⟨a0, hx, q1⟩ | ⟨a0, hx, q1⟩ | ⟨a0, hx, x, hx2, q1⟩ | ⟨a0, hx, q1 | q1⟩ | ⟨a0, hx, x, q1⟩ | ⟨a0, hx, q1 | q1 | q1 | q1⟩ | ⟨a0, x, hx, q1⟩ <;> subst q1 <;> simp only at a0
  all_goals first
    | exact absurd a0 c6
    | exact eT _ _ _ _ (by decide) (by decide)
    | exact eT _ _ _ _ (by omega) (by omega)
set_option maxHeartbeats 4000000 in
set_option maxRecDepth 100000 in
theorem c_X6_group {l : Launch} {Δ : zDl} {ad : zK → Nat} {P : zP} {S : zS} {X : zMem} {t : Int} (hP : zWP P) (hW : zWS P S) (ht : 0 ≤ t ∧ t < P 0 0 0) (h3 : P 3 0 0 < 4) (hW3 : zWS (zPg P t 200) (zSg P S t)) (hX : X (91, 0, 0, 0) = none) : zMn l Δ yX6_group cX6_group 4 (some .int) 9 20 1200 [.ref (ad (0, 0, 0, 0)), .int (zI t)] ad (mm Δ ad P S X) (fun v ad' M' => v = some (.int (zI (P 3 0 0))) ∧ ∃ c z : Int, (P 3 0 0 < c ∧ c ≤ 200) ∧ zR z ∧ M' = mm Δ ad' (zPg P t c) (zst (zkG (zPg P t c) (P 3 0 0) (zSg P S t)) (6, 0, 0, 0) 0 z) X ∧ ∀ k : zK, (k.1 = 0 ∨ 40 ≤ k.1) → k ≠ (91, 0, 0, 0) → ad' k = ad k) := by
  refine zMn_of (by decide) (Nat.le_of_ble_eq_true rfl) (fun Γ hl hΔ hF => ?_)
  subst hl hΔ
  show G Γ _ _ _ RX6 _ _ _ _ _ [(0, .ref (ad (0, 0, 0, 0))), (1, .int (zI t))] []
  have hN := hP.n
  have hT := hP.t ht
  refine G_aload_n (pc := 0) 0 0 dX6_group_0 rfl rfl ?_
  refine G_iload_n (pc := 1) 1 1 dX6_group_1 rfl rfl ?_
  refine G_callVd (pc := 2) gk_X6_75 dX6_group_2 mg_0 rfl (c_X6_topicAt hP ht) rfl rfl (Nat.le_of_ble_eq_true rfl) ⟨⟨Nat.le_of_ble_eq_true rfl, Nat.le_of_ble_eq_true rfl⟩, Nat.le_of_ble_eq_true rfl, Nat.le_of_ble_eq_true rfl⟩ ?_
  refine G_astore_n (pc := 5) 2 [(2, .ref (ad (8, t, 0, 0))), (0, .ref (ad (0, 0, 0, 0))), (1, .int (zI t))] dX6_group_5 rfl (by decide) rfl ?_
  refine G_aload_n (pc := 6) 0 1 dX6_group_6 rfl rfl ?_
  refine G_getf (pc := 7) fl_X6_16 dX6_group_7 mg_0 rfl ?_
  refine G_callVd (pc := 10) gk_X6_57 dX6_group_10 mg_6 rfl (c_AL_size_6 ) rfl rfl (Nat.le_of_ble_eq_true rfl) ⟨⟨Nat.le_of_ble_eq_true rfl, Nat.le_of_ble_eq_true rfl⟩, Nat.le_of_ble_eq_true rfl, Nat.le_of_ble_eq_true rfl⟩ ?_
  refine G_iconst (pc := 13) dX6_group_13 ?_
  refine G_icmp_lt (pc := 14) 27 dX6_group_14 (by decide) ⟨by omega, by omega⟩ ⟨by omega, by omega⟩ (fun c14 => ?_) (fun c14 => absurd h3 (by omega))
  have mY : ∀ k : zK, grN (P 3 0 0) k → mm (z_d Γ) ad P S X k = none := fun k hk => by
    cases hm : mm (z_d Γ) ad P S X k with
    | none => rfl
    | some e =>
      exfalso
      obtain ⟨a1, a2, a3⟩ := hk
      rw [mm_lt k (by omega)] at hm
      have := ((zcnt_in hm).2.2 ⟨a2, a3⟩).1
      omega
  have gK : ∀ (a : Nat) (j o : Int), 15 ≤ a → a ≤ 21 → mm (z_d Γ) ad P S X (a, P 3 0 0, j, o) = none := fun a j o h1 h2 => mY _ ⟨rfl, h1, h2⟩
  refine G_new (pc := 27) (fs := [.null, .null]) (15, P 3 0 0, 0, 0) nw_X6_138 dX6_group_27 (gK 15 0 0 (by decide) (by decide)) (by decide) ⟨Nat.le_of_ble_eq_true rfl, Nat.le_of_ble_eq_true rfl⟩ (fun ad1 had => ?_)
  rw [← had (8, t, 0, 0) (by simp), ← had (0, 0, 0, 0) (by simp)]
  refine G_dup (pc := 30) dX6_group_30 rfl ?_
  refine G_aload_n (pc := 31) 2 0 dX6_group_31 rfl rfl ?_
  refine G_callI (pc := 32) (mc := 18) (ms := 998) gk_X6_180 dX6_group_32 (c_X0_init (Y := P 3 0 0) (t := t) (f := fun x => S (11, t, x, 0) 1) (n := (P 1 t 0).toNat) (F9 := fun x => some (ad1 (11, t, x, 0))) (by omega) (zup1_s _ _ _) ((zup1_n _ _ (by simp)).trans (gK 16 0 0 (by decide) (by decide))) ((zup1_n _ _ (by simp)).trans (gK 17 0 0 (by decide) (by decide))) (fun x _ _ => ⟨(zup1_n _ _ (by simp)).trans (gK 18 _ _ (by decide) (by decide)), (zup1_n _ _ (by simp)).trans (gK 19 _ _ (by decide) (by decide)), (zup1_n _ _ (by simp)).trans (gK 20 _ _ (by decide) (by decide)), (zup1_n _ _ (by simp)).trans (gK 21 _ _ (by decide) (by decide))⟩)
    (by rw [zup1_n _ _ (by simp), had (9, t, 0, 0) (by simp)]; exact mg_8 ht)
    (by rw [zup1_n _ _ (by simp), show (fun x => some (ad1 (11, t, x, 0))) = fun x => some (ad (11, t, x, 0)) from funext (fun x => by rw [had _ (by simp)])]; exact mg_9 ht)
    (fun x _ _ => rfl) (fun x h0 h1 => by rw [zup1_n _ _ (by simp), had (12, t, x, 0) (by simp)]; exact mg_11 ⟨ht, h0, by omega⟩)) rfl rfl (Nat.le_of_ble_eq_true rfl) ⟨⟨Nat.le_of_ble_eq_true rfl, Nat.le_of_ble_eq_true rfl⟩, Nat.le_of_ble_eq_true rfl, Nat.le_of_ble_eq_true rfl⟩ (fun v ad2 M2 hpo => ?_)
  obtain ⟨rfl, i15, i16, i17, i18, -, ifr, iad⟩ := hpo
  have hfr : ∀ k, ¬ grN (P 3 0 0) k → M2 k = mm (z_d Γ) ad P S X k ∧ ad2 k = ad k := fun k hk => by
    have n8 : k ≠ (15, P 3 0 0, 0, 0) := fun q => hk (by rw [q]; exact ⟨rfl, Nat.le_of_ble_eq_true rfl, Nat.le_of_ble_eq_true rfl⟩)
    exact ⟨(ifr k hk).1.trans (zup1_n _ _ n8), (ifr k hk).2.trans (had k n8)⟩
  have nN : ∀ (a : Nat) (i j o : Int), (a < 15 ∨ 21 < a) → ¬ grN (P 3 0 0) (a, i, j, o) := fun a i j o h q => by have := q.2; simp only at this; omega
  rw [← iad, show ad1 (8, t, 0, 0) = ad2 (8, t, 0, 0) from ((ifr _ (nN 8 _ 0 0 (by omega))).2).symm, show ad1 (0, 0, 0, 0) = ad2 (0, 0, 0, 0) from ((ifr _ (nN 0 0 0 0 (by omega))).2).symm]
  refine G_eqv (M' := zup1 M2 (16, P 3 0 0, 0, 0) (some (.inl ((z_d Γ).2.1 3, (P 1 t 0).toNat, .inr (.inr (.inr (.inr (zAq (fun x => some (ad2 (18, P 3 0 0, x, 0)))))))))) ) (fun k e' hk => ?_) ?_
  · by_cases q : k = (16, P 3 0 0, 0, 0)
    · subst q
      rw [zup1_s] at hk
      injection hk with hk
      refine ⟨_, i16, fun H hH => ?_⟩
      rw [← hk]
      refine va_eqF (fun x h0 h1 => ?_) H hH
      show (if 0 ≤ x ∧ x < ((P 1 t 0).toNat : Int) then some (ad2 (18, P 3 0 0, x, 0)) else none) = _
      rw [if_pos ⟨h0, h1⟩]
    · rw [zup1_n _ _ q] at hk
      exact ⟨e', hk, fun H hH => hH⟩
  refine G_nm (fun M4 hM4 => ?_)
  have h4n : ∀ k, ¬ grN (P 3 0 0) k → M4 k = mm (z_d Γ) ad P S X k := fun k hk => by
    rw [hM4, zup1_n _ _ (fun q => hk (by rw [q]; exact ⟨rfl, Nat.le_of_ble_eq_true rfl, Nat.le_of_ble_eq_true rfl⟩))]
    exact (hfr k hk).1
  have key1 := mm_group (Δ := z_d Γ) (ad := ad) (ad2 := ad2) (P := P) (S := S) (X := X) (M := M4) (t := t) (c := 200) hP ht h4n (fun k hk => (hfr k hk).2)
    (by rw [hM4, zup1_n _ _ (by simp)]; exact i15) (by rw [hM4, zup1_s]) (by rw [hM4, zup1_n _ _ (by simp)]; exact i17)
    (fun x h0 h1 => by rw [hM4, zup1_n _ _ (by simp), zup1_n _ _ (by simp), zup1_n _ _ (by simp), zup1_n _ _ (by simp)]; exact i18 x h0 (by omega))
  refine G_ren (ad' := ad2) (M' := mn M4 (z_d Γ) ad2 (zPg P t 200) (zSg P S t) X) (fun k => k) (fun k e hk => ⟨key1 k e hk, rfl⟩) (fun k k' _ _ e => e) ?_
  have hP3 : zWP (zPg P t 200) := zWP_Pg hP ht h3 ⟨by omega, by omega⟩
  have hg3 : 0 ≤ P 3 0 0 ∧ P 3 0 0 < zPg P t 200 3 0 0 := ⟨hN.1.2.1, by rw [zPg_3]; omega⟩
  refine G_astore_n (pc := 35) 3 [(3, .ref (ad2 (15, P 3 0 0, 0, 0))), (2, .ref (ad2 (8, t, 0, 0))), (0, .ref (ad2 (0, 0, 0, 0))), (1, .int (zI t))] dX6_group_35 rfl (by decide) rfl ?_
  refine G_aload_n (pc := 36) 3 0 dX6_group_36 rfl rfl ?_
  refine G_callVv (pc := 37) gk_X6_183 dX6_group_37 (mgn_15 hg3) rfl (cn_X0_keepUp hP3 hg3 hW3) rfl rfl (Nat.le_of_ble_eq_true rfl) ⟨⟨Nat.le_of_ble_eq_true rfl, Nat.le_of_ble_eq_true rfl⟩, Nat.le_of_ble_eq_true rfl, Nat.le_of_ble_eq_true rfl⟩ ?_
  show G Γ _ _ _ _ _ (mn M4 (z_d Γ) ad2 (zPg P t 200) (zkG (zPg P t 200) (P 3 0 0) (zSg P S t)) X) _ _ _ _ _
  refine G_namen (fun SK hSK => ?_)
  refine G_aload_n (pc := 40) 0 2 dX6_group_40 rfl rfl ?_
  refine G_getf (pc := 41) fl_X6_16 dX6_group_41 (mn_g (by simp) mg_0) rfl ?_
  refine G_aload_n (pc := 44) 3 0 dX6_group_44 rfl rfl ?_
  have w6 : ∀ k : zK, k.1 = 6 ∨ k.1 = 7 → mn M4 (z_d Γ) ad2 (zPg P t 200) SK X k = mm (z_d Γ) ad P S X k := fun k hk => (if_pos hk).trans (h4n k (fun q => by have := q.2; omega))
  have a7 : ad2 (7, 0, 0, 0) = ad (7, 0, 0, 0) := (hfr _ (nN 7 0 0 0 (by omega))).2
  have f6 : mn M4 (z_d Γ) ad2 (zPg P t 200) SK X (6, 0, 0, 0) = some (.inr (0, [.int (zI (S (6, 0, 0, 0) 0)), .ref (if P 7 0 0 = 0 then (z_d Γ).2.2.1 else ad2 (7, 0, 0, 0)), .int (zI (P 3 0 0))])) := by
    rw [w6 _ (Or.inl rfl), a7]
    exact mg_6
  have e15 : ∀ x, x < P 3 0 0 → ¬ grN (P 3 0 0) (15, x, 0, 0) := fun x hx q => by have := q.1; simp only at this; omega
  have hL : zLst (z_d Γ) ad2 (mn M4 (z_d Γ) ad2 (zPg P t 200) SK X) 1 (6, 0, 0, 0) (7, 0, 0, 0) (S (6, 0, 0, 0) 0) (P 3 0 0) (P 7 0 0).toNat (fun x => if 0 ≤ x ∧ x < P 3 0 0 then some (ad2 (15, x, 0, 0)) else none) := by
    by_cases h5 : P 7 0 0 = 0
    · refine Or.inl ⟨by omega, by omega, ?_, ?_⟩
      · rw [f6, if_pos h5, show P 3 0 0 = 0 by omega]
        rfl
      · funext x
        rw [if_neg (by omega)]
    · refine Or.inr ⟨by omega, ?_, ?_, by simp, ⟨by omega, by omega, by omega⟩, fun x h0 h1 => ?_, zSel_id rfl⟩
      · rw [f6, if_neg h5]
        rfl
      · rw [w6 _ (Or.inr rfl), show (fun x => if 0 ≤ x ∧ x < P 3 0 0 then some (ad2 (15, x, 0, 0)) else none) = fun x => if 0 ≤ x ∧ x < P 3 0 0 then some (ad (15, x, 0, 0)) else none from funext (fun x => ite_cg (fun hx => by rw [(hfr _ (e15 x hx.2)).2]) (fun _ => rfl))]
        exact mg_7 (by omega)
      · exact ⟨(15, x, 0, 0), _, if_pos ⟨h0, h1⟩, mgn_15 ⟨h0, by rw [zPg_3]; omega⟩⟩
  refine G_callV (pc := 45) gk_X6_71 dX6_group_45 f6 rfl (c_add (r := (RX0, TX0, 2)) rfl (by decide) ca_Group (mgn_15 hg3) hL (mn_g (by simp) ((mm_ge _ (by simp)).trans hX)) (by omega) (by simp)) rfl rfl (Nat.le_of_ble_eq_true rfl) ⟨⟨Nat.le_of_ble_eq_true rfl, Nat.le_of_ble_eq_true rfl⟩, Nat.le_of_ble_eq_true rfl, Nat.le_of_ble_eq_true rfl⟩ (fun v ad3 M3 hpo => ?_)
  obtain ⟨rfl, ha3, kb, c, hkb, hc, hM3⟩ := hpo
  refine G_pop (pc := 48) dX6_group_48 rfl ?_
  have hkb' : kb = (7, 0, 0, 0) ∨ kb = (91, 0, 0, 0) := by
    rcases hkb with q | q
    · exact Or.inl q.1
    · exact Or.inr q.1
  have nkb : ∀ k : zK, k ≠ (7, 0, 0, 0) → k ≠ (91, 0, 0, 0) → k ≠ kb := fun k h1 h2 q => by
    rcases hkb' with q' | q'
    · exact h1 (q.trans q')
    · exact h2 (q.trans q')
  obtain ⟨z, hzR, hz⟩ := zI_of (zI (S (6, 0, 0, 0) 0 + 1))
  have key := mm_group2 (Δ := z_d Γ) (ad2 := ad2) (ad3 := ad3) (P := P) (S := SK) (X := X) (W := M4) (M3 := M3) (t := t) (m1 := S (6, 0, 0, 0) 0 + 1) (z := z) (c := c) (kb := kb) hP hX hc.1 hz.symm
    (fun k h1 h2 h5 => by rw [hM3, zup1_n _ _ h1, zup1_n _ _ (nkb k h2 h5)]) ha3 (by rw [hM3, zup1_s]) (by rw [hM3, zup1_n _ _ (by rcases hkb' with q | q <;> rw [q] <;> simp), zup1_s]) hkb'
  refine G_ren (ad' := zup1 ad3 (7, 0, 0, 0) (ad3 kb)) (M' := mm (z_d Γ) (zup1 ad3 (7, 0, 0, 0) (ad3 kb)) (zPg P t c) (zst SK (6, 0, 0, 0) 0 z) X) (fun k => if k = (7, 0, 0, 0) then kb else k) key (fun y y' hy hy' e => ?_) ?_
  · have n91 : ∀ y, mm (z_d Γ) (zup1 ad3 (7, 0, 0, 0) (ad3 kb)) (zPg P t c) (zst SK (6, 0, 0, 0) 0 z) X y ≠ none → y ≠ (91, 0, 0, 0) := fun y hy q => hy (by rw [q]; exact (mm_ge _ (by simp)).trans hX)
    have g1 := n91 y hy
    have g2 := n91 y' hy'
    by_cases q1 : y = (7, 0, 0, 0) <;> by_cases q2 : y' = (7, 0, 0, 0)
    · rw [q1, q2]
    · simp only [if_pos q1, if_neg q2] at e
      exact absurd e.symm (nkb y' q2 g2)
    · simp only [if_neg q1, if_pos q2] at e
      exact absurd e (nkb y q1 g1)
    · simpa only [if_neg q1, if_neg q2] using e
  have hadF : ∀ k : zK, (k.1 = 0 ∨ 40 ≤ k.1) → k ≠ (91, 0, 0, 0) → zup1 ad3 (7, 0, 0, 0) (ad3 kb) k = ad k := fun k h1 h2 => by
    rw [zup1_n _ _ (fun q => by rw [q] at h1; simp at h1), ha3 k h2, (hfr k (fun q => by have := q.2; omega)).2]
  rw [show ad2 (0, 0, 0, 0) = zup1 ad3 (7, 0, 0, 0) (ad3 kb) (0, 0, 0, 0) from ((hfr _ (nN 0 0 0 0 (by omega))).2).trans (hadF _ (Or.inl rfl) (by simp)).symm]
  generalize zup1 ad3 (7, 0, 0, 0) (ad3 kb) = ad4 at hadF ⊢
  refine G_aload_n (pc := 49) 0 2 dX6_group_49 rfl rfl ?_
  refine G_getf (pc := 50) fl_X6_16 dX6_group_50 mg_0 rfl ?_
  refine G_callVd (pc := 53) gk_X6_57 dX6_group_53 mg_6 rfl (c_AL_size_6 ) rfl rfl (Nat.le_of_ble_eq_true rfl) ⟨⟨Nat.le_of_ble_eq_true rfl, Nat.le_of_ble_eq_true rfl⟩, Nat.le_of_ble_eq_true rfl, Nat.le_of_ble_eq_true rfl⟩ ?_
  refine G_iconst (pc := 56) dX6_group_56 ?_
  refine G_isub (pc := 57) dX6_group_57 ?_
  refine G_iret (pc := 58) hF dX6_group_58 ⟨Nat.le_of_ble_eq_true rfl, Nat.le_of_ble_eq_true rfl⟩ ⟨?_, c, z, ⟨hc.1, by omega⟩, hzR, ?_, hadF⟩
  · rw [zPg_3, show P 3 0 0 + 1 - 1 = P 3 0 0 by omega]
  · rw [hSK, zkG_Pg (c' := (c : Int))]
