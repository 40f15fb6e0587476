/-! ===== the class's topic, where it makes one ===== -/
theorem zSel_id {P : Int} {F : Int → Option Nat} {g : Int → Nat} (hF : F = fun x => if 0 ≤ x ∧ x < P then some (g x) else none) : (fun j => if 0 ≤ j ∧ j < P then F j else none) = F := by
  subst hF
  funext x
  by_cases h : 0 ≤ x ∧ x < P
  · rw [if_pos h]
  · rw [if_neg h, if_neg h]
set_option maxHeartbeats 4000000 in
set_option maxRecDepth 100000 in
theorem c_X6_topic {l : Launch} {Δ : zDl} {ad : zK → Nat} {P : zP} {S : zS} {X : zMem} {n b : Int} (hP : zWP P) (hW : zWS P S) (hn : 1 ≤ n ∧ n ≤ 4) (h4 : P 0 0 0 < 4) (hb : b = 0 ∨ b = 1) (hX : X (91, 0, 0, 0) = none) : zMn l Δ yX6_topic cX6_topic 3 (some .int) 9 12 190 [.ref (ad (0, 0, 0, 0)), .int (zI n), .int (zI b)] ad (mm Δ ad P S X) (fun v ad' M' => v = some (.int (zI (P 0 0 0))) ∧ ∃ c z : Int, (P 0 0 0 < c ∧ c ≤ 200) ∧ zR z ∧ M' = mm Δ ad' (zPt P n c) (zSt P S b z) X ∧ ∀ k : zK, (k.1 = 0 ∨ 40 ≤ k.1) → k ≠ (91, 0, 0, 0) → ad' k = ad k) := by
  obtain ⟨m, rfl⟩ : ∃ m : Nat, n = (m : Int) := ⟨n.toNat, by omega⟩
  refine zMn_of (by decide) (Nat.le_of_ble_eq_true rfl) (fun Γ hl hΔ hF => ?_)
  subst hl hΔ
  show G Γ _ _ _ RX6 _ _ _ _ _ [(0, .ref (ad (0, 0, 0, 0))), (1, .int (zI m)), (2, .int (zI b))] []
  have hS := hW.R
  have hN := hP.n
  refine G_iload_n (pc := 0) 1 1 dX6_topic_0 rfl rfl ?_
  refine G_iconst (pc := 1) dX6_topic_1 ?_
  refine G_iconst (pc := 2) dX6_topic_2 ?_
  refine G_callSd (pc := 3) gk_X6_46 dX6_topic_3 (c_X6_isWithin ⟨by omega, by omega⟩ ⟨by omega, by omega⟩ ⟨by omega, by omega⟩) rfl rfl (Nat.le_of_ble_eq_true rfl) ⟨⟨Nat.le_of_ble_eq_true rfl, Nat.le_of_ble_eq_true rfl⟩, Nat.le_of_ble_eq_true rfl, Nat.le_of_ble_eq_true rfl⟩ ?_
  refine G_if_ne_b (pc := 6) 19 dX6_topic_6 (by decide) (fun c6 => ?_) (fun c6 => ?_)
  rotate_left
  · exact absurd hn (by omega)
  refine G_aload_n (pc := 19) 0 0 dX6_topic_19 rfl rfl ?_
  refine G_getf (pc := 20) fl_X6_10 dX6_topic_20 mg_0 rfl ?_
  refine G_callVd (pc := 23) gk_X6_57 dX6_topic_23 mg_4 rfl (c_AL_size_4 ) rfl rfl (Nat.le_of_ble_eq_true rfl) ⟨⟨Nat.le_of_ble_eq_true rfl, Nat.le_of_ble_eq_true rfl⟩, Nat.le_of_ble_eq_true rfl, Nat.le_of_ble_eq_true rfl⟩ ?_
  refine G_iconst (pc := 26) dX6_topic_26 ?_
  refine G_icmp_lt (pc := 27) 40 dX6_topic_27 (by decide) ⟨by omega, by omega⟩ ⟨by omega, by omega⟩ (fun c27 => ?_) (fun c27 => ?_)
  rotate_left
  · exact absurd h4 (by omega)
  refine G_aload_n (pc := 40) 0 0 dX6_topic_40 rfl rfl ?_
  refine G_getf (pc := 41) fl_X6_10 dX6_topic_41 mg_0 rfl ?_
  have mY : ∀ k : zK, tpN (P 0 0 0) k → mm (z_d Γ) ad P S X k = none := fun k hk => by
    cases hm : mm (z_d Γ) ad P S X k with
    | none => rfl
    | some e =>
      exfalso
      obtain ⟨a1, a2, a3⟩ := hk
      rw [mm_lt k (by omega)] at hm
      have := ((zcnt_in hm).2.1 ⟨a2, by omega⟩).1
      omega
  have m8 : mm (z_d Γ) ad P S X (8, P 0 0 0, 0, 0) = none := mY _ ⟨rfl, Nat.le_of_ble_eq_true rfl, Nat.le_of_ble_eq_true rfl⟩
  refine G_new (pc := 44) (fs := [.null, .int (zI 0), .null, .int (zI 0)]) (8, P 0 0 0, 0, 0) nw_X6_66 dX6_topic_44 m8 (by decide) ⟨Nat.le_of_ble_eq_true rfl, Nat.le_of_ble_eq_true rfl⟩ (fun ad1 had => ?_)
  rw [← had (4, 0, 0, 0) (by simp)]
  refine G_dup (pc := 47) dX6_topic_47 rfl ?_
  refine G_iload_n (pc := 48) 1 1 dX6_topic_48 rfl rfl ?_
  refine G_iload_n (pc := 49) 2 2 dX6_topic_49 rfl rfl ?_
  refine G_callI (pc := 50) (mc := 10) (ms := 28) gk_X6_68 dX6_topic_50 (c_X5_init (Y := P 0 0 0) (b := b) (n := m) (by omega) hb (zup1_s _ _ _) ((zup1_n _ _ (by simp)).trans (mY _ ⟨rfl, Nat.le_of_ble_eq_true rfl, Nat.le_of_ble_eq_true rfl⟩)) ((zup1_n _ _ (by simp)).trans (mY _ ⟨rfl, Nat.le_of_ble_eq_true rfl, Nat.le_of_ble_eq_true rfl⟩)) (fun x _ _ => ⟨(zup1_n _ _ (by simp)).trans (mY _ ⟨rfl, Nat.le_of_ble_eq_true rfl, Nat.le_of_ble_eq_true rfl⟩), (zup1_n _ _ (by simp)).trans (mY _ ⟨rfl, Nat.le_of_ble_eq_true rfl, Nat.le_of_ble_eq_true rfl⟩)⟩)) rfl rfl (Nat.le_of_ble_eq_true rfl) ⟨⟨Nat.le_of_ble_eq_true rfl, Nat.le_of_ble_eq_true rfl⟩, Nat.le_of_ble_eq_true rfl, Nat.le_of_ble_eq_true rfl⟩ (fun v ad2 M2 hpo => ?_)
  obtain ⟨rfl, i8, i9, i10, i11, -, ifr, iad⟩ := hpo
  have hfr : ∀ k, ¬ tpN (P 0 0 0) k → M2 k = mm (z_d Γ) ad P S X k ∧ ad2 k = ad k := fun k hk => by
    have n8 : k ≠ (8, P 0 0 0, 0, 0) := fun q => hk (by rw [q]; exact ⟨rfl, Nat.le_of_ble_eq_true rfl, Nat.le_of_ble_eq_true rfl⟩)
    exact ⟨(ifr k hk).1.trans (zup1_n _ _ n8), (ifr k hk).2.trans (had k n8)⟩
  have nN : ∀ (a : Nat) (i j o : Int), (a < 8 ∨ 12 < a) → ¬ tpN (P 0 0 0) (a, i, j, o) := fun a i j o h q => by have := q.2; simp only at this; omega
  rw [← iad, show ad1 (4, 0, 0, 0) = ad2 (4, 0, 0, 0) from ((ifr _ (nN 4 0 0 0 (by omega))).2).symm]
  have f4 : M2 (4, 0, 0, 0) = some (.inr (0, [.int (zI (S (4, 0, 0, 0) 0)), .ref (if P 5 0 0 = 0 then (z_d Γ).2.2.1 else ad2 (5, 0, 0, 0)), .int (zI (P 0 0 0))])) := by
    rw [(hfr _ (nN 4 0 0 0 (by omega))).1, (hfr _ (nN 5 0 0 0 (by omega))).2]
    exact mg_4
  have e8 : ∀ x, x < P 0 0 0 → ¬ tpN (P 0 0 0) (8, x, 0, 0) := fun x hx q => by have := q.1; simp only at this; omega
  have hL : zLst (z_d Γ) ad2 M2 6 (4, 0, 0, 0) (5, 0, 0, 0) (S (4, 0, 0, 0) 0) (P 0 0 0) (P 5 0 0).toNat (fun x => if 0 ≤ x ∧ x < P 0 0 0 then some (ad (8, x, 0, 0)) else none) := by
    by_cases h5 : P 5 0 0 = 0
    · refine Or.inl ⟨by omega, by omega, ?_, ?_⟩
      · rw [f4, if_pos h5, show P 0 0 0 = 0 by omega]
        rfl
      · funext x
        rw [if_neg (by omega)]
    · refine Or.inr ⟨by omega, ?_, ?_, by simp, ⟨by omega, by omega, by omega⟩, fun x h0 h1 => ?_, zSel_id rfl⟩
      · rw [f4, if_neg h5]
        rfl
      · rw [(hfr _ (nN 5 0 0 0 (by omega))).1]
        exact mg_5 (by omega)
      · exact ⟨(8, x, 0, 0), _, (if_pos ⟨h0, h1⟩).trans (by rw [(hfr _ (e8 x h1)).2]), (hfr _ (e8 x h1)).1.trans (mg_8 ⟨h0, h1⟩)⟩
  refine G_callV (pc := 53) gk_X6_71 dX6_topic_53 f4 rfl (c_add (r := (RX5, TX5, 4)) rfl (by decide) ca_Topic i8 hL ((hfr _ (nN 91 0 0 0 (by omega))).1.trans ((mm_ge _ (by simp)).trans hX)) (by omega) (by simp)) rfl rfl (Nat.le_of_ble_eq_true rfl) ⟨⟨Nat.le_of_ble_eq_true rfl, Nat.le_of_ble_eq_true rfl⟩, Nat.le_of_ble_eq_true rfl, Nat.le_of_ble_eq_true rfl⟩ (fun v ad3 M3 hpo => ?_)
  obtain ⟨rfl, ha3, kb, c, hkb, hc, hM3⟩ := hpo
  refine G_pop (pc := 56) dX6_topic_56 rfl ?_
  have hkb' : kb = (5, 0, 0, 0) ∨ kb = (91, 0, 0, 0) := by
    rcases hkb with q | q
    · exact Or.inl q.1
    · exact Or.inr q.1
  have nkb : ∀ k : zK, k ≠ (5, 0, 0, 0) → k ≠ (91, 0, 0, 0) → k ≠ kb := fun k h1 h2 q => by
    rcases hkb' with q' | q'
    · exact h1 (q.trans q')
    · exact h2 (q.trans q')
  have hm : ∀ k : zK, k ≠ (4, 0, 0, 0) → k ≠ (5, 0, 0, 0) → k ≠ (91, 0, 0, 0) → M3 k = M2 k := fun k h1 h2 h3 => by
    rw [hM3, zup1_n _ _ h1, zup1_n _ _ (nkb k h2 h3)]
  have hT : ∀ (a : Nat) (i j o : Int), 8 ≤ a → a < 91 → M3 (a, i, j, o) = M2 (a, i, j, o) ∧ ad3 (a, i, j, o) = ad2 (a, i, j, o) := fun a i j o h1 h2 => ⟨hm _ (fun q => by simp only [Prod.mk.injEq] at q; omega) (fun q => by simp only [Prod.mk.injEq] at q; omega) (fun q => by simp only [Prod.mk.injEq] at q; omega), ha3 _ (fun q => by simp only [Prod.mk.injEq] at q; omega)⟩
  refine G_eqv (M' := zup1 M3 (9, P 0 0 0, 0, 0) (some (.inl ((z_d Γ).2.1 2, m, .inr (.inr (.inr (.inr (zAq (fun x => some (ad3 (11, P 0 0 0, x, 0)))))))))) ) (fun k e' hk => ?_) ?_
  · by_cases q : k = (9, P 0 0 0, 0, 0)
    · subst q
      rw [zup1_s] at hk
      injection hk with hk
      refine ⟨_, (hT 9 _ _ _ (by decide) (by decide)).1.trans i9, fun H hH => ?_⟩
      rw [← hk]
      refine va_eqF (fun x h0 h1 => ?_) H hH
      show (if 0 ≤ x ∧ x < (m : Int) then some (ad2 (11, P 0 0 0, x, 0)) else none) = _
      rw [if_pos ⟨h0, h1⟩, (hT 11 _ _ _ (by decide) (by decide)).2]
    · rw [zup1_n _ _ q] at hk
      exact ⟨e', hk, fun H hH => hH⟩
  obtain ⟨z, hzR, hz⟩ := zI_of (zI (S (4, 0, 0, 0) 0 + 1))
  have key := mm_topic (Δ := z_d Γ) (ad := ad) (ad3 := ad3) (P := P) (S := S) (X := X) (M3 := zup1 M3 (9, P 0 0 0, 0, 0) (some (.inl ((z_d Γ).2.1 2, m, .inr (.inr (.inr (.inr (zAq (fun x => some (ad3 (11, P 0 0 0, x, 0)))))))))) ) (n := m) (b := b) (m1 := S (4, 0, 0, 0) 0 + 1) (z := z) (c := c) (kb := kb) hP hX hn h4 hc.1 hz.symm (fun k h1 h2 h3 h5 => by
      rw [zup1_n _ _ (fun q => h1 (by rw [q]; exact ⟨rfl, Nat.le_of_ble_eq_true rfl, Nat.le_of_ble_eq_true rfl⟩)), hm k h2 h3 h5]
      exact (hfr k h1).1) (fun k h1 h2 => (ha3 k h2).trans (hfr k h1).2)
    (by rw [zup1_n _ _ (by simp), (hT 8 _ _ _ (by decide) (by decide)).1, (hT 9 _ _ _ (by decide) (by decide)).2, (hT 10 _ _ _ (by decide) (by decide)).2]; exact i8) (zup1_s _ _ _)
    (by rw [zup1_n _ _ (by simp), (hT 10 _ _ _ (by decide) (by decide)).1]; exact i10)
    (fun x h0 h1 => by rw [zup1_n _ _ (by simp), zup1_n _ _ (by simp), (hT 11 _ _ _ (by decide) (by decide)).1, (hT 12 _ _ _ (by decide) (by decide)).1, (hT 12 _ _ _ (by decide) (by decide)).2]; exact i11 x h0 h1)
    (by rw [zup1_n _ _ (by simp), hM3, zup1_s])
    (by rw [zup1_n _ _ (by rcases hkb' with q | q <;> rw [q] <;> simp), hM3, zup1_n _ _ (by rcases hkb' with q | q <;> rw [q] <;> simp), zup1_s, (hT 8 _ _ _ (by decide) (by decide)).2]) hkb'
  refine G_ren (ad' := zup1 ad3 (5, 0, 0, 0) (ad3 kb)) (M' := mm (z_d Γ) (zup1 ad3 (5, 0, 0, 0) (ad3 kb)) (zPt P m c) (zSt P S b z) X) (fun k => if k = (5, 0, 0, 0) then kb else k) key (fun k k' hk hk' e => ?_) ?_
  · have n91 : ∀ k, mm (z_d Γ) (zup1 ad3 (5, 0, 0, 0) (ad3 kb)) (zPt P m c) (zSt P S b z) X k ≠ none → k ≠ (91, 0, 0, 0) := fun k hk q => hk (by rw [q]; exact (mm_ge _ (by simp)).trans hX)
    have g1 := n91 k hk
    have g2 := n91 k' hk'
    by_cases q1 : k = (5, 0, 0, 0) <;> by_cases q2 : k' = (5, 0, 0, 0)
    · rw [q1, q2]
    · simp only [if_pos q1, if_neg q2] at e
      exact absurd e.symm (nkb k' q2 g2)
    · simp only [if_neg q1, if_pos q2] at e
      exact absurd e (nkb k q1 g1)
    · simpa only [if_neg q1, if_neg q2] using e
  have hadF : ∀ k : zK, (k.1 = 0 ∨ 40 ≤ k.1) → k ≠ (91, 0, 0, 0) → zup1 ad3 (5, 0, 0, 0) (ad3 kb) k = ad k := fun k h1 h2 => by
    rw [zup1_n _ _ (fun q => by rw [q] at h1; simp at h1), ha3 k h2, (hfr k (fun q => by have := q.2; omega)).2]
  rw [← hadF (0, 0, 0, 0) (Or.inl rfl) (by simp)]
  generalize zup1 ad3 (5, 0, 0, 0) (ad3 kb) = ad4 at hadF ⊢
  refine G_aload_n (pc := 57) 0 0 dX6_topic_57 rfl rfl ?_
  refine G_getf (pc := 58) fl_X6_10 dX6_topic_58 mg_0 rfl ?_
  refine G_callVd (pc := 61) gk_X6_57 dX6_topic_61 mg_4 rfl (c_AL_size_4 ) rfl rfl (Nat.le_of_ble_eq_true rfl) ⟨⟨Nat.le_of_ble_eq_true rfl, Nat.le_of_ble_eq_true rfl⟩, Nat.le_of_ble_eq_true rfl, Nat.le_of_ble_eq_true rfl⟩ ?_
  refine G_iconst (pc := 64) dX6_topic_64 ?_
  refine G_isub (pc := 65) dX6_topic_65 ?_
  refine G_iret (pc := 66) hF dX6_topic_66 ⟨Nat.le_of_ble_eq_true rfl, Nat.le_of_ble_eq_true rfl⟩ ⟨?_, c, z, ⟨hc.1, by omega⟩, hzR, rfl, hadF⟩
  rw [zPt_0, show P 0 0 0 + 1 - 1 = P 0 0 0 by omega]
