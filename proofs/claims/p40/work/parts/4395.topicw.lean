/-! ===== addTopic: the walk ===== -/
theorem zrT_o {t : Int} {k : zK} (h1 : k ≠ (201, 0, 0, 0)) (h2 : k ≠ (202, t, 0, 0)) (h3 : ¬ (k.1 = 203 ∧ k.2.1 = t)) : zrT t k = k := by
  unfold zrT
  rw [if_neg h1, if_neg h2, if_neg h3]
theorem zrT_1 {t : Int} : zrT t (201, 0, 0, 0) = (231, 0, 0, 0) := if_pos rfl
theorem zrT_2 {t : Int} : zrT t (202, t, 0, 0) = (232, 0, 0, 0) := (if_neg (by simp)).trans (if_pos rfl)
theorem zrT_3 {t p l : Int} : zrT t (203, t, p, l) = (233, p, l, 0) := (if_neg (by simp)).trans ((if_neg (by simp)).trans (if_pos ⟨rfl, rfl⟩))
section ZTW
variable {Δ : zDl} {ad ad' : zK → Nat} {Q : zP} {B : zS} {X : zMem} {n t : Int}
/-- all other cells are told as before -/
theorem pm_top (hQ : Q 0 0 0 = t) (ha : ∀ k : zK, k ≠ (201, 0, 0, 0) → k ≠ (202, t, 0, 0) → ¬ (k.1 = 203 ∧ k.2.1 = t) → k.1 < 230 → ad' k = ad k) {k : zK} (h0 : k ≠ (200, 0, 0, 0)) (h1 : k ≠ (201, 0, 0, 0)) (h2 : k ≠ (202, t, 0, 0)) (h3 : ¬ (k.1 = 203 ∧ k.2.1 = t)) {e : va_E} (hk : pm Δ ad' (zPt Q n 200) B X k = some e) : pm Δ ad Q B X k = some e := by
  by_cases hr : 200 ≤ k.1 ∧ k.1 < 224
  · rw [pm_in _ hr] at hk ⊢
    obtain ⟨m, i, j, l⟩ := k
    have lt : ∀ x : Int, (0 ≤ x ∧ x < zPt Q n 200 0 0 0) → ¬ x = t → 0 ≤ x ∧ x < Q 0 0 0 := fun x hx hne => ⟨hx.1, by have := hx.2; rw [zPt_0] at this; omega⟩
    by_cases m0 : m = 200
    · subst m0
      have hk : pc200 Δ ad' (zPt Q n 200) B i j l = some e := hk
      unfold pc200 at hk
      split at hk
      · next q => exact absurd (by rw [q.1, q.2.1, q.2.2]) h0
      · cases hk
    · by_cases m1 : m = 201
      · subst m1
        have hk : pc201 Δ ad' (zPt Q n 200) B i j l = some e := hk
        unfold pc201 at hk
        split at hk
        · next q => exact absurd (by rw [q.1, q.2.1, q.2.2]) h1
        · cases hk
      · by_cases m2 : m = 202
        · subst m2
          have hk : pc202 Δ ad' (zPt Q n 200) B i j l = some e := hk
          show pc202 Δ ad Q B i j l = some e
          unfold pc202 at hk ⊢
          split at hk
          · next q =>
            have hne : ¬ i = t := fun e => h2 (by rw [e, q.2.1, q.2.2])
            rw [if_pos ⟨lt i q.1 hne, q.2⟩, ← hk, zPt_1, if_neg (by rw [hQ]; exact hne)]
            have e2 : (fun x : Int => some (ad' (203, i, x, 0))) = fun x => some (ad (203, i, x, 0)) := funext fun x => by rw [ha _ (by simp) (by simp) (fun q => hne q.2) (by simp)]
            rw [e2]
          · cases hk
        · by_cases m3 : m = 203
          · subst m3
            have hne : ¬ i = t := fun e => h3 ⟨rfl, e⟩
            have hk : pc203 Δ ad' (zPt Q n 200) B i j l = some e := hk
            show pc203 Δ ad Q B i j l = some e
            unfold pc203 at hk ⊢
            have p1 : zPt Q n 200 1 i 0 = Q 1 i 0 := by rw [zPt_1, if_neg (by rw [hQ]; exact hne)]
            have p2 : zPt Q n 200 2 i j = Q 2 i j := by rw [zPt_2, if_neg (by rw [hQ]; exact hne)]
            rw [p1, p2] at hk
            split at hk
            · next q =>
              rw [if_pos ⟨⟨lt i q.1.1 hne, q.1.2⟩, q.2⟩, ← hk]
              have e2 : (fun x : Int => some (ad' (204, i, j, x))) = fun x => some (ad (204, i, j, x)) := funext fun x => by rw [ha _ (by simp) (by simp) (by simp) (by simp)]
              rw [e2]
            · cases hk
          · by_cases m4 : m = 204
            · subst m4
              have hk : pc204 Δ ad' (zPt Q n 200) B i j l = some e := hk
              show pc204 Δ ad Q B i j l = some e
              unfold pc204 at hk ⊢
              by_cases hne : i = t
              · have p2 : zPt Q n 200 2 i j = 0 := by rw [zPt_2, if_pos (by rw [hQ]; exact hne)]
                rw [p2] at hk
                split at hk
                · next q => have := q.2; omega
                · cases hk
              · have p1 : zPt Q n 200 1 i 0 = Q 1 i 0 := by rw [zPt_1, if_neg (by rw [hQ]; exact hne)]
                have p2 : zPt Q n 200 2 i j = Q 2 i j := by rw [zPt_2, if_neg (by rw [hQ]; exact hne)]
                rw [p1, p2] at hk
                split at hk
                · next q =>
                  rw [if_pos ⟨⟨lt i q.1.1 hne, q.1.2⟩, q.2⟩, ← hk]
                  rfl
                · cases hk
            · have cut : ∀ (ad0 : zK → Nat) (Q0 : zP), pcnt Δ ad0 Q0 B (m, i, j, l) = pcnt Δ (fun q => if 205 ≤ q.1 ∧ q.1 < 230 then ad0 q else 0) Q B (m, i, j, l) := fun ad0 Q0 => by
                unfold pcnt
                refine ite_cg (fun q => absurd q m0) (fun _ => ite_cg (fun q => absurd q m1) (fun _ => ite_cg (fun q => absurd q m2) (fun _ => ite_cg (fun q => absurd q m3) (fun _ => ite_cg (fun q => absurd q m4) (fun _ => ?_)))))
                (iterate 19 refine ite_cg (fun _ => rfl) (fun _ => ?_))
                rfl
              rw [cut] at hk ⊢
              have e2 : (fun q : zK => if 205 ≤ q.1 ∧ q.1 < 230 then ad' q else 0) = fun q => if 205 ≤ q.1 ∧ q.1 < 230 then ad q else 0 := by
                funext q
                by_cases hq : 205 ≤ q.1 ∧ q.1 < 230
                · rw [if_pos hq, if_pos hq]
                  exact ha q (fun z => by rw [z] at hq; revert hq; decide) (fun z => by rw [z] at hq; simp at hq) (fun z => by omega) (by omega)
                · rw [if_neg hq, if_neg hq]
              rw [e2] at hk
              exact hk
  · rw [pm_out _ hr] at hk ⊢
    exact hk
end ZTW
set_option maxHeartbeats 4000000 in
set_option maxRecDepth 100000 in
theorem w_X7_addTopic {Γ : zCx} {ad : zK → Nat} {Q Q1 : zP} {V D : zS} {X : zMem} {b : Int} {N : Nat} (hQ1 : Q1 0 0 0 ≤ Q 0 0 0 + 1) (hQ3 : Q1 3 0 0 ≤ Q 3 0 0) (hF : zFn Γ yX7_addTopic.name (some .boolean) (zAct (z_d Γ) ad Q1 V 1000) 20 230) (hJD : zJ Q D) (hXD : X = mm (z_d Γ) ad Q D z00) (hn : 1 ≤ N ∧ N ≤ 3) (h4 : Q 0 0 0 < 4) (hb : b = 0 ∨ b = 1) (hDd : D (200, 0, 0, 0) 2 ≤ V (200, 0, 0, 0) 2 + 1000) (hD4 : D (0, 0, 0, 0) 4 = V (0, 0, 0, 0) 4) (hD6 : D (0, 0, 0, 0) 6 = V (0, 0, 0, 0) 6) (hD1 : D (1, 0, 0, 0) 1 = V (1, 0, 0, 0) 1) :
    G Γ (zRm 10 20 230) cX7_addTopic 4 RX7 ad (pm (z_d Γ) ad Q (zst D (8, Q 0 0 0, 0, 0) 1 b) X) 0 0 44 [(2, .int (zI (Q 0 0 0))), (1, .int (zI (N : Int))), (0, .ref (ad (200, 0, 0, 0)))] [] := by
  have hP := hJD.wp
  have hq := hP.n
  have x230 : ∀ (m : Nat) (i j l : Int), 224 ≤ m → X (m, i, j, l) = none := fun m i j l hm => by rw [hXD, mm_ge _ (by show ¬ m < 80; omega)]; rfl
  obtain ⟨t, ht⟩ : ∃ t, Q 0 0 0 = t := ⟨_, rfl⟩
  rw [ht] at h4 ⊢
  generalize hB : zst D (8, t, 0, 0) 1 b = B
  refine G_iload_n (pc := 44) 2 0 dX7_addTopic_44 rfl rfl ?_
  refine G_iconst (pc := 45) dX7_addTopic_45 ?_
  refine G_iadd (pc := 46) dX7_addTopic_46 ?_
  have hs1 : pm (z_d Γ) ad Q B X (231, 0, 0, 0) = none := (pm_out _ (by decide)).trans (x230 _ _ _ _ (by decide))
  refine G_newA (pc := 47) (t := 7) (N := (t + 1).toNat) (te := .array (.array .int)) (231, 0, 0, 0) cl_X7_23 (by decide) rfl dX7_addTopic_47 hs1 (by omega) ⟨by omega, by omega⟩ (by omega) ⟨Nat.le_of_ble_eq_true rfl, by show 0 + (t + 1).toNat ≤ 230; omega⟩ (fun ad1 had1 => ?_)
  show G Γ _ _ _ _ _ _ 1 (0 + (t + 1).toNat) _ _ _
  have h1lt : ∀ k : zK, k.1 < 224 → ad1 k = ad k := fun k hk => had1 k (fun q => by rw [q] at hk; exact absurd hk (by decide))
  rw [← h1lt (200, 0, 0, 0) (by decide), ← pm_ad h1lt]
  refine G_nm (fun M1 hM1 => ?_)
  have f1 : ∀ k, k ≠ (231, 0, 0, 0) → M1 k = pm (z_d Γ) ad1 Q B X k := fun k hk => by rw [hM1, zup1_n _ _ hk]
  have m231 : M1 (231, 0, 0, 0) = some (.inl ((z_d Γ).2.1 7, (t + 1).toNat, .inr (.inr (.inr (.inr (zAq (fun _ => none))))))) := by rw [hM1]; exact zup1_s _ _ _
  have m200 := (f1 (200, 0, 0, 0) (by simp)).trans pg_200
  have m201 := (f1 (201, 0, 0, 0) (by simp)).trans pg_201
  refine G_astore_n (pc := 50) 3 [(3, .ref (ad1 (231, 0, 0, 0))), (2, .int (zI t)), (1, .int (zI (N : Int))), (0, .ref (ad1 (200, 0, 0, 0)))] dX7_addTopic_50 rfl (by decide) rfl ?_
  refine G_aload_n (pc := 51) 0 3 dX7_addTopic_51 rfl rfl ?_
  refine G_getf (pc := 52) fl_X7_25 dX7_addTopic_52 m200 rfl ?_
  refine G_iconst (pc := 55) dX7_addTopic_55 ?_
  refine G_aload_n (pc := 56) 3 0 dX7_addTopic_56 rfl rfl ?_
  refine G_iconst (pc := 57) dX7_addTopic_57 ?_
  refine G_iload_n (pc := 58) 2 1 dX7_addTopic_58 rfl rfl ?_
  refine G_cpyA (pc := 59) (t := 7) (tv := 6) (te := .array (.array .int)) cw_X7_88 rfl (by decide) rfl dX7_addTopic_59 m201 m231 (by omega) (fun i hi1 hi2 => ⟨(202, i, 0, 0), _, _, rfl, (f1 _ (by simp)).trans (pg_202 ⟨hi1, by omega⟩)⟩) ⟨Nat.le_of_ble_eq_true rfl, Nat.le_of_ble_eq_true rfl⟩ rfl ?_
  refine G_nm (fun M2 hM2 => ?_)
  have f2 : ∀ k, k ≠ (231, 0, 0, 0) → M2 k = pm (z_d Γ) ad1 Q B X k := fun k hk => by rw [hM2, zup1_n _ _ hk]; exact f1 k hk
  have m231' : M2 (231, 0, 0, 0) = some (.inl ((z_d Γ).2.1 7, (t + 1).toNat, .inr (.inr (.inr (.inr (zAq (fun j => if 0 ≤ j ∧ j < t then some (ad1 (202, j, 0, 0)) else none))))))) := by rw [hM2]; exact zup1_s _ _ _
  refine G_aload_n (pc := 62) 3 0 dX7_addTopic_62 rfl rfl ?_
  refine G_iload_n (pc := 63) 2 1 dX7_addTopic_63 rfl rfl ?_
  refine G_iload_n (pc := 64) 1 2 dX7_addTopic_64 rfl rfl ?_
  refine G_iconst (pc := 65) dX7_addTopic_65 ?_
  refine G_multi (pc := 66) (t := 6) (ti := 5) (N := N) (K := 0) (ty := .array .int) (z := (0, .inr (.inr (.inr (.inr (zAq (fun _ => none))))))) (232, 0, 0, 0) (fun j => (233, j, 0, 0)) cl_X7_23m (by decide) rfl rfl (fun C => (zaoC C (by decide)).arr) dX7_addTopic_66 (by rw [f2 _ (by simp), pm_out _ (by simp)]; exact x230 _ _ _ _ (by decide)) (fun j _ _ => by rw [f2 _ (by simp), pm_out _ (by simp)]; exact x230 _ _ _ _ (by decide)) (fun j _ _ => by simp) (fun i j h => by simp at h; exact h) rfl rfl ⟨by omega, by omega⟩ (by decide) rfl rfl (fun c => rfl) ⟨by show 1 + (1 + N) ≤ 20; omega, by show 0 + (t + 1).toNat + (N + N * 0) ≤ 230; omega⟩ (fun ad2 M3 hfr h232 h233 => ?_)
  have e2 : ∀ k : zK, k.1 < 232 → ad2 k = ad1 k ∧ M3 k = M2 k := fun k hk => hfr k (fun q => by rw [q] at hk; exact absurd hk (by decide)) (fun j _ _ q => by rw [q] at hk; exact absurd hk (by show ¬ (233 < 232); decide))
  rw [← (e2 (231, 0, 0, 0) (by decide)).1, ← (e2 (200, 0, 0, 0) (by decide)).1]
  have k231 : M3 (231, 0, 0, 0) = some (.inl ((z_d Γ).2.1 7, (t + 1).toNat, .inr (.inr (.inr (.inr (zAq (fun j => if 0 ≤ j ∧ j < t then some (ad1 (202, j, 0, 0)) else none))))))) := (e2 _ (by decide)).2.trans m231'
  refine G_astA (pc := 70) (t := 7) (tv := 6) (te := .array (.array .int)) rfl (by decide) rfl dX7_addTopic_70 k231 h232 ⟨by omega, by omega, by omega, by omega⟩ rfl ?_
  refine G_nm (fun M4 hM4 => ?_)
  refine G_aload_n (pc := 71) 0 3 dX7_addTopic_71 rfl rfl ?_
  refine G_aload_n (pc := 72) 3 0 dX7_addTopic_72 rfl rfl ?_
  have k200 : M4 (200, 0, 0, 0) = pm (z_d Γ) ad1 Q B X (200, 0, 0, 0) := by rw [hM4, zup1_n _ _ (by simp), (e2 _ (by decide)).2, f2 _ (by simp)]
  rw [pg_200] at k200
  refine G_putf (pc := 73) fl_X7_25 fp_X7_7 dX7_addTopic_73 k200 (Nat.le_of_ble_eq_true rfl) rfl rfl rfl ?_
  refine G_nm (fun M5 hM5 => ?_)
  let ad3 : zK → Nat := fun k => ad2 (zrT t k)
  have a3 : ∀ k : zK, k ≠ (201, 0, 0, 0) → k ≠ (202, t, 0, 0) → ¬ (k.1 = 203 ∧ k.2.1 = t) → ad3 k = ad2 k := fun k a b c => by show ad2 (zrT t k) = _; rw [zrT_o a b c]
  have a201 : ad3 (201, 0, 0, 0) = ad2 (231, 0, 0, 0) := by show ad2 (zrT t _) = _; rw [zrT_1]
  have a202 : ad3 (202, t, 0, 0) = ad2 (232, 0, 0, 0) := by show ad2 (zrT t _) = _; rw [zrT_2]
  have a203 : ∀ x, ad3 (203, t, x, 0) = ad2 (233, x, 0, 0) := fun x => by show ad2 (zrT t _) = _; rw [zrT_3]
  refine G_rneq (ad' := ad3) (M' := pm (z_d Γ) ad3 (zPt Q (N : Int) 200) B X) (zrT t) (fun k e' hk => ⟨rfl, ?_⟩) (fun k k' hk hk' hq2 => ?_) ?_
  · by_cases k0 : k = (200, 0, 0, 0)
    · subst k0
      rw [zrT_o (by simp) (by simp) (by simp), hM5, zup1_s]
      refine ⟨_, rfl, ?_⟩
      rw [pg_200] at hk
      cases hk
      rw [a201]
      simp only [a3 (0, 0, 0, 0) (by simp) (by simp) (by simp), a3 (205, 0, 0, 0) (by simp) (by simp) (by simp), a3 (206, 0, 0, 0) (by simp) (by simp) (by simp), a3 (207, 0, 0, 0) (by simp) (by simp) (by simp), a3 (209, 0, 0, 0) (by simp) (by simp) (by simp), a3 (211, 0, 0, 0) (by simp) (by simp) (by simp), a3 (212, 0, 0, 0) (by simp) (by simp) (by simp), a3 (213, 0, 0, 0) (by simp) (by simp) (by simp), a3 (214, 0, 0, 0) (by simp) (by simp) (by simp), a3 (216, 0, 0, 0) (by simp) (by simp) (by simp), a3 (218, 0, 0, 0) (by simp) (by simp) (by simp), a3 (220, 0, 0, 0) (by simp) (by simp) (by simp), a3 (222, 0, 0, 0) (by simp) (by simp) (by simp)]
      simp only [(e2 (0, 0, 0, 0) (by decide)).1, (e2 (205, 0, 0, 0) (by decide)).1, (e2 (206, 0, 0, 0) (by decide)).1, (e2 (207, 0, 0, 0) (by decide)).1, (e2 (209, 0, 0, 0) (by decide)).1, (e2 (211, 0, 0, 0) (by decide)).1, (e2 (212, 0, 0, 0) (by decide)).1, (e2 (213, 0, 0, 0) (by decide)).1, (e2 (214, 0, 0, 0) (by decide)).1, (e2 (216, 0, 0, 0) (by decide)).1, (e2 (218, 0, 0, 0) (by decide)).1, (e2 (220, 0, 0, 0) (by decide)).1, (e2 (222, 0, 0, 0) (by decide)).1]
      exact fun H h => h
    · by_cases k1 : k = (201, 0, 0, 0)
      · subst k1
        rw [zrT_1, hM5, zup1_n _ _ (by simp), hM4, zup1_s]
        refine ⟨_, rfl, ?_⟩
        rw [pg_201, zPt_0, ht] at hk
        cases hk
        refine fun H => va_eqF (fun x x0 x1 => ?_) H
        show (if x = t then some (ad2 (232, 0, 0, 0)) else if 0 ≤ x ∧ x < t then some (ad1 (202, x, 0, 0)) else none) = some (ad3 (202, x, 0, 0))
        by_cases hx : x = t
        · rw [if_pos hx, hx, a202]
        · rw [if_neg hx, if_pos ⟨x0, by omega⟩, a3 _ (by simp) (by simpa using hx) (by simp), (e2 _ (Nat.le_of_ble_eq_true rfl)).1]
      · by_cases k2 : k = (202, t, 0, 0)
        · subst k2
          rw [zrT_2, hM5, zup1_n _ _ (by simp), hM4, zup1_n _ _ (by simp), h232]
          refine ⟨_, rfl, ?_⟩
          rw [pg_202 ⟨by omega, by rw [zPt_0]; omega⟩, zPt_1, if_pos ht.symm] at hk
          cases hk
          refine fun H => va_eqF (fun x x0 x1 => ?_) H
          rw [a203]
        · by_cases k3 : k.1 = 203 ∧ k.2.1 = t
          · obtain ⟨m, i, j, l⟩ := k
            obtain ⟨rfl, rfl⟩ : m = 203 ∧ i = t := k3
            have hk : pc203 (z_d Γ) ad3 (zPt Q (N : Int) 200) B i j l = some e' := by rw [pm_in _ ⟨by simp, by simp⟩] at hk; exact hk
            unfold pc203 at hk
            rw [zPt_1, if_pos ht.symm, zPt_2, if_pos ht.symm] at hk
            split at hk
            · next hc =>
              cases hk
              obtain ⟨⟨-, c1, c2⟩, rfl⟩ := hc
              rw [zrT_3, hM5, zup1_n _ _ (by simp), hM4, zup1_n _ _ (by simp), h233 j c1 c2]
              exact ⟨_, rfl, fun H => va_eqF (n := 0) (fun x x0 x1 => by omega) H⟩
            · cases hk
          · rw [zrT_o k1 k2 k3]
            have hk' := pm_top (ad := ad1) (ad' := ad3) ht (fun k a b c d => (a3 k a b c).trans (e2 k (by omega)).1) k0 k1 k2 k3 hk
            have hlt : k.1 < 224 := Nat.lt_of_not_le fun q => by
              obtain ⟨m, i, j, l⟩ := k
              by_cases h230 : 224 ≤ m
              · rw [pm_out _ (by simp; omega), x230 _ _ _ _ h230] at hk'
                cases hk'
              · exact h230 q
            refine ⟨e', ?_, fun H h => h⟩
            rw [hM5, zup1_n _ _ k0, hM4, zup1_n _ _ (fun q => by rw [q] at hlt; exact absurd hlt (by decide)), (e2 k (by omega)).2, f2 _ (fun q => by rw [q] at hlt; exact absurd hlt (by decide))]
            exact hk'
  · have dm : ∀ k : zK, pm (z_d Γ) ad3 (zPt Q (N : Int) 200) B X k ≠ none → k.1 < 224 := fun k hk => Nat.lt_of_not_le fun q => by
      obtain ⟨m, i, j, l⟩ := k
      exact hk (by rw [pm_out _ (by simp; omega)]; exact x230 _ _ _ _ q)
    have d1 := dm k hk
    have d2 := dm k' hk'
    have im : ∀ k : zK, k.1 < 224 → (zrT t k = k ∧ k ≠ (201, 0, 0, 0) ∧ k ≠ (202, t, 0, 0) ∧ ¬ (k.1 = 203 ∧ k.2.1 = t)) ∨ (k = (201, 0, 0, 0) ∧ zrT t k = (231, 0, 0, 0)) ∨ (k = (202, t, 0, 0) ∧ zrT t k = (232, 0, 0, 0)) ∨ ∃ p l, k = (203, t, p, l) ∧ zrT t k = (233, p, l, 0) := fun k hk => by
      by_cases a : k = (201, 0, 0, 0)
      · exact Or.inr (Or.inl ⟨a, by rw [a, zrT_1]⟩)
      · by_cases b : k = (202, t, 0, 0)
        · exact Or.inr (Or.inr (Or.inl ⟨b, by rw [b, zrT_2]⟩))
        · by_cases c : k.1 = 203 ∧ k.2.1 = t
          · obtain ⟨m, i, j, l⟩ := k
            obtain ⟨rfl, rfl⟩ : m = 203 ∧ i = t := c
            exact Or.inr (Or.inr (Or.inr ⟨j, l, rfl, zrT_3⟩))
          · exact Or.inl ⟨zrT_o a b c, a, b, c⟩
    have lt1 : ∀ (k : zK) (m : Nat) (p l : Int), k.1 < 224 → 231 ≤ m → k ≠ (m, p, l, 0) := fun k m p l h1 h2 q => by rw [q] at h1; exact absurd h1 (by show ¬ m < 224; omega)
    rcases im k d1 with ⟨q1, -⟩ | ⟨q1, q2⟩ | ⟨q1, q2⟩ | ⟨p, l, q1, q2⟩ <;> rcases im k' d2 with ⟨r1, -⟩ | ⟨r1, r2⟩ | ⟨r1, r2⟩ | ⟨p', l', r1, r2⟩
    · rw [q1, r1] at hq2; exact hq2
    · rw [q1, r2] at hq2; exact absurd hq2 (lt1 _ _ _ _ d1 (by decide))
    · rw [q1, r2] at hq2; exact absurd hq2 (lt1 _ _ _ _ d1 (by decide))
    · rw [q1, r2] at hq2; exact absurd hq2 (lt1 _ _ _ _ d1 (by decide))
    · rw [q2, r1] at hq2; exact absurd hq2.symm (lt1 _ _ _ _ d2 (by decide))
    · rw [q1, r1]
    · rw [q2, r2] at hq2; simp at hq2
    · rw [q2, r2] at hq2; simp at hq2
    · rw [q2, r1] at hq2; exact absurd hq2.symm (lt1 _ _ _ _ d2 (by decide))
    · rw [q2, r2] at hq2; simp at hq2
    · rw [q1, r1]
    · rw [q2, r2] at hq2; simp at hq2
    · rw [q2, r1] at hq2; exact absurd hq2.symm (lt1 _ _ _ _ d2 (by decide))
    · rw [q2, r2] at hq2; simp at hq2
    · rw [q2, r2] at hq2; simp at hq2
    · rw [q2, r2] at hq2
      simp at hq2
      rw [q1, r1, hq2.1, hq2.2]
  · have b200 : ad2 (200, 0, 0, 0) = ad3 (200, 0, 0, 0) := (a3 _ (by simp) (by simp) (by simp)).symm
    rw [b200]
    have hlo : ∀ k : zK, k.1 < 80 → ad3 k = ad k := fun k hk => by
      rw [a3 k (fun q => by rw [q] at hk; exact absurd hk (by decide)) (fun q => by rw [q] at hk; exact absurd hk (by show ¬ 202 < 80; decide)) (fun q => by omega), (e2 k (by omega)).1, h1lt k (by omega)]
    have hX3 : X = mm (z_d Γ) ad3 Q D z00 := by rw [hXD]; exact (mm_ad hlo).symm
    have hA : ad3 (0, 0, 0, 0) = ad (0, 0, 0, 0) ∧ ad3 (200, 0, 0, 0) = ad (200, 0, 0, 0) := ⟨hlo _ (by decide), by rw [← b200, (e2 _ (by decide)).1, h1lt _ (by decide)]⟩
    generalize ad3 = ad4 at hlo hX3 hA ⊢
    clear a3 a201 a202 a203 b200 hM5 hM4
    refine G_aload_n (pc := 76) 0 3 dX7_addTopic_76 rfl rfl ?_
    refine G_getf (pc := 77) fl_X7_10 dX7_addTopic_77 pg_200 rfl ?_
    refine G_iload_n (pc := 80) 1 2 dX7_addTopic_80 rfl rfl ?_
    refine G_aload_n (pc := 81) 0 3 dX7_addTopic_81 rfl rfl ?_
    refine G_getf (pc := 82) fl_X7_29 dX7_addTopic_82 pg_200 rfl ?_
    refine G_iload_n (pc := 85) 2 1 dX7_addTopic_85 rfl rfl ?_
    refine G_zaldV (pc := 86) b dX7_addTopic_86 pg_205 ⟨by omega, by omega, by omega, by omega⟩ (by rw [← hB, zst_s]) ?_
    rw [hX3, pm_mm]
    refine G_callV (pc := 87) gk_X7_98 dX7_addTopic_87 mg_0 rfl (c_X6_topic (n := (N : Int)) (b := b) hP hJD.wv.W (by omega) (by omega) hb (by rfl)) rfl rfl (Nat.le_of_ble_eq_true rfl) ⟨⟨Nat.le_of_ble_eq_true rfl, Nat.le_of_ble_eq_true rfl⟩, by show 1 + 1 + N + 12 ≤ 20; omega, by show 0 + (t + 1).toNat + N + N * 0 + 190 ≤ 230; omega⟩ (fun v ad5 M6 hpo => ?_)
    obtain ⟨rfl, c, z, hc, hz, rfl, had5⟩ := hpo
    have e5 : pm (z_d Γ) ad4 (zPt Q (N : Int) 200) B z00 = pm (z_d Γ) ad5 (zPt Q (N : Int) c) (zSt Q D b z) z00 := by
      rw [← pm_ad2 (ad := ad4) (ad' := ad5) (fun k hk => had5 k (by omega) (fun q => by rw [q] at hk; revert hk; decide))]
      funext k
      by_cases hr : 200 ≤ k.1 ∧ k.1 < 224
      · rw [pm_in _ hr, pm_in _ hr, ← hB, ← ht]
        exact pmT hJD.hd k
      · rw [pm_out _ hr, pm_out _ hr]
    rw [e5, ← pm_mm]
    have b5 : ad5 (200, 0, 0, 0) = ad4 (200, 0, 0, 0) := had5 _ (Or.inr (by decide)) (by decide)
    have b0 : ad5 (0, 0, 0, 0) = ad4 (0, 0, 0, 0) := had5 _ (Or.inl rfl) (by decide)
    have lo : ∀ (k : zK) f, k.1 ≠ 4 → k.1 < 8 ∨ 12 < k.1 → zSt Q D b z k f = D k f := fun k f h1 h2 => zSt_lo (fun q => h1 (by rw [q.1])) (fun q => by omega)
    show G Γ _ _ _ _ _ _ (1 + 1 + N + 12) (0 + (t + 1).toNat + N + N * 0 + 190) 90 _ [.int (zI (Q 0 0 0))]
    rw [ht]
    refine G_iload_n (pc := 90) 2 1 dX7_addTopic_90 rfl rfl ?_
    refine G_icmp_ne (pc := 91) 98 dX7_addTopic_91 (by decide) ⟨by omega, by omega⟩ ⟨by omega, by omega⟩ (fun c91 => absurd rfl c91) (fun _ => ?_)
    refine G_iconst (pc := 94) dX7_addTopic_94 ?_
    refine G_goto (pc := 95) 99 dX7_addTopic_95 (by decide) ?_
    exact G_zret (pc := 99) hF dX7_addTopic_99 ⟨by omega, by omega⟩ (Or.inr rfl) ⟨rfl, zPt Q (N : Int) c, zSt Q D b z, ⟨b0.trans hA.1, b5.trans hA.2⟩, rfl, zJ_top hJD ⟨by omega, by omega⟩ (by omega) hb hc hz, by rw [lo _ _ (by decide) (by decide)]; omega, by rw [lo _ _ (by decide) (by decide)]; omega, by rw [lo _ _ (by decide) (by decide)]; omega, by rw [lo _ _ (by decide) (by decide)]; omega, by rw [zPt_0]; omega, by rw [zPt_m (by decide)]; exact hQ3⟩
