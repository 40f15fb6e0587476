/-! ===== send: the row more under its names ===== -/
def zrS (t q N : Int) (k : zK) : zK := if k = (203, t, q, 0) then (231, 0, 0, 0) else if k = (204, t, q, N) then (230, 0, 0, 0) else k
theorem zrS_o {t q N : Int} {k : zK} (h1 : k ≠ (203, t, q, 0)) (h2 : k ≠ (204, t, q, N)) : zrS t q N k = k := (if_neg h1).trans (if_neg h2)
theorem zrS_3 {t q N : Int} : zrS t q N (203, t, q, 0) = (231, 0, 0, 0) := if_pos rfl
theorem zrS_4 {t q N : Int} : zrS t q N (204, t, q, N) = (230, 0, 0, 0) := (if_neg (by simp)).trans (if_pos rfl)
section ZSR
variable {Δ : zDl} {ad ad' : zK → Nat} {Q : zP} {D : zS} {X : zMem} {t q x kk v z c : Int}
theorem zpr_sn {t' p o : Int} (hne : ¬ (t' = t ∧ p = q ∧ o = Q 2 t q)) : zpr (zPsd Q t q c) (zSn Q D t q x kk v z) t' p o = zpr Q D t' p o := by
  funext j
  unfold zpr
  rw [zSn_14n hne, zSn_14n hne, zSn_14n hne, zSn_14n hne, zSn_14n hne, zSn_k (by simp), zSn_k (by simp), zSn_k (by simp), zPsd_m (by decide), zPsd_m (by decide)]
/-- all other cells are told as before -/
theorem pm_snd (ha : ∀ k : zK, k ≠ (203, t, q, 0) → k ≠ (204, t, q, Q 2 t q) → k.1 < 230 → ad' k = ad k) {k : zK} (h0 : k ≠ (200, 0, 0, 0)) (h2 : k ≠ (202, t, 0, 0)) (h3 : k ≠ (203, t, q, 0)) (h4 : k ≠ (204, t, q, Q 2 t q)) (h10 : k ≠ (210, t, 0, 0)) {e : va_E} (hk : pm Δ ad' (zPsd Q t q c) (zSn Q D t q x kk v z) X k = some e) : pm Δ ad Q D X k = some e := by
  by_cases hr : 200 ≤ k.1 ∧ k.1 < 224
  · rw [pm_in _ hr] at hk ⊢
    obtain ⟨m, i, j, l⟩ := k
    have hr' : 200 ≤ m ∧ m < 224 := hr
    have q0 : zPsd Q t q c 0 0 0 = Q 0 0 0 := zPsd_m (by decide)
    have q1 : zPsd Q t q c 1 i 0 = Q 1 i 0 := zPsd_m (by decide)
    by_cases m0 : m = 200
    · subst m0
      have hk : pc200 Δ ad' (zPsd Q t q c) (zSn Q D t q x kk v z) i j l = some e := hk
      unfold pc200 at hk
      split at hk
      · next w => exact absurd (by rw [w.1, w.2.1, w.2.2]) h0
      · cases hk
    · by_cases m1 : m = 201
      · subst m1
        have hk : pc201 Δ ad' (zPsd Q t q c) (zSn Q D t q x kk v z) i j l = some e := hk
        show pc201 Δ ad Q D i j l = some e
        unfold pc201 at hk ⊢
        rw [q0] at hk
        have e2 : (fun x : Int => some (ad' (202, x, 0, 0))) = fun x => some (ad (202, x, 0, 0)) := funext fun x => by rw [ha _ (by simp) (by simp) (Nat.le_of_ble_eq_true rfl)]
        rw [e2] at hk
        exact hk
      · by_cases m2 : m = 202
        · subst m2
          have hk : pc202 Δ ad' (zPsd Q t q c) (zSn Q D t q x kk v z) i j l = some e := hk
          show pc202 Δ ad Q D i j l = some e
          unfold pc202 at hk ⊢
          rw [q0, q1] at hk
          split at hk
          · next w =>
            have hne : ¬ i = t := fun e => h2 (by rw [e, w.2.1, w.2.2])
            rw [if_pos w, ← hk]
            have e2 : (fun x : Int => some (ad' (203, i, x, 0))) = fun x => some (ad (203, i, x, 0)) := funext fun x => by rw [ha _ (by simp [hne]) (by simp) (Nat.le_of_ble_eq_true rfl)]
            rw [e2]
          · cases hk
        · by_cases m3 : m = 203
          · subst m3
            have hk : pc203 Δ ad' (zPsd Q t q c) (zSn Q D t q x kk v z) i j l = some e := hk
            show pc203 Δ ad Q D i j l = some e
            unfold pc203 at hk ⊢
            rw [q0, q1, zPsd_2] at hk
            split at hk
            · next w =>
              have hne : ¬ (i = t ∧ j = q) := fun e => h3 (by rw [e.1, e.2, w.2])
              rw [if_neg hne] at hk
              rw [if_pos w, ← hk]
              have e2 : (fun x : Int => some (ad' (204, i, j, x))) = fun x => some (ad (204, i, j, x)) := funext fun x => by rw [ha _ (by simp) (fun e => hne (by simp at e; exact ⟨e.1, e.2.1⟩)) (Nat.le_of_ble_eq_true rfl)]
              rw [e2]
            · cases hk
          · by_cases m4 : m = 204
            · subst m4
              have hk : pc204 Δ ad' (zPsd Q t q c) (zSn Q D t q x kk v z) i j l = some e := hk
              show pc204 Δ ad Q D i j l = some e
              have hne : ¬ (i = t ∧ j = q ∧ l = Q 2 t q) := fun e => h4 (by rw [e.1, e.2.1, e.2.2])
              unfold pc204 at hk ⊢
              rw [q0, q1, zPsd_2, zpr_sn hne] at hk
              by_cases hc : i = t ∧ j = q
              · rw [if_pos hc] at hk
                split at hk
                · next w =>
                  obtain ⟨w1, w2, w3⟩ := w
                  have hl : ¬ l = Q 2 t q := fun e => hne ⟨hc.1, hc.2, e⟩
                  rw [if_pos ⟨w1, w2, by rw [hc.1, hc.2]; omega⟩]
                  exact hk
                · cases hk
              · rw [if_neg hc] at hk
                exact hk
            · have cut : ∀ (ad0 : zK → Nat) (Q0 : zP) (V0 : zS), pcnt Δ ad0 Q0 V0 (m, i, j, l) = pcnt Δ (fun q => if 205 ≤ q.1 ∧ q.1 < 230 then ad0 q else 0) Q V0 (m, i, j, l) := fun ad0 Q0 V0 => by
                unfold pcnt
                refine ite_cg (fun q => absurd q m0) (fun _ => ite_cg (fun q => absurd q m1) (fun _ => ite_cg (fun q => absurd q m2) (fun _ => ite_cg (fun q => absurd q m3) (fun _ => ite_cg (fun q => absurd q m4) (fun _ => ?_)))))
                (iterate 19 refine ite_cg (fun _ => rfl) (fun _ => ?_))
                rfl
              rw [cut] at hk ⊢
              have e2 : (fun q : zK => if 205 ≤ q.1 ∧ q.1 < 230 then ad' q else 0) = fun q => if 205 ≤ q.1 ∧ q.1 < 230 then ad q else 0 := by
                funext y
                by_cases hq : 205 ≤ y.1 ∧ y.1 < 230
                · rw [if_pos hq, if_pos hq]
                  exact ha y (fun z => by rw [z] at hq; simp at hq) (fun z => by rw [z] at hq; simp at hq) hq.2
                · rw [if_neg hq, if_neg hq]
              rw [e2] at hk
              have e3 : pcnt Δ (fun q => if 205 ≤ q.1 ∧ q.1 < 230 then ad q else 0) Q (zSn Q D t q x kk v z) (m, i, j, l) = pcnt Δ (fun q => if 205 ≤ q.1 ∧ q.1 < 230 then ad q else 0) Q D (m, i, j, l) := by
                refine pcnt_V (fun k' f hp => ?_)
                obtain ⟨m', i', j', l'⟩ := k'
                by_cases h210 : m' = 10
                · subst h210
                  refine zSn_n (by simp) (by simp) (fun w => ?_) (by simp)
                  have w1 := w.1
                  simp only [Prod.mk.injEq] at w1
                  have hn : m = 205 ∨ m = 206 ∨ m = 207 ∨ m = 208 ∨ m = 209 ∨ m = 210 ∨ m = 211 ∨ m = 212 ∨ m = 213 ∨ m = 214 ∨ m = 215 ∨ m = 216 ∨ m = 217 ∨ m = 218 ∨ m = 219 ∨ m = 220 ∨ m = 221 ∨ m = 222 ∨ m = 223 := by omega
                  unfold pD at hp
                  dsimp only at hp
                  clear hk cut e2 ha
                  rcases hn with rfl | rfl | rfl | rfl | rfl | rfl | rfl | rfl | rfl | rfl | rfl | rfl | rfl | rfl | rfl | rfl | rfl | rfl | rfl <;> (repeat (first | rw [if_pos rfl] at hp | rw [if_neg (by decide)] at hp)) <;> first | exact hp.elim | (simp only [Prod.mk.injEq] at hp; omega) | (simp only [Prod.mk.injEq] at hp; exact h10 (by rw [← hp.2.2.1, hp.1.1, hp.1.2, w1.2.1]))
                · refine zSn_k ⟨fun w => ?_, h210, fun w => ?_, fun w => ?_⟩ <;>
                  · have w : m' = _ := w
                    have hn : m = 205 ∨ m = 206 ∨ m = 207 ∨ m = 208 ∨ m = 209 ∨ m = 210 ∨ m = 211 ∨ m = 212 ∨ m = 213 ∨ m = 214 ∨ m = 215 ∨ m = 216 ∨ m = 217 ∨ m = 218 ∨ m = 219 ∨ m = 220 ∨ m = 221 ∨ m = 222 ∨ m = 223 := by omega
                    unfold pD at hp
                    dsimp only at hp
                    clear hk cut e2 ha h10 h0 h2 h3 h4
                    rcases hn with rfl | rfl | rfl | rfl | rfl | rfl | rfl | rfl | rfl | rfl | rfl | rfl | rfl | rfl | rfl | rfl | rfl | rfl | rfl <;> (repeat (first | rw [if_pos rfl] at hp | rw [if_neg (by decide)] at hp)) <;> first | exact hp.elim | (simp only [Prod.mk.injEq] at hp; omega)
              rw [e3] at hk
              exact hk
  · rw [pm_out _ hr] at hk ⊢
    exact hk
end ZSR
