/-! ===== the Pier's constructor: one array of arrays more ===== -/
theorem pcnt_leaf {Δ : zDl} {ad ad' : zK → Nat} {Q : zP} {V : zS} {k : zK} (h : k.1 = 205 ∨ k.1 = 206 ∨ k.1 = 208 ∨ k.1 = 210 ∨ k.1 = 211 ∨ k.1 = 212 ∨ k.1 = 213 ∨ k.1 = 215 ∨ k.1 = 217 ∨ k.1 = 219 ∨ k.1 = 221) : pcnt Δ ad' Q V k = pcnt Δ ad Q V k := by
  obtain ⟨m, i, j, l⟩ := k
  have h : m = 205 ∨ m = 206 ∨ m = 208 ∨ m = 210 ∨ m = 211 ∨ m = 212 ∨ m = 213 ∨ m = 215 ∨ m = 217 ∨ m = 219 ∨ m = 221 := h
  rcases h with rfl | rfl | rfl | rfl | rfl | rfl | rfl | rfl | rfl | rfl | rfl <;> rfl
theorem pI_mul {S : Nat → Bool} {Δ : zDl} {ad ad' : zK → Nat} {Q : zP} {V : zS} {fs : List Value} {X M2 : zMem} {n : Nat} {e0 e1 : Option va_E} (hn : 201 ≤ n) (hS : S n = false ∧ S (n + 1) = false) (hX : ∀ k : zK, 200 ≤ k.1 → X k = none) (hL : ∀ m, S m = true → m + 1 = n → m = 205 ∨ m = 206 ∨ m = 208 ∨ m = 210 ∨ m = 211 ∨ m = 212 ∨ m = 213 ∨ m = 215 ∨ m = 217 ∨ m = 219 ∨ m = 221) (h200 : S 200 = false)
    (h1 : ∀ k : zK, k ≠ (n, 0, 0, 0) → (∀ j : Int, 0 ≤ j → j < 4 → k ≠ (n + 1, j, 0, 0)) → ad' k = ad k ∧ M2 k = pI S Δ ad Q V fs X k) (h2 : M2 (n, 0, 0, 0) = e0) (h3 : ∀ j : Int, 0 ≤ j → j < 4 → M2 (n + 1, j, 0, 0) = e1)
    (c0 : ∀ i j l, pcnt Δ ad' Q V (n, i, j, l) = if i = 0 ∧ j = 0 ∧ l = 0 then e0 else none) (c1 : ∀ i j l, pcnt Δ ad' Q V (n + 1, i, j, l) = if (0 ≤ i ∧ i < 4) ∧ j = 0 ∧ l = 0 then e1 else none) :
    M2 = pI (fun m => m == n || (m == n + 1 || S m)) Δ ad' Q V fs X := by
  funext k
  obtain ⟨m, i, j, l⟩ := k
  unfold pI at h1 ⊢
  by_cases hm : m = n
  · subst hm
    rw [if_neg (fun q => by simp at q; omega), if_pos (by simp), c0]
    by_cases hk : i = 0 ∧ j = 0 ∧ l = 0
    · rw [if_pos hk, hk.1, hk.2.1, hk.2.2, h2]
    · rw [if_neg hk, (h1 (m, i, j, l) (fun q => hk (by simpa using q)) (fun y _ _ q => by simp at q)).2, if_neg (fun q => by simp at q; omega), if_neg (by show ¬ S m = true; rw [hS.1]; decide)]
      exact hX _ (by show 200 ≤ m; omega)
  · by_cases hm1 : m = n + 1
    · subst hm1
      rw [if_neg (fun q => by simp at q; omega), if_pos (by simp), c1]
      by_cases hk : (0 ≤ i ∧ i < 4) ∧ j = 0 ∧ l = 0
      · rw [if_pos hk, hk.2.1, hk.2.2, h3 i hk.1.1 hk.1.2]
      · rw [if_neg hk, (h1 (n + 1, i, j, l) (fun q => by simp at q) (fun y y1 y2 q => hk (by simp at q; exact ⟨by omega, q.2⟩))).2, if_neg (fun q => by simp at q; omega), if_neg (by show ¬ S (n + 1) = true; rw [hS.2]; decide)]
        exact hX _ (by show 200 ≤ n + 1; omega)
    · rw [(h1 (m, i, j, l) (fun q => hm (by simp at q; exact q.1)) (fun y _ _ q => hm1 (by simp at q; exact q.1))).2]
      by_cases hk : (m, i, j, l) = ((200, 0, 0, 0) : zK)
      · rw [if_pos hk, if_pos hk]
      · rw [if_neg hk, if_neg hk]
        by_cases hSm : S m = true
        · rw [if_pos hSm, if_pos (by simp [hSm])]
          by_cases hp : m + 1 = n
          · exact (pcnt_leaf (hL m hSm hp)).symm
          · exact (pcnt_ad (fun q hq => by
              have hq : q.1 = m + 1 := hq
              exact (h1 q (fun w => hp (by rw [← hq, w])) (fun y _ _ w => hm (by rw [w] at hq; have : n + 1 = m + 1 := hq; omega))).1) (fun w => by
              have w : m = 200 := w
              rw [w, h200] at hSm
              cases hSm)).symm
        · rw [if_neg hSm, if_neg (by simp [hSm, hm, hm1])]
