/-! ===== the Pier's constructor: one array more, one field more ===== -/
theorem pI_one {S : Nat → Bool} {Δ : zDl} {ad ad' : zK → Nat} {Q : zP} {V : zS} {fs : List Value} {X : zMem} {n : Nat} {e0 : Option va_E} (hn : 201 ≤ n) (hS : S n = false) (hX : ∀ k : zK, 200 ≤ k.1 → X k = none) (hL : ∀ m, S m = true → m + 1 = n → m = 205 ∨ m = 206 ∨ m = 208 ∨ m = 210 ∨ m = 211 ∨ m = 212 ∨ m = 213 ∨ m = 215 ∨ m = 217 ∨ m = 219 ∨ m = 221) (h200 : S 200 = false)
    (h1 : ∀ k : zK, k ≠ (n, 0, 0, 0) → ad' k = ad k) (c0 : ∀ i j l, pcnt Δ ad' Q V (n, i, j, l) = if i = 0 ∧ j = 0 ∧ l = 0 then e0 else none) :
    zup1 (pI S Δ ad Q V fs X) (n, 0, 0, 0) e0 = pI (fun m => m == n || S m) Δ ad' Q V fs X := by
  funext k
  obtain ⟨m, i, j, l⟩ := k
  by_cases hm : m = n
  · subst hm
    unfold pI
    rw [if_neg (fun q => by simp at q; omega), if_pos (by simp), c0]
    by_cases hk : i = 0 ∧ j = 0 ∧ l = 0
    · rw [if_pos hk, hk.1, hk.2.1, hk.2.2, zup1_s]
    · rw [if_neg hk, zup1_n _ _ (fun q => hk (by simpa using q)), if_neg (fun q => by simp at q; omega), if_neg (by show ¬ S m = true; rw [hS]; decide)]
      exact hX _ (by show 200 ≤ m; omega)
  · rw [zup1_n _ _ (fun q => hm (by simp at q; exact q.1))]
    unfold pI
    by_cases hk : (m, i, j, l) = ((200, 0, 0, 0) : zK)
    · rw [if_pos hk, if_pos hk]
    · rw [if_neg hk, if_neg hk]
      by_cases hSm : S m = true
      · rw [if_pos hSm, if_pos (by simp [hSm])]
        by_cases hp : m + 1 = n
        · exact (pcnt_leaf (hL m hSm hp)).symm
        · exact (pcnt_ad (fun q hq => by
            have hq : q.1 = m + 1 := hq
            exact h1 q (fun w => hp (by rw [← hq, w]))) (fun w => by
            have w : m = 200 := w
            rw [w, h200] at hSm
            cases hSm)).symm
      · rw [if_neg hSm, if_neg (by simp [hSm, hm])]
theorem pI_f {S : Nat → Bool} {Δ : zDl} {ad : zK → Nat} {Q : zP} {V : zS} {fs : List Value} {X : zMem} : pI S Δ ad Q V fs X (200, 0, 0, 0) = some (.inr (8, fs)) := if_pos rfl
theorem pI_put {S : Nat → Bool} {Δ : zDl} {ad : zK → Nat} {Q : zP} {V : zS} {fs fs' : List Value} {X : zMem} : zup1 (pI S Δ ad Q V fs X) (200, 0, 0, 0) (some (.inr (8, fs'))) = pI S Δ ad Q V fs' X := by
  funext k
  by_cases hk : k = (200, 0, 0, 0)
  · subst hk
    rw [zup1_s]
    exact (if_pos rfl).symm
  · rw [zup1_n _ _ hk]
    unfold pI
    rw [if_neg hk, if_neg hk]
theorem pI_no {S : Nat → Bool} {Δ : zDl} {ad : zK → Nat} {Q : zP} {V : zS} {fs : List Value} {X : zMem} {k : zK} (h : k ≠ (200, 0, 0, 0)) (hS : S k.1 = false) : pI S Δ ad Q V fs X k = X k := by
  unfold pI
  rw [if_neg h, if_neg (by rw [hS]; decide)]
/-- all made -/
theorem pI_all {S : Nat → Bool} {Δ : zDl} {ad : zK → Nat} {Q : zP} {V : zS} {fs : List Value} {X : zMem} (hX : ∀ k : zK, 200 ≤ k.1 → X k = none) (hf : pcnt Δ ad Q V (200, 0, 0, 0) = some (.inr (8, fs))) (hlo : ∀ m, S m = true → 200 ≤ m ∧ m < 224) (hno : ∀ k : zK, 200 ≤ k.1 ∧ k.1 < 224 → S k.1 = false → k ≠ (200, 0, 0, 0) → pcnt Δ ad Q V k = none) : pI S Δ ad Q V fs X = pm Δ ad Q V X := by
  funext k
  by_cases hr : 200 ≤ k.1 ∧ k.1 < 224
  · rw [pm_in _ hr]
    unfold pI
    by_cases hk : k = (200, 0, 0, 0)
    · rw [if_pos hk, hk, hf]
    · rw [if_neg hk]
      by_cases hS : S k.1 = true
      · rw [if_pos hS]
      · rw [if_neg hS, hX k hr.1, hno k hr (by simpa using hS) hk]
  · rw [pm_out _ hr]
    unfold pI
    rw [if_neg (fun q => hr (by rw [q]; exact ⟨Nat.le_of_ble_eq_true rfl, Nat.le_of_ble_eq_true rfl⟩)), if_neg (fun q => hr (hlo _ q))]
