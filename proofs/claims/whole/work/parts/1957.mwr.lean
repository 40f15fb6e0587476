theorem mwr_fr {K : Nat → Bool} {S : zS} (h40 : K 40 = true) (h73 : K 73 = true) {a g m : Int} : zfr K S (mwr S a g m) := by
  unfold mwr
  split
  · exact zfr.rf
  · exact (((((zfr.rf.st h73).st h73).st h73).st h73).st h73).st h40
theorem mwr_40 {S : zS} {a g m f : Int} (h : f ≠ 32) : mwr S a g m (40, 0, 0, 0) f = S (40, 0, 0, 0) f := by
  unfold mwr
  split
  · rfl
  · rw [zst_f _ _ _ h, zst_k _ _ _ _ (by simp), zst_k _ _ _ _ (by simp), zst_k _ _ _ _ (by simp), zst_k _ _ _ _ (by simp), zst_k _ _ _ _ (by simp)]
theorem mwr_70 {S : zS} {a g m f : Int} : mwr S a g m (70, 0, 0, 0) f = S (70, 0, 0, 0) f := mwr_fr (K := fun n => n == 40 || n == 73) rfl rfl _ _ rfl
theorem mnr_le {Q : zP} {S : zS} (h : zWM Q S) {g m : Int} : -1 ≤ mnr S g m ∧ mnr S g m ≤ 20000 := by
  have h4 := h.f1
  have h5 := h.f2
  unfold mnr
  split
  · omega
  · unfold zsh
    split <;> omega
theorem mdr_47 {Q : zP} {S : zS} {m i : Int} : mdr Q S m (47, 0, 0, 0) i = S (47, 0, 0, 0) i := mdr_fr (K := fun n => n == 58 || n == 69 || n == 70) rfl rfl rfl _ _ rfl
theorem mdo_W {Q : zP} {t p y : Int} : ∀ (n : Nat) (S : zS), zWM Q S → 0 ≤ t ∧ t < Q 0 0 0 → 0 ≤ p ∧ p < Q 1 t 0 → zWM Q (mdo Q t p y n S) := by
  intro n
  induction n with
  | zero => exact fun S h _ _ => h
  | succ n ih =>
    intro S h ht hp
    by_cases hc : mdc Q t p y S
    · rw [mdo_go n hc]
      have h1 := hc.1.2
      have h2 := h.qm ht hp
      exact ih _ (mdd_W h (by omega)) ht hp
    · rw [mdo_stop _ hc]
      exact h
