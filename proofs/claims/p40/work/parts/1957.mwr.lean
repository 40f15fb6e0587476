theorem mwr_fr {K : Nat → Bool} {S : zS} (h40 : K 40 = true) (h73 : K 73 = true) {a g m : Int} : zfr K S (mwr S a g m) := by
  unfold mwr
  split
  · exact zfr.rf
  · exact (((((zfr.rf.st h73).st h73).st h73).st h73).st h73).st h40
theorem mwr_40 {S : zS} {a g m f : Int} (h : f ≠ 32) : mwr S a g m (40, 0, 0, 0) f = S (40, 0, 0, 0) f := by
  unfold mwr
  split
  · rfl
  · rw [zst_f _ _ _ h, zst_k _ _ _ _ (by simp), zst_k _ _ _ _ (by simp), zst_k _ _ _ _ (by simp), zst_k _ _ _ _ (by simp), zst_k _ _ _ _ (by simp)]
theorem mwr_70 {S : zS} {a g m f : Int} : mwr S a g m (70, 0, 0, 0) f = S (70, 0, 0, 0) f := mwr_fr (K := fun n => n == 40 || n == 73) rfl rfl _ _ rfl
theorem mnr_le {Q : zP} {S : zS} (h : zWM Q S) {g m : Int} : -1 ≤ mnr S g m ∧ mnr S g m ≤ 20000 := by
  have h4 := h.f1
  have h5 := h.f2
  unfold mnr
  split
  · omega
  · unfold zsh
    split <;> omega
theorem mdr_47 {Q : zP} {S : zS} {m i : Int} : mdr Q S m (47, 0, 0, 0) i = S (47, 0, 0, 0) i := mdr_fr (K := fun n => n == 58 || n == 69 || n == 70) rfl rfl rfl _ _ rfl
theorem mdo_W {Q : zP} {t p y : Int} : ∀ (n : Nat) (S : zS), zWM Q S → 0 ≤ t ∧ t < Q 0 0 0 → 0 ≤ p ∧ p < Q 1 t 0 → zWM Q (mdo Q t p y n S) := by
  intro n
  induction n with
  | zero => exact fun S h _ _ => h
  | succ n ih =>
    intro S h ht hp
    by_cases hc : mdc Q t p y S
    · rw [mdo_go n hc]
      have h1 := hc.1.2
      have h2 := h.qm ht hp
      exact ih _ (mdd_W h (by omega)) ht hp
    · rw [mdo_stop _ hc]
      exact h
theorem mcl_W {Q : zP} {S : zS} (h : zWM Q S) {b t m : Int} (ht : 0 ≤ t ∧ t < Q 0 0 0) : zWM Q (mcl Q b t (S, m)).1 := by
  have hq := h.qt ht
  exact lp_ind (f := mcw Q b) (fun _ s => zWM Q s.1) _ (t * 4) (t * 4 + Q 1 t 0) (S, m) (by omega) rfl h (fun o s _ _ hs => mcw_W hs)
theorem zup01 {F : Int → Int} (h : ∀ j, F j = 0 ∨ F j = 1) {a : Int} (j : Int) : zup F a 1 j = 0 ∨ zup F a 1 j = 1 := by
  show (if j = a then (1 : Int) else F j) = 0 ∨ (if j = a then (1 : Int) else F j) = 1
  split
  · exact Or.inr rfl
  · exact h j
theorem msn_lt {S : zS} {g r k : Int} (hr : 0 ≤ r ∧ r < 6) (hne : ¬ S (68, 0, 0, 0) (g * 6 + r) = 0) (h : k + sm (fun r => if S (68, 0, 0, 0) (g * 6 + r) = 0 then 0 else 1) r 6 = msn S g) : k + 1 + sm (fun r => if S (68, 0, 0, 0) (g * 6 + r) = 0 then 0 else 1) (r + 1) 6 = msn S g ∧ k < msn S g := by
  rw [sm_step (by omega), if_neg hne] at h
  have h2 := sm_bound (f := fun r => if S (68, 0, 0, 0) (g * 6 + r) = 0 then 0 else 1) (m := 1) (by omega) _ (r + 1) 6 (by omega) rfl (fun o _ _ => by
    show 0 ≤ (if _ then (0 : Int) else 1) ∧ (if _ then (0 : Int) else 1) ≤ 1
    split <;> omega)
  omega
theorem msn_eq {S : zS} {g r k : Int} (hr : 0 ≤ r ∧ r < 6) (hne : S (68, 0, 0, 0) (g * 6 + r) = 0) (h : k + sm (fun r => if S (68, 0, 0, 0) (g * 6 + r) = 0 then 0 else 1) r 6 = msn S g) : k + sm (fun r => if S (68, 0, 0, 0) (g * 6 + r) = 0 then 0 else 1) (r + 1) 6 = msn S g := by
  rw [sm_step (by omega), if_pos hne] at h
  omega
def zPs (Δ : zDl) (ad : zK → Nat) (P : zP) (S : zS) (X : zMem) (F : Int → Int) : zPo := fun v ad' M' => v = some (.ref (ad' (90, 0, 0, 0))) ∧ (∀ k, k ≠ (90, 0, 0, 0) → ad' k = ad k) ∧ M' = mm Δ ad' P S (zTm X (Δ.2.1 0) 4 F)
theorem mod0 {N m : Int} (h : 0 ≤ N) : 0 ≤ N % m := by
  by_cases h0 : m = 0
  · rw [h0, Int.emod_zero]; exact h
  · exact Int.emod_nonneg _ h0
