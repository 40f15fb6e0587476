/-! ===== bounds of the model's answers ===== -/
section MLE
variable {Q : zP} {S : zS}
theorem mgv_le (h : zWM Q S) {g p : Int} : -1 ≤ mgv Q S g p ∧ mgv Q S g p ≤ 79 := by
  unfold mgv
  split
  · have := h.b59 ((Q 4 g 0 * 4 + p) * 80 + fi (mg1 Q S g p) (S (65, 0, 0, 0) (g * 4 + p)) (Q 2 (Q 4 g 0) p)); omega
  · split
    · have := h.b59 ((Q 4 g 0 * 4 + p) * 80 + fi (mg2 Q S g p) (S (66, 0, 0, 0) (g * 4 + p)) (mEn S (Q 4 g 0 * 4 + p))); omega
    · omega
theorem mgt_le (h : zWM Q S) {g r : Int} : -1 ≤ mgt Q S g r ∧ mgt Q S g r ≤ 79 := by
  unfold mgt
  split
  · exact mgv_le h
  · omega
theorem mwn_le (h : zWM Q S) {g r : Int} : -1 ≤ mwn Q S g r ∧ mwn Q S g r ≤ 400 := by
  unfold mwn
  split
  · omega
  · split
    · omega
    · have h1 := h.b52 (mgt Q S g r)
      have h2 := h.b53 (mgt Q S g r)
      unfold mtd
      omega
theorem mnn_le (h : zWM Q S) {g : Int} : -1 ≤ mnn Q S g ∧ mnn Q S g ≤ 30000 := by
  have h1 := h.f1
  have h3 := h.f3
  refine lp_ind (f := mnt Q S g) (fun _ n => -1 ≤ n ∧ n ≤ 30000) _ 0 (S (40, 0, 0, 0) 11) (-1) h.f11.1 rfl ⟨by omega, by omega⟩ (fun m b _ _ hb => ?_)
  have h2 := h.b71 (g * 80 + m)
  have h4 : 0 ≤ mnv S g m ∧ mnv S g m ≤ 30000 := by
    unfold mnv
    split <;> omega
  unfold mnt
  split
  · split <;> omega
  · exact hb
theorem mco_le (h : zWM Q S) {g x : Int} : 0 ≤ mco S g x ∧ mco S g x ≤ 80 := by
  have h1 := h.f11
  have := sm01 (f := fun m => S (69, 0, 0, 0) (g * 80 + m) = x) h1.1
  unfold mco
  omega
theorem mkn_le (h : zWM Q S) {t : Int} : 0 ≤ mkn S t ∧ mkn S t ≤ 80 := by
  have h1 := h.f11
  have := sm01 (f := fun m => mkq S t m) h1.1
  unfold mkn
  omega
theorem msu_le (h : zWM Q S) {g : Int} : 0 ≤ msu S g ∧ msu S g ≤ 240 := by
  have h1 := h.f11
  have := sm_bound (f := fun m => if S (69, 0, 0, 0) (g * 80 + m) = 3 then S (70, 0, 0, 0) (g * 80 + m) else 0) (m := 3) (by omega) _ 0 (S (40, 0, 0, 0) 11) h1.1 rfl (fun m _ _ => by
    have := h.b70 (g * 80 + m)
    show 0 ≤ (if _ then S (70, 0, 0, 0) (g * 80 + m) else 0) ∧ (if _ then S (70, 0, 0, 0) (g * 80 + m) else 0) ≤ 3
    split <;> omega)
  unfold msu
  omega
theorem mlg_le (h : zWM Q S) {g p : Int} : 0 ≤ mlg Q S g p ∧ mlg Q S g p ≤ 80 := by
  have h1 := h.b65 (g * 4 + p)
  have h2 := h.b48 (Q 4 g 0 * 4 + p)
  have h3 : 0 ≤ mEn S (Q 4 g 0 * 4 + p) ∧ mEn S (Q 4 g 0 * 4 + p) ≤ S (48, 0, 0, 0) (Q 4 g 0 * 4 + p) := fi_le h2.1
  unfold mlg
  by_cases hc : S (65, 0, 0, 0) (g * 4 + p) ≤ mEn S (Q 4 g 0 * 4 + p)
  · have := sm01 (f := fun o => mlq Q S g p o) hc
    omega
  · rw [sm_end (by omega)]
    omega
end MLE
