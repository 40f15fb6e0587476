/-! ===== bounds of what the law adds up ===== -/
section LAWB
variable {Δ : zDl} {ad ad' : zK → Nat} {P : zP} {V : zS} {g p : Int} {F : Int → Int}
theorem zou_b (h : zJ P V) (hg : inG P g) (hp : inQ P g p) : 0 ≤ zou P V g p ∧ zou P V g p ≤ 80 := by
  have hM := h.wp.m (h.wp.g hg) hp
  have hb := sm_bound (f := zou1 V g p) (m := 1) (by omega) _ 0 (P 2 (P 4 g 0) p) hM.1 rfl (fun q _ _ => by unfold zou1; split <;> omega)
  unfold zou
  omega
theorem zco_b (h : zJ P V) (hg : inG P g) (hp : inQ P g p) {x : Int} : 0 ≤ zco P V g x p ∧ zco P V g x p ≤ 80 := by
  have hM := h.wp.m (h.wp.g hg) hp
  have hb := sm_bound (f := fun o => if V (19, g, p, 0) o = x then (1 : Int) else 0) (m := 1) (by omega) _ 0 (P 2 (P 4 g 0) p) hM.1 rfl (fun q _ _ => by show 0 ≤ (if V (19, g, p, 0) q = x then (1 : Int) else 0) ∧ (if V (19, g, p, 0) q = x then (1 : Int) else 0) ≤ 1; split <;> omega)
  unfold zco
  omega
theorem zlag_s (h : zJ P V) (hg : inG P g) {n : Int} (h0 : 0 ≤ n) (hn : n ≤ P 1 (P 4 g 0) 0) : 0 ≤ sm (zlag P V g) 0 n ∧ sm (zlag P V g) 0 n ≤ 80 * (n - 0) := sm_bound (by omega) _ 0 n h0 rfl (fun q q1 q2 => by
  have := zC_lag1 h hg (p := q) ⟨q1, by omega⟩
  omega)
theorem zou_s (h : zJ P V) (hg : inG P g) {n : Int} (h0 : 0 ≤ n) (hn : n ≤ P 1 (P 4 g 0) 0) : 0 ≤ sm (zou P V g) 0 n ∧ sm (zou P V g) 0 n ≤ 80 * (n - 0) := sm_bound (by omega) _ 0 n h0 rfl (fun q q1 q2 => zou_b h hg (p := q) ⟨q1, by omega⟩)
theorem zkp_s (h : zJ P V) (hg : inG P g) : 0 ≤ sm (fun p => ztk P V (P 4 g 0) p) 0 (P 1 (P 4 g 0) 0) ∧ sm (fun p => ztk P V (P 4 g 0) p) 0 (P 1 (P 4 g 0) 0) ≤ 80 * (P 1 (P 4 g 0) 0 - 0) := sm_bound (by omega) _ 0 _ (by have := h.wp.t (h.wp.g hg); omega) rfl (fun q q1 q2 => by
  have := zC_lag1 h hg (p := q) ⟨q1, q2⟩
  show 0 ≤ ztk P V (P 4 g 0) q ∧ ztk P V (P 4 g 0) q ≤ 80
  omega)
theorem zas_s (h : zJ P V) (hg : inG P g) : 0 ≤ sm (fun p => zco P V g 4 p) 0 (P 1 (P 4 g 0) 0) ∧ sm (fun p => zco P V g 4 p) 0 (P 1 (P 4 g 0) 0) ≤ 80 * (P 1 (P 4 g 0) 0 - 0) := sm_bound (by omega) _ 0 _ (by have := h.wp.t (h.wp.g hg); omega) rfl (fun q q1 q2 => zco_b h hg ⟨q1, q2⟩)
theorem zse_0 (h : zJ P V) (hg : inG P g) (hp : inQ P g p) : 0 ≤ zse P V (P 4 g 0) p := by
  have hM := h.wp.m (h.wp.g hg) hp
  exact (fi_le hM.1).1
/-- the law's array is made -/
theorem zA6_n (h : ∀ k : zK, k ≠ (230, 0, 0, 0) → ad' k = ad k) : zup1 (mm Δ ad P V (pm Δ ad P V z00)) (230, 0, 0, 0) (some (.inl (Δ.2.1 0, 6, .inl (zAi F)))) = mm Δ ad' P V (pm Δ ad' P V (zA6 Δ F)) := by
  have hq : ∀ k : zK, k.1 < 224 → ad' k = ad k := fun k hk => h k (fun q => by rw [q] at hk; exact absurd hk (by decide))
  rw [mm_up (by decide), pm_up (by decide), mm_ad (ad' := ad') (ad := ad) (fun k hk => hq k (by omega)), pm_ad (ad' := ad') (ad := ad) hq]
  rfl
/-- and forgotten -/
theorem zA6_d {k : zK} {e : va_E} (hk : mm Δ ad P V (pm Δ ad P V z00) k = some e) : mm Δ ad P V (pm Δ ad P V (zA6 Δ F)) k = some e := by
  by_cases h : k.1 < 80
  · rw [mm_lt _ h] at hk ⊢
    exact hk
  · rw [mm_ge _ h] at hk ⊢
    by_cases h2 : 200 ≤ k.1 ∧ k.1 < 224
    · rw [pm_in _ h2] at hk ⊢
      exact hk
    · rw [pm_out _ h2] at hk
      cases hk
end LAWB
