/-! ===== dropping; the clock ===== -/
def dS (k : zK) (f : Int) : Bool := k.1 == 14 && f == 5
def dM (k : zK) (_ : Int) : Bool := k.1 == 58 || (k.1 == 69 || k.1 == 70)
section DROP
variable {P : zP} {S M : zS}
theorem mdr_at {m : Int} (hq : 0 ≤ P 3 0 0) : (∀ f, mdr P M m (58, 0, 0, 0) f = if f = m then 1 else M (58, 0, 0, 0) f) ∧ fr dM M (mdr P M m) ∧ (∀ f, (∀ g, 0 ≤ g → g < P 3 0 0 → f ≠ g * 80 + m) → mdr P M m (69, 0, 0, 0) f = M (69, 0, 0, 0) f ∧ mdr P M m (70, 0, 0, 0) f = M (70, 0, 0, 0) f) ∧ ∀ g, 0 ≤ g → g < P 3 0 0 → mdr P M m (69, 0, 0, 0) (g * 80 + m) = (if mu M (g * 80 + m) then 0 else M (69, 0, 0, 0) (g * 80 + m)) ∧ mdr P M m (70, 0, 0, 0) (g * 80 + m) = if mu M (g * 80 + m) then 0 else M (70, 0, 0, 0) (g * 80 + m) := by
  refine lp_ind (f := md1 m) (fun c s => (∀ f, s (58, 0, 0, 0) f = if f = m then 1 else M (58, 0, 0, 0) f) ∧ fr dM M s ∧ (∀ f, (∀ g, 0 ≤ g → g < c → f ≠ g * 80 + m) → s (69, 0, 0, 0) f = M (69, 0, 0, 0) f ∧ s (70, 0, 0, 0) f = M (70, 0, 0, 0) f) ∧ ∀ g, 0 ≤ g → g < c → s (69, 0, 0, 0) (g * 80 + m) = (if mu M (g * 80 + m) then 0 else M (69, 0, 0, 0) (g * 80 + m)) ∧ s (70, 0, 0, 0) (g * 80 + m) = if mu M (g * 80 + m) then 0 else M (70, 0, 0, 0) (g * 80 + m)) _ 0 (P 3 0 0) _ hq rfl ⟨fun f => ?_, fr.rf.st rfl, fun f _ => ⟨zst_k _ _ _ _ (by simp), zst_k _ _ _ _ (by simp)⟩, fun g h1 h2 => by omega⟩ (fun c s h1 h2 hs => ?_)
  · rw [zst_at]
    by_cases hf : f = m
    · rw [if_pos ⟨rfl, hf⟩, if_pos hf]
    · rw [if_neg (fun q => hf q.2), if_neg hf]
  · obtain ⟨i1, i2, i3, i4⟩ := hs
    have e0 := i3 (c * 80 + m) (fun g g1 g2 => by omega)
    have hmu : mu s (c * 80 + m) ↔ mu M (c * 80 + m) := by
      show (s (69, 0, 0, 0) _ = 1 ∨ s (69, 0, 0, 0) _ = 2) ↔ _
      rw [e0.1]
    unfold md1
    by_cases hc : mu M (c * 80 + m)
    · rw [if_pos (hmu.mpr hc)]
      have m69 : ∀ f, mfg s c m (69, 0, 0, 0) f = if f = c * 80 + m then 0 else s (69, 0, 0, 0) f := fun f => by
        unfold mfg
        rw [zst_k _ _ _ _ (by simp), zst_at]
        by_cases hf : f = c * 80 + m
        · rw [if_pos ⟨rfl, hf⟩, if_pos hf]
        · rw [if_neg (fun q => hf q.2), if_neg hf]
      have m70 : ∀ f, mfg s c m (70, 0, 0, 0) f = if f = c * 80 + m then 0 else s (70, 0, 0, 0) f := fun f => by
        unfold mfg
        rw [zst_at]
        by_cases hf : f = c * 80 + m
        · rw [if_pos ⟨rfl, hf⟩, if_pos hf]
        · rw [if_neg (fun q => hf q.2), if_neg hf, zst_k _ _ _ _ (by simp)]
      refine ⟨fun f => ?_, i2.tr ((fr.rf.st rfl).st rfl), fun f hf => ?_, fun g g1 g2 => ?_⟩
      · rw [← i1 f]
        unfold mfg
        rw [zst_k _ _ _ _ (by simp), zst_k _ _ _ _ (by simp)]
      · rw [m69, m70, if_neg (hf c h1 (by omega)), if_neg (hf c h1 (by omega))]
        exact i3 f (fun g g1 g2 => hf g g1 (by omega))
      · rw [m69, m70]
        by_cases hg : g = c
        · subst hg
          rw [if_pos rfl, if_pos rfl, if_pos hc, if_pos hc]
          exact ⟨rfl, rfl⟩
        · rw [if_neg (show ¬ g * 80 + m = c * 80 + m by omega), if_neg (show ¬ g * 80 + m = c * 80 + m by omega)]
          exact i4 g g1 (by omega)
    · rw [if_neg (fun q => hc (hmu.mp q))]
      refine ⟨i1, i2, fun f hf => i3 f (fun g g1 g2 => hf g g1 (by omega)), fun g g1 g2 => ?_⟩
      by_cases hg : g = c
      · subst hg
        rw [if_neg hc, if_neg hc]
        exact e0
      · exact i4 g g1 (by omega)
/-- a message is dropped, in both -/
theorem r_dr (h : xX P S M) (hV : zWM P M) {t p o m : Int} (ht : inT P t) (hp : inP P t p) (ho : inM P t p o) (hm : m = mi M t p o) : xX P (zst S (14, t, p, o) 5 1) (mdr P M m) := by
  obtain ⟨⟨⟨a1, a2, a3, a4⟩, a5, a6, a7, a8⟩, a9, b1, b2, b3, b4, b5⟩ := h
  have hq := hV.q
  have hf := hV.f11
  obtain ⟨d1, d2, d3, d4⟩ := mdr_at (P := P) (M := M) (m := m) hq.1.2.1
  have hc0 := (a3 t p o ht hp ho).1
  rw [← hm] at hc0
  have hS : fr dS S (zst S (14, t, p, o) 5 1) := fr.rf.st rfl
  have h59 : ∀ t p o, mi (mdr P M m) t p o = mi M t p o := fun t p o => d2 _ _ rfl
  have h57 : ∀ f, mS (mdr P M m) f = mS M f := fun f => by
    unfold mS
    rw [d2 (57, 0, 0, 0) f rfl, d2 (61, 0, 0, 0) _ rfl]
  have h14 : ∀ t' p' o' f, f ≠ 5 → zst S (14, t, p, o) 5 1 (14, t', p', o') f = S (14, t', p', o') f := fun t' p' o' f hf => by rw [zst_at, if_neg (fun q => hf q.2)]
  have h145 : ∀ t' p' o', ¬ (t' = t ∧ p' = p ∧ o' = o) → zst S (14, t, p, o) 5 1 (14, t', p', o') 5 = S (14, t', p', o') 5 := fun t' p' o' hne => by
    rw [zst_at, if_neg (fun q => hne (by have := q.1; cases this; exact ⟨rfl, rfl, rfl⟩))]
  have hinj : ∀ t' p' o', inT P t' → inP P t' p' → inM P t' p' o' → mi M t' p' o' = m → t' = t ∧ p' = p ∧ o' = o := fun t' p' o' g1 g2 g3 e => mi_inj a3 ⟨g1, g2, g3⟩ ⟨ht, hp, ho⟩ hV (by rw [e, hm])
  refine ⟨⟨⟨?_, ?_, fun t' p' o' g1 g2 g3 => ?_, ?_⟩, ?_, ?_, ?_, ?_⟩, ?_, fun g' p' o' g1 g2 g3 => ?_, fun g' t' p' o' g1 g2 g3 g4 g5 => ?_, fun g' m' g1 g2 g3 g4 g5 => ?_, ?_, fun k hk => ?_⟩
  · show rA (rz dS (zst S (14, t, p, o) 5 1)) (rz dM (mdr P M m))
    rw [rz_eq hS, rz_eq d2]
    exact a1
  · show rB P (rz dS (zst S (14, t, p, o) 5 1)) (rz dM (mdr P M m))
    rw [rz_eq hS, rz_eq d2]
    exact a2
  · obtain ⟨c1, c2, c3, c4, c5, c6, c7, c8⟩ := a3 t' p' o' g1 g2 g3
    rw [h59, h57, d2 (40, 0, 0, 0) _ rfl, d2 (52, 0, 0, 0) _ rfl, d2 (53, 0, 0, 0) _ rfl, d2 (54, 0, 0, 0) _ rfl, d2 (55, 0, 0, 0) _ rfl, d2 (56, 0, 0, 0) _ rfl, d1, h14 _ _ _ 0 (by decide), h14 _ _ _ 1 (by decide), h14 _ _ _ 2 (by decide), h14 _ _ _ 4 (by decide)]
    refine ⟨c1, c2, c3, c4, c5, c6, c7, ?_⟩
    by_cases hc : t' = t ∧ p' = p ∧ o' = o
    · obtain ⟨rfl, rfl, rfl⟩ := hc
      rw [if_pos hm.symm, zst_s]
    · rw [if_neg (fun e => hc (hinj t' p' o' g1 g2 g3 e)), h145 _ _ _ hc, c8]
  · show rT P (rz dS (zst S (14, t, p, o) 5 1)) (rz dM (mdr P M m))
    rw [rz_eq hS, rz_eq d2]
    exact a4
  · show rD (rz dS (zst S (14, t, p, o) 5 1)) (rz dM (mdr P M m))
    rw [rz_eq hS, rz_eq d2]
    exact a5
  · show rE P (rz dM (mdr P M m))
    rw [rz_eq d2]
    exact a6
  · show rG P (rz dS (zst S (14, t, p, o) 5 1)) (rz dM (mdr P M m))
    rw [rz_eq hS, rz_eq d2]
    exact a7
  · obtain ⟨e1, e2, e3⟩ := a8
    refine ⟨fun t' g1 g2 => ?_, fun g' r g1 g2 g3 g4 => by rw [d2 (68, 0, 0, 0) _ rfl]; exact e2 g' r g1 g2 g3 g4, fun m' g1 g2 => ?_⟩
    · obtain ⟨f1, f2, f3⟩ := e1 t' g1 g2
      refine ⟨by rw [d2 (46, 0, 0, 0) _ rfl]; exact f1, fun p' k1 k2 => by rw [d2 (47, 0, 0, 0) _ rfl, d2 (48, 0, 0, 0) _ rfl]; exact f2 p' k1 k2, fun x k1 k2 => by rw [d2 (49, 0, 0, 0) _ rfl]; exact f3 x k1 k2⟩
    · rw [d2 (40, 0, 0, 0) _ rfl] at g1
      rw [d1, if_neg (by omega)]
      exact e3 m' g1 g2
  · show rF P (rz dS (zst S (14, t, p, o) 5 1)) (rz dM (mdr P M m))
    rw [rz_eq hS, rz_eq d2]
    exact a9
  · have hT := hV.qg g1
    obtain ⟨k1, k2, k3⟩ := b1 g' p' o' g1 g2 g3
    show mdr P M m (69, 0, 0, 0) (g' * 80 + mi (mdr P M m) (P 4 g' 0) p' o') = (if ¬ zst S (14, t, p, o) 5 1 (14, P 4 g' 0, p', o') 5 = 0 ∧ (zst S (14, t, p, o) 5 1 (19, g', p', 0) o' = 1 ∨ zst S (14, t, p, o) 5 1 (19, g', p', 0) o' = 2) then 0 else zst S (14, t, p, o) 5 1 (19, g', p', 0) o') ∧ mdr P M m (70, 0, 0, 0) (g' * 80 + mi (mdr P M m) (P 4 g' 0) p' o') = (if ¬ zst S (14, t, p, o) 5 1 (14, P 4 g' 0, p', o') 5 = 0 ∧ (zst S (14, t, p, o) 5 1 (19, g', p', 0) o' = 1 ∨ zst S (14, t, p, o) 5 1 (19, g', p', 0) o' = 2) then 0 else zst S (14, t, p, o) 5 1 (20, g', p', 0) o') ∧ mdr P M m (71, 0, 0, 0) (g' * 80 + mi (mdr P M m) (P 4 g' 0) p' o') = zst S (14, t, p, o) 5 1 (21, g', p', 0) o'
    rw [h59, d2 (71, 0, 0, 0) _ rfl, hS (19, g', p', 0) o' rfl, hS (20, g', p', 0) o' rfl, hS (21, g', p', 0) o' rfl]
    have hc1 := (a3 (P 4 g' 0) p' o' hT g2 g3).1
    by_cases hc : P 4 g' 0 = t ∧ p' = p ∧ o' = o
    · have hmm : mi M (P 4 g' 0) p' o' = m := by rw [hc.1, hc.2.1, hc.2.2, hm]
      have z5 : zst S (14, t, p, o) 5 1 (14, P 4 g' 0, p', o') 5 = 1 := by rw [hc.1, hc.2.1, hc.2.2, zst_s]
      rw [hmm] at k1 k2 k3 ⊢
      rw [z5, (d4 g' g1.1 g1.2).1, (d4 g' g1.1 g1.2).2]
      refine ⟨?_, ?_, k3⟩
      · by_cases hj : ju S g' p' o'
        · rw [if_pos (⟨by omega, hj⟩ : ¬ (1 : Int) = 0 ∧ (S (19, g', p', 0) o' = 1 ∨ S (19, g', p', 0) o' = 2))]
          by_cases hmu : mu M (g' * 80 + m)
          · rw [if_pos hmu]
          · rw [if_neg hmu]
            by_cases hd : ¬ S (14, P 4 g' 0, p', o') 5 = 0 ∧ ju S g' p' o'
            · rw [if_pos hd] at k1
              exact k1
            · rw [if_neg hd] at k1
              exact absurd (show M (69, 0, 0, 0) (g' * 80 + m) = 1 ∨ M (69, 0, 0, 0) (g' * 80 + m) = 2 by rw [k1]; exact hj) hmu
        · rw [if_neg (fun q : ¬ (1 : Int) = 0 ∧ (S (19, g', p', 0) o' = 1 ∨ S (19, g', p', 0) o' = 2) => hj q.2)]
          rw [if_neg (fun q : ¬ S (14, P 4 g' 0, p', o') 5 = 0 ∧ ju S g' p' o' => hj q.2)] at k1
          rw [if_neg (fun q : mu M (g' * 80 + m) => hj (by
            have q2 : M (69, 0, 0, 0) (g' * 80 + m) = 1 ∨ M (69, 0, 0, 0) (g' * 80 + m) = 2 := q
            rw [k1] at q2
            exact q2)), k1]
      · by_cases hj : ju S g' p' o'
        · rw [if_pos (⟨by omega, hj⟩ : ¬ (1 : Int) = 0 ∧ (S (19, g', p', 0) o' = 1 ∨ S (19, g', p', 0) o' = 2))]
          by_cases hmu : mu M (g' * 80 + m)
          · rw [if_pos hmu]
          · rw [if_neg hmu]
            by_cases hd : ¬ S (14, P 4 g' 0, p', o') 5 = 0 ∧ ju S g' p' o'
            · rw [if_pos hd] at k2
              exact k2
            · rw [if_neg hd] at k1
              exact absurd (show M (69, 0, 0, 0) (g' * 80 + m) = 1 ∨ M (69, 0, 0, 0) (g' * 80 + m) = 2 by rw [k1]; exact hj) hmu
        · rw [if_neg (fun q : ¬ (1 : Int) = 0 ∧ (S (19, g', p', 0) o' = 1 ∨ S (19, g', p', 0) o' = 2) => hj q.2)]
          rw [if_neg (fun q : ¬ S (14, P 4 g' 0, p', o') 5 = 0 ∧ ju S g' p' o' => hj q.2)] at k1 k2
          rw [if_neg (fun q : mu M (g' * 80 + m) => hj (by
            have q2 : M (69, 0, 0, 0) (g' * 80 + m) = 1 ∨ M (69, 0, 0, 0) (g' * 80 + m) = 2 := q
            rw [k1] at q2
            exact q2)), k2]
    · rw [h145 _ _ _ hc]
      have hne : mi M (P 4 g' 0) p' o' ≠ m := fun e => hc (hinj _ p' o' hT g2 g3 e)
      obtain ⟨e1, e2⟩ := d3 (g' * 80 + mi M (P 4 g' 0) p' o') (fun g h1 h2 q => hne (by omega))
      rw [e1, e2]
      exact ⟨k1, k2, k3⟩
  · have hc1 := (a3 t' p' o' g2 g4 g5).1
    show mdr P M m (69, 0, 0, 0) (g' * 80 + mi (mdr P M m) t' p' o') = 0
    rw [h59]
    have h0 := b2 g' t' p' o' g1 g2 g3 g4 g5
    by_cases hc : mi M t' p' o' = m
    · rw [hc] at h0 ⊢
      rw [(d4 g' g1.1 g1.2).1]
      split
      · rfl
      · exact h0
    · rw [(d3 (g' * 80 + mi M t' p' o') (fun g h1 h2 q => hc (by omega))).1]
      exact h0
  · rw [d2 (40, 0, 0, 0) _ rfl] at g5
    obtain ⟨e1, e2⟩ := d3 (g' * 80 + m') (fun g h1 h2 q => by omega)
    rw [e1, e2, d2 (71, 0, 0, 0) _ rfl]
    exact b3 g' m' g1 g2 g3 g4 g5
  · show rK P (rz dS (zst S (14, t, p, o) 5 1))
    rw [rz_eq hS]
    exact b4
  · by_cases hx : ∀ g, 0 ≤ g → g < P 3 0 0 → k ≠ g * 80 + m
    · obtain ⟨e1, e2⟩ := d3 k hx
      rw [e1] at hk
      rw [e2]
      exact b5 k hk
    · have : ∃ g, (0 ≤ g ∧ g < P 3 0 0) ∧ k = g * 80 + m := Classical.byContradiction fun q => hx (fun g h1 h2 e => q ⟨g, ⟨h1, h2⟩, e⟩)
      obtain ⟨g, ⟨h1, h2⟩, rfl⟩ := this
      obtain ⟨e1, e2⟩ := d4 g h1 h2
      rw [e1] at hk
      rw [e2]
      by_cases hmu : mu M (g * 80 + m)
      · rw [if_pos hmu] at hk
        omega
      · rw [if_neg hmu] at hk ⊢
        exact b5 _ hk
/-- a start goes on, in both -/
theorem r_st (h : xX P S M) (hV : zWM P M) {t p v : Int} (ht : inT P t) (hp : inP P t p) : xX P (zst S (11, t, p, 0) 1 v) (zst M (47, 0, 0, 0) (t * 4 + p) v) := by
  obtain ⟨⟨⟨a1, a2, a3, a4⟩, a5, a6, a7, a8⟩, a9, a10⟩ := h
  have hS : zfr (fun n => n == 11) S (zst S (11, t, p, 0) 1 v) := zfr.rf.st rfl
  have hM : zfr (fun n => n == 47) M (zst M (47, 0, 0, 0) (t * 4 + p) v) := zfr.rf.st rfl
  have hq := hV.qt ht
  refine ⟨⟨⟨?_, fun t' g1 => ?_, ?_, ?_⟩, ?_, ?_, ?_, ?_⟩, xf_fr (zfr.rf.st rfl) (zfr.rf.st rfl) a9, xh_fr (zfr.rf.st rfl) (fr.rf.st rfl) a10⟩
  · show rA (rq (fun n => n == 11) (zst S (11, t, p, 0) 1 v)) (rq (fun n => n == 47) (zst M (47, 0, 0, 0) (t * 4 + p) v))
    rw [rq_eq hS, rq_eq hM]
    exact a1
  · obtain ⟨c1, c2, c3, c4⟩ := a2 t' g1
    have hq' := hV.qt g1
    refine ⟨by rw [hS _ _ rfl, hM _ _ rfl]; exact c1, by rw [hS _ _ rfl, hM _ _ rfl]; exact c2, fun x h1 h2 => by rw [hS _ _ rfl, hM _ _ rfl]; exact c3 x h1 h2, fun p' h1 => ?_⟩
    by_cases hc : t' = t ∧ p' = p
    · obtain ⟨rfl, rfl⟩ := hc
      rw [zst_s, zst_s]
    · rw [zst_at, if_neg (fun q => hc (by have := q.2; exact ⟨by omega, by omega⟩)), zst_k _ _ _ _ (fun q => hc (by cases q; exact ⟨rfl, rfl⟩))]
      exact c4 p' h1
  · show rC P (rq (fun n => n == 11) (zst S (11, t, p, 0) 1 v)) (rq (fun n => n == 47) (zst M (47, 0, 0, 0) (t * 4 + p) v))
    rw [rq_eq hS, rq_eq hM]
    exact a3
  · show rT P (rq (fun n => n == 11) (zst S (11, t, p, 0) 1 v)) (rq (fun n => n == 47) (zst M (47, 0, 0, 0) (t * 4 + p) v))
    rw [rq_eq hS, rq_eq hM]
    exact a4
  · show rD (rq (fun n => n == 11) (zst S (11, t, p, 0) 1 v)) (rq (fun n => n == 47) (zst M (47, 0, 0, 0) (t * 4 + p) v))
    rw [rq_eq hS, rq_eq hM]
    exact a5
  · show rE P (rq (fun n => n == 47) (zst M (47, 0, 0, 0) (t * 4 + p) v))
    rw [rq_eq hM]
    exact a6
  · show rG P (rq (fun n => n == 11) (zst S (11, t, p, 0) 1 v)) (rq (fun n => n == 47) (zst M (47, 0, 0, 0) (t * 4 + p) v))
    rw [rq_eq hS, rq_eq hM]
    exact a7
  · obtain ⟨e1, e2, e3⟩ := a8
    have ht2 := ht.2
    refine ⟨fun t' g1 g2 => ?_, fun g' r g1 g2 g3 g4 => by rw [hM _ _ rfl]; exact e2 g' r g1 g2 g3 g4, fun m' g1 g2 => by rw [hM (40, 0, 0, 0) _ rfl] at g1; rw [hM _ _ rfl]; exact e3 m' g1 g2⟩
    obtain ⟨f1, f2, f3⟩ := e1 t' g1 g2
    refine ⟨by rw [hM _ _ rfl]; exact f1, fun p' k1 k2 => ?_, fun x k1 k2 => by rw [hM _ _ rfl]; exact f3 x k1 k2⟩
    rw [hM (48, 0, 0, 0) _ rfl, zst_at, if_neg (fun q => by have := q.2; omega)]
    exact f2 p' k1 k2
/-- old ones are dropped, in both -/
theorem r_do {t p x y : Int} (ht : inT P t) (hp : inP P t p) (hy : 0 < y) : ∀ (n : Nat) (S M : zS), xX P S M → zWM P M → zWS P S → S (0, 0, 0, 0) 6 = x → xX P (zdo P t p x y n S) (mdo P t p y n M) := by
  intro n
  induction n with
  | zero => exact fun S M h _ _ _ => h
  | succ n ih =>
    intro S M h hV hW hx
    have e47 := (h.1.B t ht).2.2.2 p hp
    have e1 := h.1.A.1
    have hs := hW.s ht hp
    have hiff : zdc P t p x y S ↔ mdc P t p y M := by
      show (S (11, t, p, 0) 1 < P 2 t p ∧ (¬ S (14, t, p, S (11, t, p, 0) 1) 4 = 2 ∧ y ≤ x - S (14, t, p, S (11, t, p, 0) 1) 2)) ↔ ((0 < y ∧ M (47, 0, 0, 0) (t * 4 + p) < P 2 t p) ∧ ¬ M (40, 0, 0, 0) 1 < M (56, 0, 0, 0) (mi M t p (M (47, 0, 0, 0) (t * 4 + p))) + y ∧ ¬ mS M (mi M t p (M (47, 0, 0, 0) (t * 4 + p))) = 2)
      rw [e47, e1, hx]
      by_cases hlt : S (11, t, p, 0) 1 < P 2 t p
      · obtain ⟨-, -, -, -, -, c6, c7, -⟩ := h.1.C t p (S (11, t, p, 0) 1) ht hp ⟨hs.1, hlt⟩
        rw [c6, c7]
        exact ⟨fun q => ⟨⟨hy, hlt⟩, by have := q.2.2; omega, q.2.1⟩, fun q => ⟨hlt, q.2.2, by have := q.2.1; omega⟩⟩
      · exact ⟨fun q => absurd q.1 hlt, fun q => absurd q.1.2 hlt⟩
    by_cases hc : zdc P t p x y S
    · rw [zdo_go n hc, mdo_go n (hiff.mp hc)]
      have ho : inM P t p (S (11, t, p, 0) 1) := ⟨hs.1, hc.1⟩
      have hm := hV.qm ht hp
      unfold mdd
      rw [e47]
      have h1 := r_dr h hV ht hp ho rfl
      have hV1 := mdr_W hV (m := mi M t p (S (11, t, p, 0) 1))
      refine ih _ _ (r_st h1 hV1 ht hp) (hV1.s47 ⟨by omega, by omega⟩) ((hW.s14 ⟨by omega, by omega⟩ (fun q => by omega)).s11 ⟨by omega, by omega⟩ (fun _ _ => ⟨by omega, by omega⟩)) ?_
      rw [zst_k _ _ _ _ (by simp), zst_k _ _ _ _ (by simp)]
      exact hx
    · rw [zdo_stop _ hc, mdo_stop _ (fun q => hc (hiff.mpr q))]
      exact h
end DROP
