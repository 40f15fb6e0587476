/-! ===== the model's shape grows ===== -/
section ZSHP
variable {Q Q2 : zP} {S : zS}
theorem zWM.s45n (h : zWM Q S) {i v : Int} (hi : ¬ (0 ≤ i ∧ i < Q 0 0 0)) (hv : 0 ≤ v ∧ v ≤ 4) : zWM Q (zst S (45, 0, 0, 0) i v) := by
  obtain ⟨g1, ⟨s1, s2, s3, s4, s5⟩, g3⟩ := h
  refine ⟨g1, ⟨?_, ?_, fun t ht => ?_, fun t p ht hp => ?_, fun g hg => ?_⟩, g3.st ⟨by omega, by omega⟩ (zmB_45 hv)⟩
  · rw [zst_k _ _ _ _ (by simp)]; exact s1
  · rw [zst_k _ _ _ _ (by simp)]; exact s2
  · rw [zst_f _ _ _ (show t ≠ i from fun e => hi (by rw [← e]; exact ht))]; exact s3 t ht
  · rw [zst_k _ _ _ _ (by simp)]; exact s4 t p ht hp
  · rw [zst_k _ _ _ _ (by simp)]; exact s5 g hg
theorem zWM.s64n (h : zWM Q S) {i v : Int} (hi : ¬ (0 ≤ i ∧ i < Q 3 0 0)) (hv : 0 ≤ v ∧ v ≤ 3) : zWM Q (zst S (64, 0, 0, 0) i v) := by
  obtain ⟨g1, ⟨s1, s2, s3, s4, s5⟩, g3⟩ := h
  refine ⟨g1, ⟨?_, ?_, fun t ht => ?_, fun t p ht hp => ?_, fun g hg => ?_⟩, g3.st ⟨by omega, by omega⟩ (zmB_64 hv)⟩
  · rw [zst_k _ _ _ _ (by simp)]; exact s1
  · rw [zst_k _ _ _ _ (by simp)]; exact s2
  · rw [zst_k _ _ _ _ (by simp)]; exact s3 t ht
  · rw [zst_k _ _ _ _ (by simp)]; exact s4 t p ht hp
  · rw [zst_f _ _ _ (show g ≠ i from fun e => hi (by rw [← e]; exact hg))]; exact s5 g hg
/-- bounds speak of the length of 'ended' alone -/
theorem zWB.q (h : zWB Q S) (e : Q2 61 0 0 = Q 61 0 0) : zWB Q2 S := fun n f hn => ⟨(h n f hn).1, by have := (h n f hn).2; unfold zmB at this ⊢; rw [e]; exact this⟩
/-- a partition grows by one -/
def zq2 (Q : zP) (t p : Int) : zP := fun n i j => if n = 2 ∧ i = t ∧ j = p then Q 2 t p + 1 else Q n i j
/-- Q2 is Q but for one more message at (t, p) -/
def zgr (Q Q2 : zP) (t p : Int) : Prop := (∀ n i j, n ≠ 2 → n ≠ 13 → n ≠ 5 → n ≠ 7 → Q2 n i j = Q n i j) ∧ (∀ i j, ¬ (i = t ∧ j = p) → Q2 2 i j = Q 2 i j) ∧ Q2 2 t p = Q 2 t p + 1
theorem zWM.send (h : zWM Q S) {t p : Int} (ht : 0 ≤ t ∧ t < Q 0 0 0) (hp : 0 ≤ p ∧ p < Q 1 t 0) (hg : zgr Q Q2 t p) (h80 : Q 2 t p < 80) : zWM Q2 (zst S (48, 0, 0, 0) (t * 4 + p) (S (48, 0, 0, 0) (t * 4 + p) + 1)) := by
  obtain ⟨⟨w1, w2, w3, w4, w5, w6⟩, ⟨s1, s2, s3, s4, s5⟩, g3⟩ := h
  obtain ⟨e1, e2, e3⟩ := hg
  have c0 := e1 0 0 0 (by decide) (by decide) (by decide) (by decide)
  have c3 := e1 3 0 0 (by decide) (by decide) (by decide) (by decide)
  have c61 := e1 61 0 0 (by decide) (by decide) (by decide) (by decide)
  have c1 : ∀ i, Q2 1 i 0 = Q 1 i 0 := fun i => e1 1 i 0 (by decide) (by decide) (by decide) (by decide)
  have c4 : ∀ i, Q2 4 i 0 = Q 4 i 0 := fun i => e1 4 i 0 (by decide) (by decide) (by decide) (by decide)
  have h2 := w4 t p ht hp
  have hen := s4 t p ht hp
  have hpb := w3 t ht
  refine ⟨⟨by rw [c0]; exact w1, by rw [c3]; exact w2, fun i hi => by rw [c1]; exact w3 i (by rw [c0] at hi; exact hi), fun i j hi hj => ?_, fun g hg => by rw [c4, c0]; exact w5 g (by rw [c3] at hg; exact hg), by rw [c61]; exact w6⟩, ⟨?_, ?_, fun i hi => ?_, fun i j hi hj => ?_, fun g hg => ?_⟩, (g3.st ⟨by omega, by omega⟩ (zmB_48 ⟨by omega, by omega⟩)).q c61⟩
  · rw [c0] at hi
    rw [c1] at hj
    by_cases hc : i = t ∧ j = p
    · obtain ⟨rfl, rfl⟩ := hc
      rw [e3]
      omega
    · rw [e2 i j hc]
      exact w4 i j hi hj
  · rw [zst_k _ _ _ _ (by simp), c0]; exact s1
  · rw [zst_k _ _ _ _ (by simp), c3]; exact s2
  · rw [zst_k _ _ _ _ (by simp), c1]; exact s3 i (by rw [c0] at hi; exact hi)
  · rw [c0] at hi
    rw [c1] at hj
    have hib := w3 i hi
    by_cases hc : i = t ∧ j = p
    · obtain ⟨rfl, rfl⟩ := hc
      rw [zst_s, e3, hen]
    · rw [zst_f _ _ _ (fun e => hc ⟨by omega, by omega⟩), e2 i j hc]
      exact s4 i j hi hj
  · rw [zst_k _ _ _ _ (by simp), c4]; exact s5 g (by rw [c3] at hg; exact hg)
/-- Q2 is Q but for one more group, of the topic t -/
def zgg (Q Q2 : zP) (t : Int) : Prop := (∀ n i j, n ≠ 3 → n ≠ 4 → n ≠ 5 → n ≠ 7 → Q2 n i j = Q n i j) ∧ (∀ i, i ≠ Q 3 0 0 → Q2 4 i 0 = Q 4 i 0) ∧ Q2 4 (Q 3 0 0) 0 = t ∧ Q2 3 0 0 = Q 3 0 0 + 1
theorem zWM.group (h : zWM Q S) {t : Int} (ht : 0 ≤ t ∧ t < Q 0 0 0) (hg : zgg Q Q2 t) (h4 : Q 3 0 0 < 4) (h64 : S (64, 0, 0, 0) (Q 3 0 0) = t) : zWM Q2 (zst S (40, 0, 0, 0) 23 (S (40, 0, 0, 0) 23 + 1)) := by
  obtain ⟨⟨w1, w2, w3, w4, w5, w6⟩, ⟨s1, s2, s3, s4, s5⟩, g3⟩ := h
  obtain ⟨e1, e2, e3, e4⟩ := hg
  have c0 := e1 0 0 0 (by decide) (by decide) (by decide) (by decide)
  have c61 := e1 61 0 0 (by decide) (by decide) (by decide) (by decide)
  have c1 : ∀ i j, Q2 1 i j = Q 1 i j := fun i j => e1 1 i j (by decide) (by decide) (by decide) (by decide)
  have c2 : ∀ i j, Q2 2 i j = Q 2 i j := fun i j => e1 2 i j (by decide) (by decide) (by decide) (by decide)
  refine ⟨⟨by rw [c0]; exact w1, by omega, fun i hi => by rw [c1]; exact w3 i (by rw [c0] at hi; exact hi), fun i j hi hj => by rw [c2]; exact w4 i j (by rw [c0] at hi; exact hi) (by rw [c1] at hj; exact hj), fun g hg => ?_, by rw [c61]; exact w6⟩, ⟨?_, ?_, fun i hi => ?_, fun i j hi hj => ?_, fun g hg => ?_⟩, (g3.st ⟨by omega, by omega⟩ zmB_40_23).q c61⟩
  · rw [c0]
    by_cases hc : g = Q 3 0 0
    · rw [hc, e3]; exact ht
    · rw [e2 g hc]; exact w5 g ⟨by omega, by omega⟩
  · rw [zst_f _ _ _ (by decide), c0]; exact s1
  · rw [zst_s, e4, s2]
  · rw [zst_k _ _ _ _ (by simp), c1]; exact s3 i (by rw [c0] at hi; exact hi)
  · rw [zst_k _ _ _ _ (by simp), c2]; exact s4 i j (by rw [c0] at hi; exact hi) (by rw [c1] at hj; exact hj)
  · rw [zst_k _ _ _ _ (by simp)]
    by_cases hc : g = Q 3 0 0
    · rw [hc, e3]; exact h64
    · rw [e2 g hc]; exact s5 g ⟨by omega, by omega⟩
end ZSHP
/-- where a new group starts -/
def mgn1 (G t : Int) (p : Int) (S : zS) : zS := zst (zst (zst S (65, 0, 0, 0) (G * 4 + p) (S (47, 0, 0, 0) (t * 4 + p))) (66, 0, 0, 0) (G * 4 + p) (S (47, 0, 0, 0) (t * 4 + p))) (67, 0, 0, 0) (G * 4 + p) (-1)
theorem zpa_le {Q : zP} {t k : Int} (h1 : 1 ≤ Q 1 t 0 ∧ Q 1 t 0 ≤ 4) (hk : -1 ≤ k) : 0 ≤ zpa Q t k ∧ zpa Q t k < Q 1 t 0 := by
  unfold zpa
  split
  · refine lp_ind (f := zpf Q t) (fun _ q => 0 ≤ q ∧ q < Q 1 t 0) _ 1 (Q 1 t 0) 0 h1.1 rfl ⟨by omega, by omega⟩ (fun o q h2 h3 hq => ?_)
    unfold zpf
    split <;> omega
  · exact ⟨Int.emod_nonneg _ (by omega), Int.emod_lt_of_pos _ (by omega)⟩
/-- what a sent message writes: the n-th of its producer, at (t, q), as the N-th there -/
def mssd (S : zS) (t q N x k v n : Int) : zS := zst (zst (zst (zst (zst (zst (zst (zst (zst (zst S (49, 0, 0, 0) (t * 4 + x) (n + 1)) (52, 0, 0, 0) (S (40, 0, 0, 0) 11) (t * 4 + q)) (53, 0, 0, 0) (S (40, 0, 0, 0) 11) N) (54, 0, 0, 0) (S (40, 0, 0, 0) 11) k) (55, 0, 0, 0) (S (40, 0, 0, 0) 11) v) (56, 0, 0, 0) (S (40, 0, 0, 0) 11) (S (40, 0, 0, 0) 1)) (57, 0, 0, 0) (S (40, 0, 0, 0) 11) (S (62, 0, 0, 0) x)) (40, 0, 0, 0) 11 (S (40, 0, 0, 0) 11 + 1)) (59, 0, 0, 0) ((t * 4 + q) * 80 + N) (S (40, 0, 0, 0) 11)) (48, 0, 0, 0) (t * 4 + q) (N + 1)
