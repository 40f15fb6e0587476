/-! ===== the Pier's acts: send, what it leaves ===== -/
theorem mm_146 {Δ : zDl} {ad : zK → Nat} {P : zP} {S : zS} {X : zMem} {t p o v : Int} : mm Δ ad P (zst S (14, t, p, o) 6 v) X = mm Δ ad P S X := by
  funext k
  by_cases h8 : k.1 < 80
  · rw [mm_lt _ h8, mm_lt _ h8]
    by_cases hk : k = (14, t, p, o)
    · subst hk
      show zc14 Δ ad P t p o _ = zc14 Δ ad P t p o _
      unfold zc14
      rw [zst_o (by decide), zst_o (by decide), zst_o (by decide), zst_o (by decide), zst_o (by decide), zst_o (by decide)]
    · rw [show zst S (14, t, p, o) 6 v k = S k from funext fun f => zst_k _ _ _ _ hk]
  · rw [mm_ge _ h8, mm_ge _ h8]
/-- the state behind a message more -/
def zSn (P : zP) (D : zS) (t q x k v z : Int) : zS := zst (zSsd P (zS1d D t x) t q z (zmR k v (D (0, 0, 0, 0) 6) x (if D (3, 0, 0, 0) x = 0 then 0 else 2))) (14, t, q, P 2 t q) 6 (D (212, 0, 0, 0) x)
section ZSND
variable {Q : zP} {D : zS} {t q x k v z c : Int}
theorem zSn_n {K : zK} {f : Int} (h14 : K ≠ (14, t, q, Q 2 t q)) (h12 : K ≠ (12, t, q, 0)) (h10 : ¬ (K = (10, t, 0, 0) ∧ f = x)) (h5 : ¬ (K = (0, 0, 0, 0) ∧ f = 5)) : zSn Q D t q x k v z K f = D K f := by
  unfold zSn
  rw [zst_k _ _ _ _ h14, zSsd_k h12 h14]
  unfold zS1d
  rw [zst_at, zst_at]
  split
  · next e => first | exact absurd e h5 | exact absurd e h10
  · first
    | rfl
    | (split
       · next e => first | exact absurd e h5 | exact absurd e h10
       · rfl)
theorem zSn_14 {f : Int} (hf : f ≠ 6) : zSn Q D t q x k v z (14, t, q, Q 2 t q) f = zmR k v (D (0, 0, 0, 0) 6) x (if D (3, 0, 0, 0) x = 0 then 0 else 2) f := by
  unfold zSn
  rw [zst_o hf]
  unfold zSsd
  rw [if_neg (by simp), if_pos rfl]
theorem zSn_146 : zSn Q D t q x k v z (14, t, q, Q 2 t q) 6 = D (212, 0, 0, 0) x := by
  unfold zSn
  rw [zst_s]
theorem zSn_5 : zSn Q D t q x k v z (0, 0, 0, 0) 5 = D (0, 0, 0, 0) 5 + 1 := by
  unfold zSn
  rw [zst_k _ _ _ _ (by simp), zSsd_k (by simp) (by simp)]
  unfold zS1d
  simp [zst_at]
theorem zSn_10 : zSn Q D t q x k v z (10, t, 0, 0) x = D (10, t, 0, 0) x + 1 := by
  unfold zSn
  rw [zst_k _ _ _ _ (by simp), zSsd_k (by simp) (by simp)]
  unfold zS1d
  simp [zst_at]
theorem zSn_k {K : zK} {f : Int} (h : K.1 ≠ 0 ∧ K.1 ≠ 10 ∧ K.1 ≠ 12 ∧ K.1 ≠ 14) : zSn Q D t q x k v z K f = D K f := zSn_n (fun e => h.2.2.2 (by rw [e])) (fun e => h.2.2.1 (by rw [e])) (fun e => h.2.1 (by rw [e.1])) (fun e => h.1 (by rw [e.1]))
theorem zSn_0 {f : Int} (h : f ≠ 5) : zSn Q D t q x k v z (0, 0, 0, 0) f = D (0, 0, 0, 0) f := zSn_n (by simp) (by simp) (by simp) (fun e => h e.2)
theorem zSn_14n {t' p' o' f : Int} (h : ¬ (t' = t ∧ p' = q ∧ o' = Q 2 t q)) : zSn Q D t q x k v z (14, t', p', o') f = D (14, t', p', o') f := zSn_n (fun e => h (by simp at e; exact e)) (by simp) (by simp) (by simp)
theorem zJ_send (hJ : zJ Q D) (ht : inT Q t) (hx : 0 ≤ x ∧ x < 4) (hk : -1 ≤ k ∧ k ≤ 9) (hv : 0 ≤ v ∧ v ≤ 999) (h80 : D (0, 0, 0, 0) 5 < 80) (h10 : D (10, t, 0, 0) x < 80) (hq : inP Q t q) (hq80 : Q 2 t q < 80) (hc : Q 2 t q < c ∧ c ≤ 200) (hz : zR z) : zJ (zPsd Q t q c) (zSn Q D t q x k v z) := by
  have h := hJ.wv
  have hP := hJ.wp
  have hqn := hP.n
  have hM2 := hP.m ht hq
  have hP2 := zWP_Psd (c := c) hP hq80 hc
  have hkk := h.W.k
  have hnx := h.nx t x
  have hf0 := h.f0
  obtain ⟨a1, a2, a3⟩ := hJ.tr
  have hH := hJ.hd
  have hrK : ∀ g p o, inG Q g → inQ Q g p → Q 2 (Q 4 g 0) p ≤ o → o < 80 → D (19, g, p, 0) o = 0 ∧ D (20, g, p, 0) o = 0 ∧ D (21, g, p, 0) o = 0 := by
    obtain ⟨-, ⟨M, hM⟩, -⟩ := hJ
    exact hM.1.2.2.2.2.2.1
  have em : ∀ (m : Nat) (i j : Int), m ≠ 2 → m ≠ 13 → zPsd Q t q c m i j = Q m i j := fun m i j h1 h2 => zPsd_m ⟨h1, h2⟩
  have i1 : ∀ t', inT (zPsd Q t q c) t' ↔ inT Q t' := fun t' => by show (0 ≤ t' ∧ t' < zPsd Q t q c 0 0 0) ↔ _; rw [em _ _ _ (by decide) (by decide)]
  have i2 : ∀ t' p, inP (zPsd Q t q c) t' p ↔ inP Q t' p := fun t' p => by show (0 ≤ p ∧ p < zPsd Q t q c 1 t' 0) ↔ _; rw [em _ _ _ (by decide) (by decide)]
  have i3 : ∀ t' p o, inM (zPsd Q t q c) t' p o → ¬ (t' = t ∧ p = q ∧ o = Q 2 t q) → inM Q t' p o := fun t' p o ho hne => by
    have o1 := ho.1
    have o2 := ho.2
    rw [zPsd_2] at o2
    by_cases hc2 : t' = t ∧ p = q
    · rw [if_pos hc2] at o2
      obtain ⟨rfl, rfl⟩ := hc2
      have : ¬ o = Q 2 t' p := fun e => hne ⟨rfl, rfl, e⟩
      exact ⟨o1, by omega⟩
    · rw [if_neg hc2] at o2
      exact ⟨o1, o2⟩
  have i4 : ∀ g, inG (zPsd Q t q c) g ↔ inG Q g := fun g => by show (0 ≤ g ∧ g < zPsd Q t q c 3 0 0) ↔ _; rw [em _ _ _ (by decide) (by decide)]
  have e4 : ∀ g, zPsd Q t q c 4 g 0 = Q 4 g 0 := fun g => em _ _ _ (by decide) (by decide)
  have i5 : ∀ g p, inQ (zPsd Q t q c) g p ↔ inQ Q g p := fun g p => by show (0 ≤ p ∧ p < zPsd Q t q c 1 (zPsd Q t q c 4 g 0) 0) ↔ _; rw [e4, em _ _ _ (by decide) (by decide)]
  have hR0 : ∀ K f, zR (zSn Q D t q x k v z K f) := by
    unfold zSn
    refine zst_R (fun K f => ?_) (h.R _ _)
    unfold zSsd
    have hR1 : ∀ K f, zR (zS1d D t x K f) := zst_R (zst_R h.R ⟨by omega, by omega⟩) ⟨by omega, by omega⟩
    split
    · split
      · exact hz
      · exact hR1 _ _
    · split
      · unfold zmR
        (repeat' split) <;> exact ⟨by omega, by omega⟩
      · exact hR1 _ _
  have hxJ : ∃ M, xJ (zPsd Q t q c) (zSn Q D t q x k v z) M := by
    obtain ⟨-, ⟨M, hM⟩, -⟩ := hJ
    refine ⟨_, o_send hM ht hx hk hv rfl h80 hq zgr_Psd hP2 hR0 (fun j f hj => zSn_n (fun e => hj (Or.inl e)) (fun e => hj (Or.inr (Or.inr (Or.inr (by rw [e]))))) (fun e => hj (Or.inr (Or.inr (Or.inl e)))) (fun e => hj (Or.inr (Or.inl e)))) ⟨zSn_14 (by decide), zSn_14 (by decide), zSn_14 (by decide), zSn_14 (by decide), zSn_14 (by decide), zSn_14 (by decide)⟩ (fun f hf => ?_) zSn_5 zSn_10⟩
    rw [hf, zSn_14 (by decide)]
    exact hkk.1
  have n14 : ∀ f, f ≠ 6 → zSn Q D t q x k v z (14, t, q, Q 2 t q) f = zmR k v (D (0, 0, 0, 0) 6) x (if D (3, 0, 0, 0) x = 0 then 0 else 2) f := fun f hf => zSn_14 hf
  have ho4 := h.op x
  obtain ⟨b1, b2, b3, b4⟩ := a1 x hx.1 hx.2
  refine ⟨⟨?_, ⟨fun t' p o => ?_, fun g p o => ?_, fun t' p o a b d => ?_⟩, ⟨⟨?_, ?_⟩, ⟨fun g => ?_, fun g hg => ?_⟩⟩, ⟨fun g r => ?_, fun t' => ?_, ⟨fun y => ?_, fun y => ?_⟩⟩, ⟨?_, ?_⟩, fun t' y => ?_⟩, hxJ, ⟨fun y y1 y2 => ?_, fun m hm => ?_, fun t' p o a b d => ?_⟩, ⟨fun t' ht' => ?_, fun g r hg => ?_, ?_⟩, ?_⟩
  · obtain ⟨M, hM⟩ := hxJ
    exact hM.2.2.2.2.1
  · by_cases hc1 : t' = t ∧ p = q ∧ o = Q 2 t q
    · obtain ⟨rfl, rfl, rfl⟩ := hc1
      rw [n14 5 (by decide), n14 0 (by decide), zSn_146]
      exact ⟨Or.inl rfl, ho4, hk⟩
    · rw [zSn_14n hc1, zSn_14n hc1, zSn_14n hc1]
      exact ⟨h.dr t' p o, h.tr t' p o, h.ky t' p o⟩
  · rw [zSn_k (by simp)]
    exact h.st4 g p o
  · by_cases hc1 : t' = t ∧ p = q ∧ o = Q 2 t q
    · obtain ⟨rfl, rfl, rfl⟩ := hc1
      unfold zsn
      rw [zSn_146, zSn_k (K := (211, 0, 0, 0)) (by simp), n14 4 (by decide)]
      show _ = if D (3, 0, 0, 0) x = 0 then 0 else 2
      by_cases h3 : D (3, 0, 0, 0) x = 0
      · rw [if_pos h3, if_pos (by rw [b1.mp h3]; decide)]
      · have h2 : ¬ D (212, 0, 0, 0) x = -1 := fun e => h3 (b1.mpr e)
        rw [if_neg h3, if_neg (by omega), b3 h2]
        simp
    · have e : zsn (zSn Q D t q x k v z) t' p o = zsn D t' p o := by
        unfold zsn
        rw [zSn_14n hc1, zSn_k (K := (211, 0, 0, 0)) (by simp)]
      rw [e, zSn_14n hc1]
      exact h.sn ((i1 t').mp a) ((i2 t' p).mp b) (i3 t' p o d hc1)
  · rw [zSn_k (by simp), h.gn]
    exact (em _ _ _ (by decide) (by decide)).symm
  · rw [zSn_k (by simp)]
    exact h.dw
  · rw [zSn_k (by simp)]
    exact h.2.2.1.2.1 g
  · rw [zSn_k (by simp), e4]
    exact h.of ((i4 g).mp hg)
  · rw [zSn_k (by simp)]
    exact h.in2 g r
  · rw [zSn_k (by simp), zSn_k (by simp)]
    exact h.t8 t'
  · rw [zSn_k (by simp)]
    exact h.op y
  · rw [zSn_k (by simp)]
    exact h.en y
  · rw [zSn_0 (by decide)]
    exact h.f0.1
  · rw [zSn_5]
    omega
  · by_cases hc1 : t' = t ∧ y = x
    · rw [hc1.1, hc1.2, zSn_10]
      omega
    · rw [zSn_n (by simp) (by simp) (fun e => hc1 (by have := e.1; simp at this; exact ⟨this, e.2⟩)) (by simp)]
      exact h.nx t' y
  · rw [zSn_k (by simp), zSn_k (by simp), zSn_0 (by decide), zSn_k (by simp)]
    obtain ⟨c1, c2, c3, c4⟩ := a1 y y1 y2
    exact ⟨c1, c2, c3, fun w w1 w2 => by rw [zSn_k (by simp)]; exact c4 w w1 w2⟩
  · rw [zSn_0 (by decide)] at hm
    rw [zSn_k (by simp)]
    exact a2 m hm
  · by_cases hc1 : t' = t ∧ p = q ∧ o = Q 2 t q
    · obtain ⟨rfl, rfl, rfl⟩ := hc1
      rw [zSn_146, zSn_0 (by decide), n14 4 (by decide), n14 3 (by decide)]
      refine ⟨b2, fun y y1 y2 hy => ?_⟩
      rw [zSn_k (by simp)] at hy ⊢
      show _ ↔ (if D (3, 0, 0, 0) x = 0 then (0 : Int) else 2) = 2 ∧ x = y
      constructor
      · intro e
        have h2 : ¬ D (212, 0, 0, 0) x = -1 := by rw [e]; exact hy
        have h3 : ¬ D (3, 0, 0, 0) x = 0 := fun e => h2 (b1.mp e)
        rw [if_neg h3]
        exact ⟨rfl, b4 y y1 y2 h2 e⟩
      · rintro ⟨-, rfl⟩
        rfl
    · rw [zSn_14n hc1, zSn_14n hc1, zSn_14n hc1, zSn_0 (by decide)]
      obtain ⟨d1, d2⟩ := a3 t' p o ((i1 t').mp a) ((i2 t' p).mp b) (i3 t' p o d hc1)
      exact ⟨d1, fun y y1 y2 hy => by rw [zSn_k (by simp)] at hy ⊢; exact d2 y y1 y2 hy⟩
  · rw [em _ _ _ (by decide) (by decide)] at ht'
    obtain ⟨c1, c2, c3⟩ := hH.1 t' ht'
    have ht2 := ht.2
    exact ⟨by rw [zSn_k (by simp)]; exact c1, fun y => by rw [zSn_n (by simp) (by simp) (fun e => by have := e.1; simp at this; omega) (by simp)]; exact c2 y, fun p => by rw [zSn_k (by simp)]; exact c3 p⟩
  · rw [em _ _ _ (by decide) (by decide)] at hg
    rw [zSn_k (by simp)]
    exact hH.2.1 g r hg
  · rw [em _ _ _ (by decide) (by decide)]
    exact hH.2.2
  · obtain ⟨h7, hSd, hLg⟩ := hJ.k0
    have hs := h.W.s ht hq
    refine ⟨fun g p o a b d => ?_, fun t' p o a b d e => ?_, ?_⟩
    · have a' := (i4 g).mp a
      have b' := (i5 g p).mp b
      rw [e4] at d
      rw [zSn_k (by simp), zSn_k (by simp)]
      by_cases hc1 : Q 4 g 0 = t ∧ p = q ∧ o = Q 2 t q
      · have := hrK g p o a' b' (by rw [hc1.1, hc1.2.1, hc1.2.2]; exact Int.le_refl _) (by omega)
        rw [this.1]
        exact ⟨fun q => by omega, fun q => by omega⟩
      · exact h7 g p o a' b' (i3 _ _ _ d hc1)
    · rw [zSn_k (by simp)] at e
      by_cases hc1 : t' = t ∧ p = q ∧ o = Q 2 t q
      · obtain ⟨rfl, rfl, rfl⟩ := hc1
        omega
      · rw [zSn_14n hc1]
        exact hSd t' p o ((i1 t').mp a) ((i2 t' p).mp b) (i3 t' p o d hc1) e
    · obtain ⟨c1, c2, c3, c4⟩ := hLg
      have e1 : zSn Q D t q x k v z (1, 0, 0, 0) 1 = D (1, 0, 0, 0) 1 := zSn_k (by simp)
      have e2 : ∀ f, zSn Q D t q x k v z (2, 0, 0, 0) f = D (2, 0, 0, 0) f := fun f => zSn_k (by simp)
      unfold zLg
      rw [e1, zcs_fr e1 e2, zcs_fr e1 e2, zSn_0 (by decide)]
      refine ⟨c1, fun m m1 m2 => by rw [e2, e2, e2, e2]; exact c2 m m1 m2, c3, fun hl => ?_⟩
      have hle : zcoA (zPsd Q t q c) (zSn Q D t q x k v z) ≤ zcoA Q D := by
        unfold zcoA
        rw [em _ _ _ (by decide) (by decide)]
        refine sm_mono _ _ _ rfl (fun g g0 g1 => ?_)
        unfold zcoG
        rw [e4, em _ _ _ (by decide) (by decide)]
        refine sm_mono _ _ _ rfl (fun p p0 p1 => ?_)
        have hMg := hP.m (hP.g ⟨g0, g1⟩) (p := p) ⟨p0, p1⟩
        unfold zcoP
        rw [e4, zPsd_2]
        have hsame : sm (zco1 (zSn Q D t q x k v z) g p) 0 (Q 2 (Q 4 g 0) p) = sm (zco1 D g p) 0 (Q 2 (Q 4 g 0) p) := sm_congr _ _ _ rfl (fun o _ _ => by
          unfold zco1
          rw [zSn_k (by simp)])
        split
        · next hc2 =>
          have hnew : zco1 (zSn Q D t q x k v z) g p (Q 2 (Q 4 g 0) p) = 0 := by
            unfold zco1
            rw [zSn_k (by simp), (hrK g p _ ⟨g0, g1⟩ ⟨p0, p1⟩ (Int.le_refl _) (by rw [hc2.1, hc2.2]; exact hq80)).1]
            simp
          have e9 : Q 2 t q = Q 2 (Q 4 g 0) p := by rw [hc2.1, hc2.2]
          rw [e9, sm_last _ 0 _ rfl hMg.1, hnew, hsame]
          omega
        · rw [hsame]
          exact Int.le_refl _
      have := c4 hl
      omega
end ZSND
