/-! ===== send: the relation with one more message ===== -/
section SEND
variable {P P2 : zP} {S S2 M : zS}
/-- what the model's cells are after a message was sent -/
theorem mssd_at {t q N x k v u : Int} : (∀ f, mssd M t q N x k v u (49, 0, 0, 0) f = if f = t * 4 + x then u + 1 else M (49, 0, 0, 0) f) ∧ (∀ f, mssd M t q N x k v u (52, 0, 0, 0) f = if f = M (40, 0, 0, 0) 11 then t * 4 + q else M (52, 0, 0, 0) f) ∧ (∀ f, mssd M t q N x k v u (53, 0, 0, 0) f = if f = M (40, 0, 0, 0) 11 then N else M (53, 0, 0, 0) f) ∧ (∀ f, mssd M t q N x k v u (54, 0, 0, 0) f = if f = M (40, 0, 0, 0) 11 then k else M (54, 0, 0, 0) f) ∧ (∀ f, mssd M t q N x k v u (55, 0, 0, 0) f = if f = M (40, 0, 0, 0) 11 then v else M (55, 0, 0, 0) f) ∧ (∀ f, mssd M t q N x k v u (56, 0, 0, 0) f = if f = M (40, 0, 0, 0) 11 then M (40, 0, 0, 0) 1 else M (56, 0, 0, 0) f) ∧ (∀ f, mssd M t q N x k v u (57, 0, 0, 0) f = if f = M (40, 0, 0, 0) 11 then M (62, 0, 0, 0) x else M (57, 0, 0, 0) f) ∧ (∀ f, mssd M t q N x k v u (59, 0, 0, 0) f = if f = (t * 4 + q) * 80 + N then M (40, 0, 0, 0) 11 else M (59, 0, 0, 0) f) ∧ mssd M t q N x k v u (40, 0, 0, 0) 11 = M (40, 0, 0, 0) 11 + 1 ∧ (∀ f, f ≠ 11 → mssd M t q N x k v u (40, 0, 0, 0) f = M (40, 0, 0, 0) f) ∧ (∀ f, f ≠ t * 4 + q → mssd M t q N x k v u (48, 0, 0, 0) f = M (48, 0, 0, 0) f) ∧ (∀ (n : Nat) f, ¬ (n = 49 ∨ n = 52 ∨ n = 53 ∨ n = 54 ∨ n = 55 ∨ n = 56 ∨ n = 57 ∨ n = 59 ∨ n = 40 ∨ n = 48) → mssd M t q N x k v u (n, 0, 0, 0) f = M (n, 0, 0, 0) f) := by
  unfold mssd
  refine ⟨fun f => ?_, fun f => ?_, fun f => ?_, fun f => ?_, fun f => ?_, fun f => ?_, fun f => ?_, fun f => ?_, ?_, fun f hf => ?_, fun f hf => ?_, fun n f hn => ?_⟩
  · simp [zst_at]
  · simp [zst_at]
  · simp [zst_at]
  · simp [zst_at]
  · simp [zst_at]
  · simp [zst_at]
  · simp [zst_at]
  · simp [zst_at]
  · simp [zst_at]
  · simp [zst_at, hf]
  · simp [zst_at, hf]
  · simp only [not_or] at hn
    simp [zst_at, hn]
theorem o_send (h : xJ P S M) {t x u k v q : Int} (ht : inT P t) (hx : 0 ≤ x ∧ x < 4) (hk : -1 ≤ k ∧ k ≤ 9) (hv : 0 ≤ v ∧ v ≤ 999) (hu : S (10, t, 0, 0) x = u) (h80 : S (0, 0, 0, 0) 5 < 80) (hq : inP P t q) (hg : zgr P P2 t q) (hP2 : zWP P2) (hR : ∀ k f, zR (S2 k f))
    (hS : ∀ (j : zK) f, ¬ (j = (14, t, q, P 2 t q) ∨ (j = (0, 0, 0, 0) ∧ f = 5) ∨ (j = (10, t, 0, 0) ∧ f = x) ∨ j.1 = 12) → S2 j f = S j f)
    (h14 : S2 (14, t, q, P 2 t q) 0 = k ∧ S2 (14, t, q, P 2 t q) 1 = v ∧ S2 (14, t, q, P 2 t q) 2 = S (0, 0, 0, 0) 6 ∧ S2 (14, t, q, P 2 t q) 3 = x ∧ S2 (14, t, q, P 2 t q) 4 = (if S (3, 0, 0, 0) x = 0 then 0 else 2) ∧ S2 (14, t, q, P 2 t q) 5 = 0) (hb14 : ∀ f, f = 2 → 0 ≤ S2 (14, t, q, P 2 t q) f ∧ S2 (14, t, q, P 2 t q) f ≤ 9999) (h5 : S2 (0, 0, 0, 0) 5 = S (0, 0, 0, 0) 5 + 1) (h10 : S2 (10, t, 0, 0) x = u + 1) : xJ P2 S2 (msa P2 (mssd M t q (P 2 t q) x k v u)) := by
  obtain ⟨hX, hL, hZ, hY, hW, hV, hP⟩ := id h
  obtain ⟨⟨⟨a1, a2, a3, a4⟩, a5, a6, a7, a8⟩, a9, b1, b2, b3, b4, b5⟩ := hX
  obtain ⟨e1, e2, e3⟩ := id hg
  have c0 : P2 0 0 0 = P 0 0 0 := e1 0 0 0 (by decide) (by decide) (by decide) (by decide)
  have c3 : P2 3 0 0 = P 3 0 0 := e1 3 0 0 (by decide) (by decide) (by decide) (by decide)
  have c61 : P2 61 0 0 = P 61 0 0 := e1 61 0 0 (by decide) (by decide) (by decide) (by decide)
  have c1 : ∀ i, P2 1 i 0 = P 1 i 0 := fun i => e1 1 i 0 (by decide) (by decide) (by decide) (by decide)
  have c4 : ∀ i, P2 4 i 0 = P 4 i 0 := fun i => e1 4 i 0 (by decide) (by decide) (by decide) (by decide)
  have hqq := hV.q
  have hf11 := hV.f11
  have hf20 := hV.f20
  have hN := hV.qm ht hq
  have hNt := hV.qt ht
  have hN2 := hP2.m (t := t) (p := q) (by rw [c0]; exact ht) (by rw [c1]; exact hq)
  rw [e3] at hN2
  have hA5 : M (40, 0, 0, 0) 11 = S (0, 0, 0, 0) 5 := a1.2.2.2.1
  obtain ⟨n49, n52, n53, n54, n55, n56, n57, n59, n11, n40, n48, nk⟩ := mssd_at (M := M) (t := t) (q := q) (N := P 2 t q) (x := x) (k := k) (v := v) (u := u)
  have hu2 := hY.2.2 t x ht hx.1 hx.2
  have b62 := hV.b62 x
  have f1 := hV.f1
  have hVN : zWM P2 (mssd M t q (P 2 t q) x k v u) := by
    have hpre : zWM P (zst (zst (zst (zst (zst (zst (zst (zst (zst M (49, 0, 0, 0) (t * 4 + x) (u + 1)) (52, 0, 0, 0) (M (40, 0, 0, 0) 11) (t * 4 + q)) (53, 0, 0, 0) (M (40, 0, 0, 0) 11) (P 2 t q)) (54, 0, 0, 0) (M (40, 0, 0, 0) 11) k) (55, 0, 0, 0) (M (40, 0, 0, 0) 11) v) (56, 0, 0, 0) (M (40, 0, 0, 0) 11) (M (40, 0, 0, 0) 1)) (57, 0, 0, 0) (M (40, 0, 0, 0) 11) (M (62, 0, 0, 0) x)) (40, 0, 0, 0) 11 (M (40, 0, 0, 0) 11 + 1)) (59, 0, 0, 0) ((t * 4 + q) * 80 + P 2 t q) (M (40, 0, 0, 0) 11)) :=
      ((((((((hV.s49 ⟨by omega, by omega⟩).s52 ⟨by omega, by omega⟩).s53 ⟨by omega, by omega⟩).s54 hk).s55 hv).s56 f1).s57 b62).s40_11 ⟨by omega, by omega⟩).s59 ⟨by omega, by omega⟩
    have h48 := hpre.en ht hq
    have := hpre.send ht hq hg (by omega)
    rw [h48] at this
    exact this
  have hmN : ∀ m, m ≠ M (40, 0, 0, 0) 11 → mS (mssd M t q (P 2 t q) x k v u) m = mS M m := fun m hm => by
    unfold mS
    rw [n57, if_neg hm, nk 61 _ (by decide)]
  have hm0 : mS (mssd M t q (P 2 t q) x k v u) (M (40, 0, 0, 0) 11) = if S (3, 0, 0, 0) x = 0 then 0 else 2 := by
    obtain ⟨d1, d2, d3, d4⟩ := a5 x hx.1 hx.2
    unfold mS
    rw [n57, if_pos rfl, nk 61 _ (by decide)]
    by_cases hc : S (3, 0, 0, 0) x = 0
    · rw [if_pos hc, if_pos (Or.inl (d1.mp hc))]
    · have hne : ¬ M (62, 0, 0, 0) x = -1 := fun e => hc (d1.mpr e)
      have h61 := (d3 hne).2
      rw [if_neg hc, if_neg (fun e => e.elim hne (fun e => by omega)), if_neg (by omega)]
  generalize mssd M t q (P 2 t q) x k v u = N at n49 n52 n53 n54 n55 n56 n57 n59 n11 n40 n48 nk hVN hmN hm0 ⊢
  have iT : ∀ t, inT P2 t ↔ inT P t := fun t => by
    show (0 ≤ t ∧ t < P2 0 0 0) ↔ _
    rw [c0]
  have iP : ∀ t p, inP P2 t p ↔ inP P t p := fun t p => by
    show (0 ≤ p ∧ p < P2 1 t 0) ↔ _
    rw [c1]
  have iG : ∀ g, inG P2 g ↔ inG P g := fun g => by
    show (0 ≤ g ∧ g < P2 3 0 0) ↔ _
    rw [c3]
  have iQ : ∀ g p, inQ P2 g p ↔ inQ P g p := fun g p => by
    show (0 ≤ p ∧ p < P2 1 (P2 4 g 0) 0) ↔ _
    rw [c4, c1]
  have oM : ∀ t' p' o', inT P2 t' → inP P2 t' p' → inM P2 t' p' o' → (t' = t ∧ p' = q ∧ o' = P 2 t q) ∨ ((inT P t' ∧ inP P t' p' ∧ inM P t' p' o') ∧ ¬ (t' = t ∧ p' = q ∧ o' = P 2 t q)) := fun t' p' o' g1 g2 g3 => by
    have g1' : inT P t' := (iT _).mp g1
    have g2' : inP P t' p' := (iP _ _).mp g2
    by_cases hc : t' = t ∧ p' = q
    · obtain ⟨rfl, rfl⟩ := hc
      by_cases ho : o' = P 2 t' p'
      · exact Or.inl ⟨rfl, rfl, ho⟩
      · have := g3.2
        rw [e3] at this
        exact Or.inr ⟨⟨g1', g2', g3.1, by omega⟩, fun z => ho z.2.2⟩
    · have := g3.2
      rw [e2 t' p' hc] at this
      exact Or.inr ⟨⟨g1', g2', g3.1, this⟩, fun z => hc ⟨z.1, z.2.1⟩⟩
  have oG : ∀ g, inG P2 g → inG P g := fun g hg => (iG _).mp hg
  have oQ : ∀ g p, inQ P2 g p → inQ P g p := fun g p hp => (iQ _ _).mp hp
  have oQM : ∀ g p o, inG P g → inQ P g p → inM P2 (P2 4 g 0) p o → (P 4 g 0 = t ∧ p = q ∧ o = P 2 t q) ∨ (inM P (P 4 g 0) p o ∧ ¬ (P 4 g 0 = t ∧ p = q ∧ o = P 2 t q)) := fun g p o hg hp ho => by
    rw [c4] at ho
    rcases oM (P 4 g 0) p o ((iT _).mpr (hV.qg hg)) ((iP _ _).mpr hp) ho with h1 | ⟨h1, h2⟩
    · exact Or.inl h1
    · exact Or.inr ⟨h1.2.2, h2⟩
  have hold : ∀ t' p' o', inT P t' → inP P t' p' → inM P t' p' o' → mi M t' p' o' ≠ M (40, 0, 0, 0) 11 := fun t' p' o' g1 g2 g3 => by
    have := (a3 t' p' o' g1 g2 g3).1
    omega
  have mnew : mi N t q (P 2 t q) = M (40, 0, 0, 0) 11 := by
    show N (59, 0, 0, 0) _ = _
    rw [n59, if_pos rfl]
  have mold : ∀ t' p' o', inT P t' → inP P t' p' → inM P t' p' o' → mi N t' p' o' = mi M t' p' o' := fun t' p' o' g1 g2 g3 => by
    show N (59, 0, 0, 0) _ = _
    have k1 := hV.qt g1
    have k2 := hV.qm g1 g2
    have hne : ¬ ((t' * 4 + p') * 80 + o' = (t * 4 + q) * 80 + P 2 t q) := fun z => by
      have hz1 : t' * 4 + p' = t * 4 + q := by omega
      have hz2 : t' = t := by omega
      have hz3 : p' = q := by omega
      subst hz2 hz3
      omega
    rw [n59, if_neg hne]
  have s14 : ∀ t' p' o' f, ¬ (t' = t ∧ p' = q ∧ o' = P 2 t q) → S2 (14, t', p', o') f = S (14, t', p', o') f := fun t' p' o' f hne => hS _ _ (by
    rintro (z | z | z | z)
    · cases z; exact hne ⟨rfl, rfl, rfl⟩
    · cases z.1
    · cases z.1
    · cases z)
  have sk : ∀ (n : Nat) i j o f, n ≠ 14 → n ≠ 0 → n ≠ 10 → n ≠ 12 → S2 (n, i, j, o) f = S (n, i, j, o) f := fun n i j o f k1 k2 k3 k4 => hS _ _ (by
    rintro (z | z | z | z)
    · exact k1 (congrArg Prod.fst z)
    · exact k2 (congrArg Prod.fst z.1)
    · exact k3 (congrArg Prod.fst z.1)
    · exact k4 z)
  have s0 : ∀ f, f ≠ 5 → S2 (0, 0, 0, 0) f = S (0, 0, 0, 0) f := fun f hf => hS _ _ (by
    rintro (z | z | z | z)
    · cases z
    · exact hf z.2
    · cases z.1
    · cases z)
  have s10 : ∀ t' f, ¬ (t' = t ∧ f = x) → S2 (10, t', 0, 0) f = S (10, t', 0, 0) f := fun t' f hne => hS _ _ (by
    rintro (z | z | z | z)
    · cases z
    · cases z.1
    · obtain ⟨z1, z2⟩ := z
      cases z1
      exact hne ⟨rfl, z2⟩
    · cases z)
  have hJh : ∀ g, 0 ≤ g → g < 4 → N (69, 0, 0, 0) (g * 80 + M (40, 0, 0, 0) 11) = 0 ∧ N (70, 0, 0, 0) (g * 80 + M (40, 0, 0, 0) 11) = 0 ∧ N (71, 0, 0, 0) (g * 80 + M (40, 0, 0, 0) 11) = 0 := fun g g1 g2 => by
    rw [nk 69 _ (by decide), nk 70 _ (by decide), nk 71 _ (by decide)]
    exact b3 g (M (40, 0, 0, 0) 11) g1 g2 hf11.1 (by omega) (Or.inr (by omega))
  have X1 : xX P2 S2 N := by
    refine ⟨⟨⟨?_, fun t' ht' => ?_, fun t' p' o' g1 g2 g3 => ?_, fun t' p' o' g1 g2 g3 => ?_⟩, fun x' h1 h2 => ?_, fun op e hm f => ?_, fun g r hg h1 h2 => ?_, ?_⟩, fun g p hg hp => ?_, fun g p o hg hp ho => ?_, fun g t' p' o' hg ht' hne hp' ho' => ?_, fun g m h1 h2 h3 h6 h7 => ?_, fun g p o hg hp h1 h2 => ?_, fun j hj => ?_⟩
    · obtain ⟨k1, k2, k3, k4, k5⟩ := a1
      refine ⟨?_, ?_, ?_, ?_, ?_⟩
      · rw [n40 1 (by decide), s0 6 (by decide)]; exact k1
      · rw [n40 2 (by decide), s0 7 (by decide)]; exact k2
      · rw [n40 3 (by decide), s0 8 (by decide)]; exact k3
      · rw [n11, h5, k4]
      · rw [n40 20 (by decide), s0 4 (by decide)]; exact k5
    · have ht2 : inT P t' := (iT _).mp ht'
      obtain ⟨k1, k2, k3, k4⟩ := a2 t' ht2
      refine ⟨by rw [nk 46 _ (by decide), sk 8 _ _ _ _ (by decide) (by decide) (by decide) (by decide)]; exact k1, by rw [nk 50 _ (by decide), sk 8 _ _ _ _ (by decide) (by decide) (by decide) (by decide)]; exact k2, fun x' h1 h2 => ?_, fun p' hp' => by rw [nk 47 _ (by decide), sk 11 _ _ _ _ (by decide) (by decide) (by decide) (by decide)]; exact k4 p' ((iP _ _).mp hp')⟩
      by_cases hc : t' = t ∧ x' = x
      · obtain ⟨rfl, rfl⟩ := hc
        rw [n49, if_pos rfl, h10]
      · rw [n49, if_neg (fun z => hc (by constructor <;> omega)), s10 _ _ hc]
        exact k3 x' h1 h2
    · rcases oM t' p' o' g1 g2 g3 with ⟨rfl, rfl, rfl⟩ | ⟨⟨g1', g2', g3'⟩, hne⟩
      · rw [mnew, n11, n52, n53, n54, n55, n56, nk 58 _ (by decide), hm0, if_pos rfl, if_pos rfl, if_pos rfl, if_pos rfl, if_pos rfl]
        obtain ⟨i1, i2, i3, i4, i5, i6⟩ := h14
        rw [i1, i2, i3, i5, i6]
        exact ⟨⟨hf11.1, by omega⟩, rfl, rfl, rfl, rfl, a1.1, rfl, a8.2.2 _ (by omega) (by omega)⟩
      · have hm := hold t' p' o' g1' g2' g3'
        rw [mold t' p' o' g1' g2' g3', n11, n52, n53, n54, n55, n56, nk 58 _ (by decide), hmN _ hm, if_neg hm, if_neg hm, if_neg hm, if_neg hm, if_neg hm, s14 _ _ _ _ hne, s14 _ _ _ _ hne, s14 _ _ _ _ hne, s14 _ _ _ _ hne, s14 _ _ _ _ hne]
        obtain ⟨k1, k2⟩ := a3 t' p' o' g1' g2' g3'
        exact ⟨⟨k1.1, by omega⟩, k2⟩
    · rcases oM t' p' o' g1 g2 g3 with ⟨rfl, rfl, rfl⟩ | ⟨⟨g1', g2', g3'⟩, hne⟩
      · obtain ⟨d1, d2, d3, d4⟩ := a5 x hx.1 hx.2
        obtain ⟨i1, i2, i3, i4, i5, i6⟩ := h14
        rw [mnew, n57, if_pos rfl, i5, i4, n40 20 (by decide)]
        refine ⟨fun z => ?_, fun x' k1 k2 k3 k4 => ?_, ?_⟩
        · have hc : ¬ S (3, 0, 0, 0) x = 0 := fun z2 => by rw [if_pos z2] at z; omega
          rw [nk 62 _ (by decide)]
          exact ⟨hx, rfl, fun z2 => hc (d1.mpr z2)⟩
        · rw [nk 62 _ (by decide)] at k3 k4
          have hne : ¬ M (62, 0, 0, 0) x = -1 := by rw [k4]; exact k3
          have hxx := d4 x' k1 k2 k4 hne
          exact ⟨if_neg (fun z => hne (d1.mp z)), hxx⟩
        · by_cases hne : M (62, 0, 0, 0) x = -1
          · omega
          · exact (d3 hne).1.2
      · have hm := hold t' p' o' g1' g2' g3'
        obtain ⟨t1, t2, t3⟩ := a4 t' p' o' g1' g2' g3'
        rw [mold t' p' o' g1' g2' g3', n57, if_neg hm, s14 _ _ _ _ hne, s14 _ _ _ _ hne, n40 20 (by decide)]
        refine ⟨fun z => ?_, fun x' k1 k2 k3 k4 => ?_, t3⟩
        · rw [nk 62 _ (by decide)]; exact t1 z
        · rw [nk 62 _ (by decide)] at k3 k4; exact t2 x' k1 k2 k3 k4
    · obtain ⟨d1, d2, d3, d4⟩ := a5 x' h1 h2
      rw [sk 3 _ _ _ _ (by decide) (by decide) (by decide) (by decide), nk 62 _ (by decide), nk 61 _ (by decide), n40 20 (by decide)]
      refine ⟨d1, d2, d3, fun y k1 k2 k3 k4 => ?_⟩
      rw [nk 62 _ (by decide)] at k3
      exact d4 y k1 k2 k3 k4
    · rw [n11, fo_last hm _ _ _ hf11.1 rfl, a6 op e hm f]
      unfold fo3
      rw [c0]
      refine (fo_upd hm (c := t) (x := f (M (40, 0, 0, 0) 11)) _ _ _ rfl ht.1 ht.2 ?_ (fun t' k1 k2 k3 => ?_)).symm
      · rw [c1]
        refine fo_upd hm (c := q) (x := f (M (40, 0, 0, 0) 11)) _ _ _ rfl hq.1 hq.2 ?_ (fun p' k1 k2 k3 => ?_)
        · rw [e3, fo_last hm _ _ _ hN.1 rfl]
          dsimp only
          rw [mnew]
          congr 1
          exact fo_cg (fun o' k1 k2 => by rw [mold t q o' ht hq ⟨k1, k2⟩])
        · rw [e2 t p' (fun z => k3 z.2)]
          exact fo_cg (fun o' k4 k5 => by
            show f (mi N t p' o') = f (mi M t p' o')
            rw [mold t p' o' ht ⟨k1, k2⟩ ⟨k4, k5⟩])
      · rw [c1]
        refine fo_cg (fun p' k4 k5 => ?_)
        rw [e2 t' p' (fun z => k3 z.1)]
        exact fo_cg (fun o' k6 k7 => by
          show f (mi N t' p' o') = f (mi M t' p' o')
          rw [mold t' p' o' ⟨k1, k2⟩ ⟨k4, k5⟩ ⟨k6, k7⟩])
    · rw [nk 68 _ (by decide), sk 17 _ _ _ _ (by decide) (by decide) (by decide) (by decide)]
      exact a7 g r (oG g hg) h1 h2
    · obtain ⟨j1, j2, j3⟩ := a8
      refine ⟨fun t' k1 k2 => ?_, fun g r k1 k2 k3 k4 => ?_, fun m k1 k2 => ?_⟩
      · rw [c0] at k1
        obtain ⟨l1, l2, l3⟩ := j1 t' k1 k2
        have ht2 := ht.2
        refine ⟨by rw [nk 46 _ (by decide)]; exact l1, fun p' k3 k4 => ?_, fun x' k3 k4 => by rw [n49, if_neg (by omega)]; exact l3 x' k3 k4⟩
        rw [nk 47 _ (by decide)]
        refine ⟨(l2 p' k3 k4).1, ?_⟩
        rw [n48 (t' * 4 + p') (by omega)]
        exact (l2 p' k3 k4).2
      · rw [c3] at k1
        rw [nk 68 _ (by decide)]; exact j2 g r k1 k2 k3 k4
      · rw [n11] at k1
        rw [nk 58 _ (by decide)]; exact j3 m (by omega) k2
    · have hg' := oG g hg
      rw [nk 65 _ (by decide), nk 66 _ (by decide), nk 67 _ (by decide), sk 18 _ _ _ _ (by decide) (by decide) (by decide) (by decide), sk 18 _ _ _ _ (by decide) (by decide) (by decide) (by decide), sk 18 _ _ _ _ (by decide) (by decide) (by decide) (by decide)]
      exact a9 g p hg' (oQ g p hp)
    · have hg' := oG g hg
      have hp' := oQ g p hp
      show N (69, 0, 0, 0) (g * 80 + mi N (P2 4 g 0) p o) = (if ¬ S2 (14, P2 4 g 0, p, o) 5 = 0 ∧ (S2 (19, g, p, 0) o = 1 ∨ S2 (19, g, p, 0) o = 2) then 0 else S2 (19, g, p, 0) o) ∧ N (70, 0, 0, 0) (g * 80 + mi N (P2 4 g 0) p o) = (if ¬ S2 (14, P2 4 g 0, p, o) 5 = 0 ∧ (S2 (19, g, p, 0) o = 1 ∨ S2 (19, g, p, 0) o = 2) then 0 else S2 (20, g, p, 0) o) ∧ N (71, 0, 0, 0) (g * 80 + mi N (P2 4 g 0) p o) = S2 (21, g, p, 0) o
      rw [sk 19 _ _ _ _ (by decide) (by decide) (by decide) (by decide), sk 20 _ _ _ _ (by decide) (by decide) (by decide) (by decide), sk 21 _ _ _ _ (by decide) (by decide) (by decide) (by decide)]
      rcases oQM g p o hg' hp' ho with ⟨z1, z2, z3⟩ | ⟨ho', hne⟩
      · obtain ⟨k1, k2, k3⟩ := b4 g p o hg' hp' (by rw [z1, z2, z3]; omega) (by omega)
        rw [c4, z1, z2, z3, mnew, h14.2.2.2.2.2]
        rw [z2, z3] at k1 k2 k3
        rw [k1, k2, k3]
        obtain ⟨l1, l2, l3⟩ := hJh g hg'.1 (by have := hg'.2; omega)
        rw [l1, l2, l3]
        exact ⟨rfl, rfl, rfl⟩
      · rw [c4, s14 _ _ _ _ hne, mold _ _ _ (hV.qg hg') hp' ho', nk 69 _ (by decide), nk 70 _ (by decide), nk 71 _ (by decide)]
        exact b1 g p o hg' hp' ho'
    · have hg' := oG g hg
      rw [c4] at hne
      rcases oM t' p' o' ht' hp' ho' with ⟨rfl, rfl, rfl⟩ | ⟨⟨g1', g2', g3'⟩, hne'⟩
      · rw [mnew]
        exact (hJh g hg'.1 (by have := hg'.2; omega)).1
      · rw [mold _ _ _ g1' g2' g3', nk 69 _ (by decide)]
        exact b2 g t' p' o' hg' g1' hne g2' g3'
    · rw [n11, c3] at h7
      rw [nk 69 _ (by decide), nk 70 _ (by decide), nk 71 _ (by decide)]
      exact b3 g m h1 h2 h3 h6 (h7.imp id (fun z => by omega))
    · have hg' := oG g hg
      have hp' := oQ g p hp
      rw [sk 19 _ _ _ _ (by decide) (by decide) (by decide) (by decide), sk 20 _ _ _ _ (by decide) (by decide) (by decide) (by decide), sk 21 _ _ _ _ (by decide) (by decide) (by decide) (by decide)]
      refine b4 g p o hg' hp' ?_ h2
      rw [c4] at h1
      by_cases hc : P 4 g 0 = t ∧ p = q
      · rw [hc.1, hc.2] at h1 ⊢
        rw [e3] at h1
        omega
      · rw [e2 _ _ hc] at h1
        exact h1
    · rw [nk 69 _ (by decide)] at hj
      rw [nk 70 _ (by decide)]
      exact b5 j hj
  have Z1 : xZ P2 S2 := fun g p hg hp => by
    have hg' := oG g hg
    have hp' := oQ g p hp
    obtain ⟨z1, z2, z3⟩ := hZ g p hg' hp'
    have s18 : ∀ f, S2 (18, g, p, 0) f = S (18, g, p, 0) f := fun f => sk 18 _ _ _ _ (by decide) (by decide) (by decide) (by decide)
    have s19 : ∀ f, S2 (19, g, p, 0) f = S (19, g, p, 0) f := fun f => sk 19 _ _ _ _ (by decide) (by decide) (by decide) (by decide)
    refine ⟨fun o ho z => ?_, fun z => ?_, by rw [s18, s18]; exact z3⟩
    · have z9 : ¬ S2 (14, P2 4 g 0, p, o) 5 = 0 ∧ (S2 (19, g, p, 0) o = 1 ∨ S2 (19, g, p, 0) o = 2) := z
      rw [c4, s19] at z9
      rcases oQM g p o hg' hp' ho with ⟨y1, y2, y3⟩ | ⟨ho', hne⟩
      · rw [y1, y2, y3] at z9
        exact z9.1 h14.2.2.2.2.2
      · rw [s14 _ _ _ _ hne] at z9
        exact z1 o ho' z9
    · have z9 : S2 (18, g, p, 0) 5 < P2 2 (P2 4 g 0) p ∧ (¬ S2 (14, P2 4 g 0, p, S2 (18, g, p, 0) 5) 5 = 0 ∨ S2 (14, P2 4 g 0, p, S2 (18, g, p, 0) 5) 4 = 1 ∨ (S2 (19, g, p, 0) (S2 (18, g, p, 0) 5) = 3 ∨ S2 (19, g, p, 0) (S2 (18, g, p, 0) 5) = 4)) := z
      rw [s18, s19] at z9
      have hm5 := hW.m hg' hp'
      rcases oQM g p (S (18, g, p, 0) 5) hg' hp' ⟨hm5.1.1, z9.1⟩ with ⟨y1, y2, y3⟩ | ⟨ho', hne⟩
      · have hk0 := (b4 g p (S (18, g, p, 0) 5) hg' hp' (by rw [show P 2 (P 4 g 0) p = P 2 t q by rw [y1, y2]]; omega) (by omega)).1
        have z8 := z9.2
        rw [hk0, c4] at z8
        rw [y3, y1, y2, h14.2.2.2.2.2, h14.2.2.2.2.1] at z8
        rcases z8 with z8 | z8 | z8
        · exact z8 rfl
        · by_cases hc : S (3, 0, 0, 0) x = 0
          · rw [if_pos hc] at z8; omega
          · rw [if_neg hc] at z8; omega
        · omega
      · rw [c4, s14 _ _ _ _ hne, s14 _ _ _ _ hne] at z9
        exact z2 ⟨ho'.2, z9.2⟩
  have L1 : rL S2 N := rL_fr (fun j f hj => by
    obtain ⟨n, i, j', o⟩ := j
    have hj' : n = 1 ∨ n = 2 := hj
    exact sk n _ _ _ _ (by omega) (by omega) (by omega) (by omega)) (n40 32 (by decide)) (fun f => nk 73 _ (by decide)) hL
  obtain ⟨r1, r2⟩ := r_none X1 hVN Z1
  refine ⟨r1, rL_fr (fun _ _ _ => rfl) msa_40 (fun _ => msa_73) L1, Z1, ⟨fun g p hg hp => ?_, fun g p o hg hp => ?_, fun t' x' ht' h1 h2 => ?_⟩, ?_, r2, hP2⟩
  · rw [sk 18 _ _ _ _ (by decide) (by decide) (by decide) (by decide), hY.1 g p (oG g hg) (oQ g p hp)]
    exact zsr_cg (by rw [c4, c1]) (fun r _ _ => by
      show ¬ S (17, g, 0, 0) r = _ ↔ ¬ S2 (17, g, 0, 0) r = _
      rw [sk 17 _ _ _ _ (by decide) (by decide) (by decide) (by decide)])
  · rw [sk 19 _ _ _ _ (by decide) (by decide) (by decide) (by decide), sk 20 _ _ _ _ (by decide) (by decide) (by decide) (by decide)]
    exact hY.2.1 g p o (oG g hg) (oQ g p hp)
  · have ht2 : inT P t' := (iT _).mp ht'
    have := hY.2.2 t' x' ht2 h1 h2
    rw [h5]
    by_cases hc : t' = t ∧ x' = x
    · rw [hc.1, hc.2, h10]; omega
    · rw [s10 _ _ hc]; omega
  · obtain ⟨w1, w2, w3, w4, w5, w6, w7, w8⟩ := hW
    refine ⟨hR, fun t' p' o' => ?_, fun t' p' ht' hp' => ?_, fun g p hg hp => ?_, fun g p o => by rw [sk 21 _ _ _ _ (by decide) (by decide) (by decide) (by decide)]; exact w5 g p o, fun g p o => by rw [sk 20 _ _ _ _ (by decide) (by decide) (by decide) (by decide), sk 19 _ _ _ _ (by decide) (by decide) (by decide) (by decide)]; exact w6 g p o, by rw [s0 6 (by decide), s0 7 (by decide), s0 8 (by decide)]; exact w7, by rw [sk 1 _ _ _ _ (by decide) (by decide) (by decide) (by decide)]; exact w8⟩
    · by_cases hc : t' = t ∧ p' = q ∧ o' = P 2 t q
      · obtain ⟨rfl, rfl, rfl⟩ := hc
        exact hb14 2 rfl
      · rw [s14 _ _ _ _ hc]; exact w2 t' p' o'
    · have := w3 t' p' ((iT _).mp ht') ((iP _ _).mp hp')
      rw [sk 11 _ _ _ _ (by decide) (by decide) (by decide) (by decide)]
      by_cases hc : t' = t ∧ p' = q
      · obtain ⟨rfl, rfl⟩ := hc
        rw [e3]
        omega
      · rw [e2 _ _ hc]; exact this
    · have := w4 g p (oG g hg) (oQ g p hp)
      rw [sk 18 _ _ _ _ (by decide) (by decide) (by decide) (by decide), sk 18 _ _ _ _ (by decide) (by decide) (by decide) (by decide), c4]
      by_cases hc : P 4 g 0 = t ∧ p = q
      · rw [hc.1, hc.2] at this ⊢
        rw [e3]
        omega
      · rw [e2 _ _ hc]; exact this
end SEND
