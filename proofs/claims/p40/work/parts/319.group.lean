/-! ===== group: the relation with one more group; counters of lists ===== -/
section GROUP
variable {P P2 : zP} {S S2 M : zS}
theorem sm_zero {f : Int → Int} : ∀ (k : Nat) (a n : Int), (n - a).toNat = k → (∀ o, a ≤ o → o < n → f o = 0) → sm f a n = 0 := by
  intro k
  induction k with
  | zero => intro a n hk _; exact sm_end (by omega)
  | succ k ih =>
    intro a n hk hf
    rw [sm_step (by omega), hf a (by omega) (by omega), ih (a + 1) n (by omega) (fun o g1 g2 => hf o (by omega) g2)]
    omega
def kL (n : Nat) : Bool := n == 4 || (n == 6 || n == 12)
/-- counters of changes are seen by nobody -/
theorem xJ_ctr (h : xJ P S M) {S' : zS} (hS : zfr kL S S') (hR : ∀ k f, zR (S' k f)) : xJ P S' M := by
  obtain ⟨⟨⟨⟨a1, a2, a3, a4⟩, a5, a6, a7, a8⟩, a9, b1, b2, b3, b4, b5⟩, hL, hZ, hY, ⟨w1, w2, w3, w4, w5, w6, w7, w8⟩, hV, hP⟩ := h
  refine ⟨⟨⟨⟨?_, ?_, ?_, ?_⟩, ?_, a6, ?_, a8⟩, ?_, ?_, b2, b3, ?_, b5⟩, rL_fr (fun k f hk => hS _ _ (by rcases hk with e | e <;> rw [e] <;> rfl)) rfl (fun _ => rfl) hL, xZ_fr hS rfl rfl rfl hZ, xY_fr5 (hS _ _ rfl) (fun t f => hS _ _ rfl) (fun g f => hS _ _ rfl) (fun g p => hS _ _ rfl) (fun g p o hg hp => by rw [hS _ _ rfl, hS (20, g, p, 0) _ rfl]; exact hY.2.1 g p o hg hp) hY, ⟨hR, fun t p o => by rw [hS _ _ rfl]; exact w2 t p o, fun t p ht hp => by rw [hS _ _ rfl]; exact w3 t p ht hp, fun g p hg hp => by rw [hS _ _ rfl, hS _ _ rfl]; exact w4 g p hg hp, fun g p o => by rw [hS _ _ rfl]; exact w5 g p o, fun g p o => by rw [hS _ _ rfl, hS (19, g, p, 0) _ rfl]; exact w6 g p o, by rw [hS _ _ rfl, hS _ _ rfl, hS _ _ rfl]; exact w7, by rw [hS _ _ rfl]; exact w8⟩, hV, hP⟩
  · show rA (rq kL S') M
    rw [rq_eq hS]
    exact a1
  · show rB P (rq kL S') M
    rw [rq_eq hS]
    exact a2
  · show rC P (rq kL S') M
    rw [rq_eq hS]
    exact a3
  · show rT P (rq kL S') M
    rw [rq_eq hS]
    exact a4
  · show rD (rq kL S') M
    rw [rq_eq hS]
    exact a5
  · show rG P (rq kL S') M
    rw [rq_eq hS]
    exact a7
  · show rF P (rq kL S') M
    rw [rq_eq hS]
    exact a9
  · show rH P (rq kL S') M
    rw [rq_eq hS]
    exact b1
  · show rK P (rq kL S')
    rw [rq_eq hS]
    exact b4
theorem mgn_at {G t : Int} {n : Nat} (hn : n = 65 ∨ n = 66 ∨ n = 67) {f : Int} : lp (mgn1 G t) 0 4 M (n, 0, 0, 0) f = if G * 4 ≤ f ∧ f < G * 4 + 4 then (if n = 67 then -1 else M (47, 0, 0, 0) (t * 4 + (f - G * 4))) else M (n, 0, 0, 0) f := by
  have key := lp_ind (f := mgn1 G t) (fun o s => (∀ f, s (n, 0, 0, 0) f = if G * 4 ≤ f ∧ f < G * 4 + o then (if n = 67 then -1 else M (47, 0, 0, 0) (t * 4 + (f - G * 4))) else M (n, 0, 0, 0) f) ∧ ∀ f, s (47, 0, 0, 0) f = M (47, 0, 0, 0) f) _ 0 4 M (by omega) rfl ⟨fun f => by rw [if_neg (by omega)], fun _ => rfl⟩ (fun o s h1 h2 hs => ?_)
  · exact key.1 f
  · obtain ⟨i1, i2⟩ := hs
    have e47 : ∀ f, mgn1 G t o s (47, 0, 0, 0) f = s (47, 0, 0, 0) f := fun f => by
      unfold mgn1
      rw [zst_k _ _ _ _ (by simp), zst_k _ _ _ _ (by simp), zst_k _ _ _ _ (by simp)]
    refine ⟨fun f => ?_, fun f => by rw [e47]; exact i2 f⟩
    have e : mgn1 G t o s (n, 0, 0, 0) f = if f = G * 4 + o then (if n = 67 then -1 else s (47, 0, 0, 0) (t * 4 + o)) else s (n, 0, 0, 0) f := by
      unfold mgn1
      rcases hn with rfl | rfl | rfl <;> simp [zst_at]
    rw [e]
    by_cases hc : f = G * 4 + o
    · rw [if_pos hc, if_pos (show G * 4 ≤ f ∧ f < G * 4 + (o + 1) by omega), i2, show f - G * 4 = o by omega]
    · rw [if_neg hc, i1]
      by_cases hd : G * 4 ≤ f ∧ f < G * 4 + o
      · rw [if_pos hd, if_pos (show G * 4 ≤ f ∧ f < G * 4 + (o + 1) by omega)]
      · rw [if_neg hd, if_neg (show ¬ (G * 4 ≤ f ∧ f < G * 4 + (o + 1)) by omega)]
def m3 (n : Nat) : Bool := n == 65 || (n == 66 || n == 67)
theorem mgn_fr {G t : Int} : zfr m3 M (lp (mgn1 G t) 0 4 M) := lp_fr (fun o s => ((zfr.rf.st rfl).st rfl).st rfl)
theorem o_group (h : xJ P S M) {t : Int} (ht : inT P t) (h4 : P 3 0 0 < 4) (hg : zgg P P2 t) (hP2 : zWP P2) (hR : ∀ k f, zR (S2 k f))
    (hS : ∀ (j : zK) f, ¬ (j.2.1 = P 3 0 0 ∧ 15 ≤ j.1 ∧ j.1 ≤ 21) → S2 j f = S j f)
    (h17 : ∀ f, S2 (17, P 3 0 0, 0, 0) f = 0) (h18 : ∀ p, S2 (18, P 3 0 0, p, 0) 4 = -1 ∧ S2 (18, P 3 0 0, p, 0) 5 = S (11, t, p, 0) 1 ∧ S2 (18, P 3 0 0, p, 0) 6 = S (11, t, p, 0) 1) (h19 : ∀ p f, S2 (19, P 3 0 0, p, 0) f = 0 ∧ S2 (20, P 3 0 0, p, 0) f = 0 ∧ S2 (21, P 3 0 0, p, 0) f = 0) :
    xJ P2 (zkG P2 (P 3 0 0) S2) (msa P2 (zst (lp (mgn1 (P 3 0 0) t) 0 4 (zst M (64, 0, 0, 0) (P 3 0 0) t)) (40, 0, 0, 0) 23 (P 3 0 0 + 1))) ∧ zWS P2 S2 := by
  obtain ⟨hX, hL, hZ, hY, hW, hV, hP⟩ := id h
  obtain ⟨⟨⟨a1, a2, a3, a4⟩, a5, a6, a7, a8⟩, a9, b1, b2, b3, b4, b5⟩ := hX
  obtain ⟨e1, e2, e3, e4⟩ := id hg
  have c0 : P2 0 0 0 = P 0 0 0 := e1 0 0 0 (by decide) (by decide) (by decide) (by decide)
  have c61 : P2 61 0 0 = P 61 0 0 := e1 61 0 0 (by decide) (by decide) (by decide) (by decide)
  have c1 : ∀ i j, P2 1 i j = P 1 i j := fun i j => e1 1 i j (by decide) (by decide) (by decide) (by decide)
  have c2 : ∀ i j, P2 2 i j = P 2 i j := fun i j => e1 2 i j (by decide) (by decide) (by decide) (by decide)
  have hqq := hV.q
  have hf11 := hV.f11
  have iT : ∀ t, inT P2 t ↔ inT P t := fun t => by
    show (0 ≤ t ∧ t < P2 0 0 0) ↔ _
    rw [c0]
  have iP : ∀ t p, inP P2 t p ↔ inP P t p := fun t p => by
    show (0 ≤ p ∧ p < P2 1 t 0) ↔ _
    rw [c1]
  have iM : ∀ t p o, inM P2 t p o ↔ inM P t p o := fun t p o => by
    show (0 ≤ o ∧ o < P2 2 t p) ↔ _
    rw [c2]
  have oG : ∀ g, inG P2 g → g = P 3 0 0 ∨ (inG P g ∧ g ≠ P 3 0 0) := fun g hg => by
    by_cases hc : g = P 3 0 0
    · exact Or.inl hc
    · have := hg.2
      rw [e4] at this
      exact Or.inr ⟨⟨hg.1, by omega⟩, hc⟩
  have g4n : P2 4 (P 3 0 0) 0 = t := e3
  have g4o : ∀ g, g ≠ P 3 0 0 → P2 4 g 0 = P 4 g 0 := fun g hg => e2 g hg
  have hV0 : zWM P (lp (mgn1 (P 3 0 0) t) 0 4 (zst M (64, 0, 0, 0) (P 3 0 0) t)) := by
    refine lp_ind (f := mgn1 (P 3 0 0) t) (fun _ s => zWM P s) _ 0 4 _ (by omega) rfl (hV.s64n (fun q => by omega) ⟨by omega, by omega⟩) (fun p s _ _ hs => ?_)
    have b47 := hs.b47 (t * 4 + p)
    exact ((hs.s65 b47).s66 b47).s67 ⟨by omega, by omega⟩
  have h64 : lp (mgn1 (P 3 0 0) t) 0 4 (zst M (64, 0, 0, 0) (P 3 0 0) t) (64, 0, 0, 0) (P 3 0 0) = t := by rw [mgn_fr _ _ rfl, zst_s]
  have hVN : zWM P2 (zst (lp (mgn1 (P 3 0 0) t) 0 4 (zst M (64, 0, 0, 0) (P 3 0 0) t)) (40, 0, 0, 0) 23 (P 3 0 0 + 1)) := by
    have := hV0.group ht hg h4 h64
    rw [hV0.g23] at this
    exact this
  have nk : ∀ (n : Nat) f, ¬ (n = 64 ∨ n = 65 ∨ n = 66 ∨ n = 67 ∨ n = 40) → zst (lp (mgn1 (P 3 0 0) t) 0 4 (zst M (64, 0, 0, 0) (P 3 0 0) t)) (40, 0, 0, 0) 23 (P 3 0 0 + 1) (n, 0, 0, 0) f = M (n, 0, 0, 0) f := fun n f hn => by
    simp only [not_or] at hn
    rw [zst_k _ _ _ _ (fun q => hn.2.2.2.2 (congrArg Prod.fst q)), mgn_fr _ _ (by simp [m3, hn]), zst_k _ _ _ _ (fun q => hn.1 (congrArg Prod.fst q))]
  have n40 : ∀ f, f ≠ 23 → zst (lp (mgn1 (P 3 0 0) t) 0 4 (zst M (64, 0, 0, 0) (P 3 0 0) t)) (40, 0, 0, 0) 23 (P 3 0 0 + 1) (40, 0, 0, 0) f = M (40, 0, 0, 0) f := fun f hf => by
    rw [zst_f _ _ _ hf, mgn_fr _ _ rfl, zst_k _ _ _ _ (by simp)]
  have n3 : ∀ (n : Nat) f, n = 65 ∨ n = 66 ∨ n = 67 → zst (lp (mgn1 (P 3 0 0) t) 0 4 (zst M (64, 0, 0, 0) (P 3 0 0) t)) (40, 0, 0, 0) 23 (P 3 0 0 + 1) (n, 0, 0, 0) f = if P 3 0 0 * 4 ≤ f ∧ f < P 3 0 0 * 4 + 4 then (if n = 67 then -1 else M (47, 0, 0, 0) (t * 4 + (f - P 3 0 0 * 4))) else M (n, 0, 0, 0) f := fun n f hn => by
    rw [zst_k _ _ _ _ (fun q => by have := congrArg Prod.fst q; simp only at this; omega), mgn_at hn, zst_k (k' := (47, 0, 0, 0)) _ _ _ _ (by simp), zst_k (k' := (n, 0, 0, 0)) _ _ _ _ (fun q => by have := congrArg Prod.fst q; simp only at this; omega)]
  generalize zst (lp (mgn1 (P 3 0 0) t) 0 4 (zst M (64, 0, 0, 0) (P 3 0 0) t)) (40, 0, 0, 0) 23 (P 3 0 0 + 1) = N at hVN nk n40 n3 ⊢
  have hmS : ∀ m, mS N m = mS M m := fun m => by
    unfold mS
    rw [nk 57 m (by decide), nk 61 _ (by decide)]
  have e59 : ∀ t p o, mi N t p o = mi M t p o := fun t p o => nk 59 _ (by decide)
  have sk : ∀ (n : Nat) i j o f, n < 15 → S2 (n, i, j, o) f = S (n, i, j, o) f := fun n i j o f hn => hS _ _ (fun z => by have := z.2.1; simp only at this; omega)
  have so : ∀ (n : Nat) i j o f, i ≠ P 3 0 0 → S2 (n, i, j, o) f = S (n, i, j, o) f := fun n i j o f hn => hS _ _ (fun z => hn z.1)
  have X1 : xX P2 S2 N := by
    refine ⟨⟨⟨?_, fun t' ht' => ?_, fun t' p' o' g1 g2 g3 => ?_, fun t' p' o' g1 g2 g3 => ?_⟩, fun x' h1 h2 => ?_, fun op e hm f => ?_, fun g r hg h1 h2 => ?_, ?_⟩, fun g p hg hp => ?_, fun g p o hg hp ho => ?_, fun g t' p' o' hg ht' hne hp' ho' => ?_, fun g m h1 h2 h3 h6 h7 => ?_, fun g p o hg hp h1 h2 => ?_, fun j hj => ?_⟩
    · obtain ⟨k1, k2, k3, k4, k5⟩ := a1
      refine ⟨?_, ?_, ?_, ?_, ?_⟩ <;> rw [n40 _ (by decide), sk 0 _ _ _ _ (by omega)] <;> assumption
    · obtain ⟨k1, k2, k3, k4⟩ := a2 t' ((iT _).mp ht')
      exact ⟨by rw [nk 46 _ (by decide), sk 8 _ _ _ _ (by omega)]; exact k1, by rw [nk 50 _ (by decide), sk 8 _ _ _ _ (by omega)]; exact k2, fun x' h1 h2 => by rw [nk 49 _ (by decide), sk 10 _ _ _ _ (by omega)]; exact k3 x' h1 h2, fun p' hp' => by rw [nk 47 _ (by decide), sk 11 _ _ _ _ (by omega)]; exact k4 p' ((iP _ _).mp hp')⟩
    · rw [e59, hmS, n40 11 (by decide), nk 52 _ (by decide), nk 53 _ (by decide), nk 54 _ (by decide), nk 55 _ (by decide), nk 56 _ (by decide), nk 58 _ (by decide), sk 14 _ _ _ _ (by omega), sk 14 _ _ _ _ (by omega), sk 14 _ _ _ _ (by omega), sk 14 _ _ _ _ (by omega), sk 14 _ _ _ _ (by omega)]
      exact a3 t' p' o' ((iT _).mp g1) ((iP _ _).mp g2) ((iM _ _ _).mp g3)
    · obtain ⟨t1, t2, t3⟩ := a4 t' p' o' ((iT _).mp g1) ((iP _ _).mp g2) ((iM _ _ _).mp g3)
      rw [e59, nk 57 _ (by decide), n40 20 (by decide), sk 14 _ _ _ _ (by omega), sk 14 _ _ _ _ (by omega)]
      refine ⟨fun z => ?_, fun x' k1 k2 k3 k4 => ?_, t3⟩
      · rw [nk 62 _ (by decide)]; exact t1 z
      · rw [nk 62 _ (by decide)] at k3 k4; exact t2 x' k1 k2 k3 k4
    · obtain ⟨d1, d2, d3, d4⟩ := a5 x' h1 h2
      rw [sk 3 _ _ _ _ (by omega), nk 62 _ (by decide), nk 61 _ (by decide), n40 20 (by decide)]
      refine ⟨d1, d2, d3, fun y k1 k2 k3 k4 => ?_⟩
      rw [nk 62 _ (by decide)] at k3
      exact d4 y k1 k2 k3 k4
    · rw [n40 11 (by decide), a6 op e hm f]
      unfold fo3
      rw [c0]
      refine fo_cg (fun t' _ _ => ?_)
      rw [c1]
      refine fo_cg (fun p' _ _ => ?_)
      rw [c2]
      refine fo_cg (fun o' _ _ => ?_)
      show f (mi M t' p' o') = f (mi N t' p' o')
      rw [e59]
    · rw [nk 68 _ (by decide)]
      rcases oG g hg with rfl | ⟨hg', hne⟩
      · rw [h17]
        exact ⟨a8.2.1 _ r (by omega) h4 h1 h2, Or.inl rfl⟩
      · rw [so 17 _ _ _ _ hne]
        exact a7 g r hg' h1 h2
    · obtain ⟨j1, j2, j3⟩ := a8
      refine ⟨fun t' k1 k2 => ?_, fun g r k1 k2 k3 k4 => ?_, fun m k1 k2 => ?_⟩
      · rw [c0] at k1
        obtain ⟨l1, l2, l3⟩ := j1 t' k1 k2
        exact ⟨by rw [nk 46 _ (by decide)]; exact l1, fun p' k3 k4 => by rw [nk 47 _ (by decide), nk 48 _ (by decide)]; exact l2 p' k3 k4, fun x' k3 k4 => by rw [nk 49 _ (by decide)]; exact l3 x' k3 k4⟩
      · rw [e4] at k1
        rw [nk 68 _ (by decide)]; exact j2 g r (by omega) k2 k3 k4
      · rw [n40 11 (by decide)] at k1
        rw [nk 58 _ (by decide)]; exact j3 m k1 k2
    · rcases oG g hg with rfl | ⟨hg', hne⟩
      · have hp2 := hp.2
        rw [g4n, c1] at hp2
        have hN := hV.qt ht
        obtain ⟨k1, k2, k3⟩ := h18 p
        have hin : P 3 0 0 * 4 ≤ P 3 0 0 * 4 + p ∧ P 3 0 0 * 4 + p < P 3 0 0 * 4 + 4 := by
          have := hp.1
          omega
        have u5 := n3 65 (P 3 0 0 * 4 + p) (by decide)
        have u6 := n3 66 (P 3 0 0 * 4 + p) (by decide)
        have u7 := n3 67 (P 3 0 0 * 4 + p) (by decide)
        rw [if_pos hin, if_neg (by decide), show t * 4 + (P 3 0 0 * 4 + p - P 3 0 0 * 4) = t * 4 + p by omega] at u5 u6
        rw [if_pos hin, if_pos rfl] at u7
        rw [u5, u6, u7, k1, k2, k3]
        have := (a2 t ht).2.2.2 p ⟨hp.1, hp2⟩
        exact ⟨this, this, rfl⟩
      · have hp' : inQ P g p := by
          have := hp.2
          rw [g4o g hne, c1] at this
          exact ⟨hp.1, this⟩
        have hN := hV.qt (hV.qg hg')
        have := hg'.2
        rw [n3 65 _ (by decide), n3 66 _ (by decide), n3 67 _ (by decide), if_neg (by omega), if_neg (by omega), if_neg (by omega), so 18 _ _ _ _ hne, so 18 _ _ _ _ hne, so 18 _ _ _ _ hne]
        exact a9 g p hg' hp'
    · show N (69, 0, 0, 0) (g * 80 + mi N (P2 4 g 0) p o) = (if ¬ S2 (14, P2 4 g 0, p, o) 5 = 0 ∧ (S2 (19, g, p, 0) o = 1 ∨ S2 (19, g, p, 0) o = 2) then 0 else S2 (19, g, p, 0) o) ∧ N (70, 0, 0, 0) (g * 80 + mi N (P2 4 g 0) p o) = (if ¬ S2 (14, P2 4 g 0, p, o) 5 = 0 ∧ (S2 (19, g, p, 0) o = 1 ∨ S2 (19, g, p, 0) o = 2) then 0 else S2 (20, g, p, 0) o) ∧ N (71, 0, 0, 0) (g * 80 + mi N (P2 4 g 0) p o) = S2 (21, g, p, 0) o
      rw [e59, nk 69 _ (by decide), nk 70 _ (by decide), nk 71 _ (by decide)]
      rcases oG g hg with rfl | ⟨hg', hne⟩
      · obtain ⟨k1, k2, k3⟩ := h19 p o
        rw [g4n] at ho ⊢
        have hp' : inP P t p := by
          have := hp.2
          rw [g4n, c1] at this
          exact ⟨hp.1, this⟩
        have hm := (a3 t p o ht hp' ((iM _ _ _).mp ho)).1
        obtain ⟨l1, l2, l3⟩ := b3 (P 3 0 0) (mi M t p o) (by omega) h4 (by omega) (by omega) (Or.inl (by omega))
        rw [k1, k2, k3, l1, l2, l3]
        refine ⟨?_, ?_, rfl⟩ <;> split <;> rfl
      · rw [g4o g hne] at ho ⊢
        have hp' : inQ P g p := by
          have := hp.2
          rw [g4o g hne, c1] at this
          exact ⟨hp.1, this⟩
        rw [sk 14 _ _ _ _ (by omega), so 19 _ _ _ _ hne, so 20 _ _ _ _ hne, so 21 _ _ _ _ hne]
        exact b1 g p o hg' hp' ((iM _ _ _).mp ho)
    · have ht2 := (iT _).mp ht'
      have hp2 := (iP _ _).mp hp'
      have ho2 := (iM _ _ _).mp ho'
      rw [nk 69 _ (by decide), e59]
      have hm := (a3 t' p' o' ht2 hp2 ho2).1
      rcases oG g hg with rfl | ⟨hg', hne'⟩
      · exact (b3 (P 3 0 0) (mi M t' p' o') (by omega) h4 (by omega) (by omega) (Or.inl (by omega))).1
      · rw [g4o g hne'] at hne
        exact b2 g t' p' o' hg' ht2 hne hp2 ho2
    · rw [n40 11 (by decide), e4] at h7
      rw [nk 69 _ (by decide), nk 70 _ (by decide), nk 71 _ (by decide)]
      exact b3 g m h1 h2 h3 h6 (h7.imp (fun z => by omega) id)
    · rcases oG g hg with rfl | ⟨hg', hne⟩
      · exact h19 p o
      · have hp' : inQ P g p := by
          have := hp.2
          rw [g4o g hne, c1] at this
          exact ⟨hp.1, this⟩
        rw [g4o g hne, c2] at h1
        rw [so 19 _ _ _ _ hne, so 20 _ _ _ _ hne, so 21 _ _ _ _ hne]
        exact b4 g p o hg' hp' h1 h2
    · rw [nk 69 _ (by decide)] at hj
      rw [nk 70 _ (by decide)]
      exact b5 j hj
  have Zo : ∀ g p, inG P2 g → inQ P2 g p → g ≠ P 3 0 0 → sg P2 S2 g p := fun g p hg hp hne => by
    rcases oG g hg with rfl | ⟨hg', -⟩
    · exact absurd rfl hne
    · have hp' : inQ P g p := by
        have := hp.2
        rw [g4o g hne, c1] at this
        exact ⟨hp.1, this⟩
      obtain ⟨z1, z2, z3⟩ := hZ g p hg' hp'
      refine ⟨fun o ho z => z1 o (by rw [g4o g hne] at ho; exact (iM _ _ _).mp ho) ?_, fun z => z2 ?_, by rw [so 18 _ _ _ _ hne, so 18 _ _ _ _ hne]; exact z3⟩
      · have z9 : ¬ S2 (14, P2 4 g 0, p, o) 5 = 0 ∧ (S2 (19, g, p, 0) o = 1 ∨ S2 (19, g, p, 0) o = 2) := z
        rw [g4o g hne, sk 14 _ _ _ _ (by omega), so 19 _ _ _ _ hne] at z9
        exact z9
      · have z9 : S2 (18, g, p, 0) 5 < P2 2 (P2 4 g 0) p ∧ (¬ S2 (14, P2 4 g 0, p, S2 (18, g, p, 0) 5) 5 = 0 ∨ S2 (14, P2 4 g 0, p, S2 (18, g, p, 0) 5) 4 = 1 ∨ (S2 (19, g, p, 0) (S2 (18, g, p, 0) 5) = 3 ∨ S2 (19, g, p, 0) (S2 (18, g, p, 0) 5) = 4)) := z
        rw [g4o g hne, c2, sk 14 _ _ _ _ (by omega), sk 14 _ _ _ _ (by omega), so 18 _ _ _ _ hne, so 19 _ _ _ _ hne] at z9
        exact z9
  have L1 : rL S2 N := rL_fr (fun j f hj => by
    obtain ⟨n, i, j', o⟩ := j
    have hj' : n = 1 ∨ n = 2 := hj
    exact sk n _ _ _ _ (by omega)) (n40 32 (by decide)) (fun f => nk 73 _ (by decide)) hL
  have W2 : zWS P2 S2 := by
    obtain ⟨w1, w2, w3, w4, w5, w6, w7, w8⟩ := hW
    refine ⟨hR, fun t' p' o' => by rw [sk 14 _ _ _ _ (by omega)]; exact w2 t' p' o', fun t' p' ht' hp' => by rw [sk 11 _ _ _ _ (by omega), c2]; exact w3 t' p' ((iT _).mp ht') ((iP _ _).mp hp'), fun g p hg hp => ?_, fun g p o => ?_, fun g p o => ?_, by rw [sk 0 _ _ _ _ (by omega), sk 0 _ _ _ _ (by omega), sk 0 _ _ _ _ (by omega)]; exact w7, by rw [sk 1 _ _ _ _ (by omega)]; exact w8⟩
    · rcases oG g hg with rfl | ⟨hg', hne⟩
      · obtain ⟨k1, k2, k3⟩ := h18 p
        have hp' : inP P t p := by
          have := hp.2
          rw [g4n, c1] at this
          exact ⟨hp.1, this⟩
        rw [k2, k3, g4n, c2]
        exact ⟨w3 t p ht hp', w3 t p ht hp'⟩
      · have hp' : inQ P g p := by
          have := hp.2
          rw [g4o g hne, c1] at this
          exact ⟨hp.1, this⟩
        rw [so 18 _ _ _ _ hne, so 18 _ _ _ _ hne, g4o g hne, c2]
        exact w4 g p hg' hp'
    · by_cases hne : g = P 3 0 0
      · rw [hne, (h19 p o).2.2]; exact ⟨by omega, by omega⟩
      · rw [so 21 _ _ _ _ hne]; exact w5 g p o
    · by_cases hne : g = P 3 0 0
      · rw [hne, (h19 p o).2.1, (h19 p o).1]; exact ⟨⟨by omega, by omega⟩, fun z => by omega⟩
      · rw [so 20 _ _ _ _ hne, so 19 _ _ _ _ hne]; exact w6 g p o
  have Y2 : xY P2 S2 := by
    refine ⟨fun g p hg hp => ?_, fun g p o hg hp => ?_, fun t' x' ht' h1 h2 => by rw [sk 0 _ _ _ _ (by omega), sk 10 _ _ _ _ (by omega)]; exact hY.2.2 t' x' ((iT _).mp ht') h1 h2⟩
    · rcases oG g hg with rfl | ⟨hg', hne⟩
      · rw [(h18 p).1]
        unfold zsr
        rw [if_pos]
        refine sm_zero _ _ _ rfl (fun r h1 h2 => ?_)
        show (if ¬ S2 (17, P 3 0 0, 0, 0) r = (if r = -1 then 1 else 0) then (1 : Int) else 0) = 0
        rw [h17, if_neg (show ¬ r = -1 by omega), if_neg (fun z => z rfl)]
      · have hp' : inQ P g p := by
          have := hp.2
          rw [g4o g hne, c1] at this
          exact ⟨hp.1, this⟩
        rw [so 18 _ _ _ _ hne, hY.1 g p hg' hp']
        exact zsr_cg (by rw [g4o g hne, c1]) (fun r _ _ => by
          show ¬ S (17, g, 0, 0) r = _ ↔ ¬ S2 (17, g, 0, 0) r = _
          rw [so 17 _ _ _ _ hne])
    · rcases oG g hg with rfl | ⟨hg', hne⟩
      · rw [(h19 p o).1, (h19 p o).2.1]
        exact ⟨fun z => by omega, fun _ => rfl⟩
      · have hp' : inQ P g p := by
          have := hp.2
          rw [g4o g hne, c1] at this
          exact ⟨hp.1, this⟩
        rw [so 19 _ _ _ _ hne, so 20 _ _ _ _ hne]
        exact hY.2.1 g p o hg' hp'
  obtain ⟨r1, r2, r3⟩ := r_sa X1 hVN
  have hGG : inG P2 (P 3 0 0) := ⟨by omega, by rw [e4]; omega⟩
  obtain ⟨-, -, -, q4⟩ := r_sG X1 hVN hGG
  have ek : zkA P2 S2 = zkG P2 (P 3 0 0) S2 := lp_only (f := zkG P2) hGG.1 hGG.2 (fun o g1 g2 => zkG_id (fun p hp => Zo o p ⟨g1, by rw [e4]; omega⟩ hp (by omega))) (fun o g1 g2 => by rw [e4] at g2; omega)
  have L2 := rL_kA (P := P2) L1
  have Y3 := xY_kA hVN Y2
  have W3 := zkA_W hP2 W2
  rw [ek] at r1 r2 L2 Y3 W3
  exact ⟨⟨r1, L2, r2, Y3, W3, r3, hP2⟩, W2⟩
end GROUP
