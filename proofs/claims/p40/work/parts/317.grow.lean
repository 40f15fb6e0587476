/-! ===== topic, send: the relation of larger shapes ===== -/
theorem sm_const : ∀ (k : Nat) (a n : Int), a ≤ n → (n - a).toNat = k → sm (fun _ => 1) a n = n - a := by
  intro k
  induction k with
  | zero => intro a n h hk; rw [sm_end (by omega)]; omega
  | succ k ih => intro a n h hk; rw [sm_step (by omega), ih (a + 1) n (by omega) (by omega)]; omega
theorem sm_ge {f : Int → Int} : ∀ (k : Nat) (a n c : Int), (n - a).toNat = k → (∀ o, a ≤ o → o < n → 0 ≤ f o) → a ≤ c → c < n → f c ≤ sm f a n := by
  intro k
  induction k with
  | zero => intro a n c hk _ h1 h2; omega
  | succ k ih =>
    intro a n c hk hf h1 h2
    rw [sm_step (by omega)]
    have h0 := hf a (by omega) (by omega)
    by_cases hc : c = a
    · subst hc
      by_cases hn : c + 1 < n
      · have := ih (c + 1) n (c + 1) (by omega) (fun o g1 g2 => hf o (by omega) g2) (by omega) hn
        have h9 := hf (c + 1) (by omega) hn
        omega
      · rw [sm_end (by omega)]
        omega
    · have := ih (a + 1) n c (by omega) (fun o g1 g2 => hf o (by omega) g2) (by omega) h2
      omega
theorem sm_sh {f : Int → Int} {d n : Int} : ∀ (k : Nat) (a : Int), (n - a).toNat = k → sm f (d + a) (d + n) = sm (fun o => f (d + o)) a n := by
  intro k
  induction k with
  | zero => intro a hk; rw [sm_end (by omega), sm_end (by omega)]
  | succ k ih =>
    intro a hk
    rw [sm_step (by omega), sm_step (f := fun o => f (d + o)) (by omega), show d + a + 1 = d + (a + 1) by omega, ih (a + 1) (by omega)]
section GROW
variable {P P2 : zP} {S S2 M M2 : zS}
theorem r_cnt (hE : rE P M) (hV : zWM P M) : sm (fun t => sm (fun p => P 2 t p) 0 (P 1 t 0)) 0 (P 0 0 0) = M (40, 0, 0, 0) 11 := by
  have hf := hV.f11
  have h := sm_E hE (f := fun _ => 1)
  rw [sm_const _ _ _ hf.1 rfl] at h
  rw [show M (40, 0, 0, 0) 11 = M (40, 0, 0, 0) 11 - 0 by omega, h, sm_fo _ _ _ rfl]
  unfold fo3
  refine fo_cg (fun t h1 h2 => ?_)
  rw [sm_fo _ _ _ rfl]
  refine fo_cg (fun p h3 h4 => ?_)
  rw [← sm_fo _ _ _ rfl, sm_const _ _ _ (hV.qm ⟨h1, h2⟩ ⟨h3, h4⟩).1 rfl]
  omega
theorem r_tot (hE : rE P M) (hV : zWM P M) {t : Int} (ht : inT P t) : sm (fun p => P 2 t p) 0 (P 1 t 0) ≤ M (40, 0, 0, 0) 11 := by
  rw [← r_cnt hE hV]
  refine sm_ge (f := fun t => sm (fun p => P 2 t p) 0 (P 1 t 0)) _ 0 (P 0 0 0) t rfl (fun o h1 h2 => ?_) ht.1 ht.2
  have hN := hV.qt (t := o) ⟨h1, h2⟩
  exact (sm_bound (f := fun p => P 2 o p) (m := 80) (by omega) _ 0 (P 1 o 0) (by omega) rfl (fun p h3 h4 => hV.qm ⟨h1, h2⟩ ⟨h3, h4⟩)).1
theorem r_one_le (hE : rE P M) (hV : zWM P M) {t p : Int} (ht : inT P t) (hp : inP P t p) : P 2 t p ≤ M (40, 0, 0, 0) 11 := by
  have h1 := r_tot hE hV ht
  have h2 := sm_ge (f := fun p => P 2 t p) _ 0 (P 1 t 0) p rfl (fun o g1 g2 => (hV.qm ht ⟨g1, g2⟩).1) hp.1 hp.2
  omega
theorem r_mqw (hE : rE P M) (hV : zWM P M) {g : Int} (hg : inG P g) : sm (mqw P g) (P 4 g 0 * 4) (P 4 g 0 * 4 + P 1 (P 4 g 0) 0) ≤ 80 := by
  have h1 := r_tot hE hV (hV.qg hg)
  have hf := hV.f11
  have h2 := sm_sh (f := mqw P g) (d := P 4 g 0 * 4) (n := P 1 (P 4 g 0) 0) _ 0 rfl
  rw [show P 4 g 0 * 4 + 0 = P 4 g 0 * 4 by omega] at h2
  rw [h2, sm_congr (f' := fun p => P 2 (P 4 g 0) p) _ _ _ rfl (fun o _ _ => by
    show P 2 (P 4 g 0) (P 4 g 0 * 4 + o - P 4 g 0 * 4) = _
    rw [show P 4 g 0 * 4 + o - P 4 g 0 * 4 = o by omega])]
  omega
/-! a topic more -/
def zgt (P P2 : zP) (n : Int) : Prop := P2 0 0 0 = P 0 0 0 + 1 ∧ P2 3 0 0 = P 3 0 0 ∧ (∀ t, P2 1 t 0 = if t = P 0 0 0 then n else P 1 t 0) ∧ (∀ t p, P2 2 t p = if t = P 0 0 0 then 0 else P 2 t p) ∧ (∀ g, P2 4 g 0 = P 4 g 0) ∧ P2 61 0 0 = P 61 0 0
theorem o_topic (h : xJ P S M) {n b : Int} (hn : 1 ≤ n ∧ n ≤ 4) (h4 : P 0 0 0 < 4) (hb : b = 0 ∨ b = 1) (hg : zgt P P2 n) (hP2 : zWP P2) (hR : ∀ k f, zR (S2 k f)) (hS : ∀ k f, ¬ (k.1 = 4 ∨ (k.1 = 8 ∨ k.1 = 10 ∨ k.1 = 11 ∨ k.1 = 12) ∧ k.2.1 = P 0 0 0) → S2 k f = S k f)
    (h8 : S2 (8, P 0 0 0, 0, 0) 1 = b ∧ S2 (8, P 0 0 0, 0, 0) 3 = 0) (h10 : ∀ x, S2 (10, P 0 0 0, 0, 0) x = 0) (h11 : ∀ p, S2 (11, P 0 0 0, p, 0) 1 = 0) : xJ P2 S2 (zst (zst (zst M (45, 0, 0, 0) (P 0 0 0) n) (50, 0, 0, 0) (P 0 0 0) b) (40, 0, 0, 0) 4 (P 0 0 0 + 1)) := by
  obtain ⟨hX, hL, hZ, hY, hW, hV, hP⟩ := id h
  obtain ⟨⟨⟨a1, a2, a3, a4⟩, a5, a6, a7, a8⟩, a9, b1, b2, b3, b4, b5⟩ := hX
  obtain ⟨g0, g3, g1, g2, g4, g61⟩ := hg
  have hq := hV.q
  have hf11 := hV.f11
  obtain ⟨j1, j2, j3⟩ := a8
  obtain ⟨j46, j47, j49⟩ := j1 (P 0 0 0) (by omega) h4
  have hMk : ∀ (k : Nat) f, k ≠ 45 → k ≠ 50 → k ≠ 40 → zst (zst (zst M (45, 0, 0, 0) (P 0 0 0) n) (50, 0, 0, 0) (P 0 0 0) b) (40, 0, 0, 0) 4 (P 0 0 0 + 1) (k, 0, 0, 0) f = M (k, 0, 0, 0) f := fun k f e1 e2 e3 => by
    rw [zst_k _ _ _ _ (fun q => e3 (congrArg Prod.fst q)), zst_k _ _ _ _ (fun q => e2 (congrArg Prod.fst q)), zst_k _ _ _ _ (fun q => e1 (congrArg Prod.fst q))]
  have hM40 : ∀ f, f ≠ 4 → zst (zst (zst M (45, 0, 0, 0) (P 0 0 0) n) (50, 0, 0, 0) (P 0 0 0) b) (40, 0, 0, 0) 4 (P 0 0 0 + 1) (40, 0, 0, 0) f = M (40, 0, 0, 0) f := fun f hf => by
    rw [zst_f _ _ _ hf, zst_k _ _ _ _ (by simp), zst_k _ _ _ _ (by simp)]
  have hM50 : ∀ f, zst (zst (zst M (45, 0, 0, 0) (P 0 0 0) n) (50, 0, 0, 0) (P 0 0 0) b) (40, 0, 0, 0) 4 (P 0 0 0 + 1) (50, 0, 0, 0) f = if f = P 0 0 0 then b else M (50, 0, 0, 0) f := fun f => by
    rw [zst_k _ _ _ _ (by simp), zst_at]
    by_cases hf : f = P 0 0 0
    · rw [if_pos ⟨rfl, hf⟩, if_pos hf]
    · rw [if_neg (fun q => hf q.2), if_neg hf, zst_k _ _ _ _ (by simp)]
  have hM45 : ∀ f, zst (zst (zst M (45, 0, 0, 0) (P 0 0 0) n) (50, 0, 0, 0) (P 0 0 0) b) (40, 0, 0, 0) 4 (P 0 0 0 + 1) (45, 0, 0, 0) f = if f = P 0 0 0 then n else M (45, 0, 0, 0) f := fun f => by
    rw [zst_k _ _ _ _ (by simp), zst_k _ _ _ _ (by simp), zst_at]
    by_cases hf : f = P 0 0 0
    · rw [if_pos ⟨rfl, hf⟩, if_pos hf]
    · rw [if_neg (fun q => hf q.2), if_neg hf]
  have hM404 : zst (zst (zst M (45, 0, 0, 0) (P 0 0 0) n) (50, 0, 0, 0) (P 0 0 0) b) (40, 0, 0, 0) 4 (P 0 0 0 + 1) (40, 0, 0, 0) 4 = P 0 0 0 + 1 := zst_s _ _ _ _
  have hVb : zWM P (zst (zst M (45, 0, 0, 0) (P 0 0 0) n) (50, 0, 0, 0) (P 0 0 0) b) := (hV.s45n (fun q => by omega) ⟨by omega, by omega⟩).s50 ⟨by omega, by omega⟩
  have hB2 : zWB P (zst (zst (zst M (45, 0, 0, 0) (P 0 0 0) n) (50, 0, 0, 0) (P 0 0 0) b) (40, 0, 0, 0) 4 (P 0 0 0 + 1)) := hVb.2.2.st ⟨by omega, by omega⟩ zmB_40_4
  have hmS : ∀ m, mS (zst (zst (zst M (45, 0, 0, 0) (P 0 0 0) n) (50, 0, 0, 0) (P 0 0 0) b) (40, 0, 0, 0) 4 (P 0 0 0 + 1)) m = mS M m := fun m => by
    unfold mS
    rw [hMk 57 m (by decide) (by decide) (by decide), hMk 61 _ (by decide) (by decide) (by decide)]
  generalize zst (zst (zst M (45, 0, 0, 0) (P 0 0 0) n) (50, 0, 0, 0) (P 0 0 0) b) (40, 0, 0, 0) 4 (P 0 0 0 + 1) = N at hMk hM40 hM50 hM45 hM404 hB2 hmS ⊢
  have oT : ∀ t, inT P2 t → t = P 0 0 0 ∨ inT P t ∧ t ≠ P 0 0 0 := fun t ht => by
    by_cases hc : t = P 0 0 0
    · exact Or.inl hc
    · exact Or.inr ⟨⟨ht.1, by have := ht.2; omega⟩, hc⟩
  have oM : ∀ t p o, inT P2 t → inP P2 t p → inM P2 t p o → inT P t ∧ inP P t p ∧ inM P t p o := fun t p o ht hp ho => by
    have h2 : o < P2 2 t p := ho.2
    rw [g2] at h2
    by_cases hc : t = P 0 0 0
    · rw [if_pos hc] at h2
      have := ho.1
      omega
    · rw [if_neg hc] at h2
      have h3 : p < P2 1 t 0 := hp.2
      rw [g1, if_neg hc] at h3
      exact ⟨⟨ht.1, by have := ht.2; omega⟩, ⟨hp.1, h3⟩, ho.1, h2⟩
  have oG : ∀ g, inG P2 g → inG P g := fun g hg => ⟨hg.1, by have := hg.2; omega⟩
  have oN : ∀ g, inG P g → P2 1 (P2 4 g 0) 0 = P 1 (P 4 g 0) 0 ∧ ∀ p, P2 2 (P2 4 g 0) p = P 2 (P 4 g 0) p := fun g hg => by
    have := hV.qg hg
    refine ⟨by rw [g4, g1, if_neg (by omega)], fun p => by rw [g4, g2, if_neg (by omega)]⟩
  have oQ : ∀ g p, inG P g → inQ P2 g p → inQ P g p := fun g p hg hp => ⟨hp.1, by have := hp.2; rw [(oN g hg).1] at this; exact this⟩
  have oQM : ∀ g p o, inG P g → inM P2 (P2 4 g 0) p o → inM P (P 4 g 0) p o := fun g p o hg ho => ⟨ho.1, by have := ho.2; rw [(oN g hg).2] at this; exact this⟩
  have hSk : ∀ k f, ¬ k.1 = 4 → ¬ k.1 = 8 → ¬ k.1 = 10 → ¬ k.1 = 11 → ¬ k.1 = 12 → S2 k f = S k f := fun k f e1 e2 e3 e4 e5 => hS k f (fun q => by omega)
  have hSt : ∀ k f, ¬ k.1 = 4 → ¬ k.2.1 = P 0 0 0 → S2 k f = S k f := fun k f e1 e2 => hS k f (fun q => by omega)
  have hSgt : ∀ g, inG P g → ¬ P 4 g 0 = P 0 0 0 := fun g hg => by have := hV.qg hg; omega
  have s14 : ∀ t p o f, S2 (14, t, p, o) f = S (14, t, p, o) f := fun t p o f => hSk _ _ (by simp) (by simp) (by simp) (by simp) (by simp)
  have s18 : ∀ g p f, S2 (18, g, p, 0) f = S (18, g, p, 0) f := fun g p f => hSk _ _ (by simp) (by simp) (by simp) (by simp) (by simp)
  have s19 : ∀ g p f, S2 (19, g, p, 0) f = S (19, g, p, 0) f := fun g p f => hSk _ _ (by simp) (by simp) (by simp) (by simp) (by simp)
  have s20 : ∀ g p f, S2 (20, g, p, 0) f = S (20, g, p, 0) f := fun g p f => hSk _ _ (by simp) (by simp) (by simp) (by simp) (by simp)
  have s21 : ∀ g p f, S2 (21, g, p, 0) f = S (21, g, p, 0) f := fun g p f => hSk _ _ (by simp) (by simp) (by simp) (by simp) (by simp)
  have s17 : ∀ g f, S2 (17, g, 0, 0) f = S (17, g, 0, 0) f := fun g f => hSk _ _ (by simp) (by simp) (by simp) (by simp) (by simp)
  have s0 : ∀ f, S2 (0, 0, 0, 0) f = S (0, 0, 0, 0) f := fun f => hSk _ _ (by simp) (by simp) (by simp) (by simp) (by simp)
  have e59 : ∀ t p o, mi N t p o = mi M t p o := fun t p o => hMk 59 _ (by decide) (by decide) (by decide)
  have hfo : ∀ (op : Int → Int → Int) (e : Int), zcm op e → ∀ f : Int → Int → Int → Int, fo3 op e P2 f = fo3 op e P f := fun op e hm f => by
    unfold fo3
    rw [g0, fo_last hm _ _ _ hq.1.1.1 rfl]
    have e1 : fo op e (fun p => fo op e (f (P 0 0 0) p) 0 (P2 2 (P 0 0 0) p)) 0 (P2 1 (P 0 0 0) 0) = e := fo_e hm _ _ _ rfl (fun p _ _ => by
      rw [g2, if_pos rfl]
      exact fo_end (by omega))
    rw [e1, hm.2.2]
    refine fo_cg (fun t h1 h2 => ?_)
    rw [g1, if_neg (by omega)]
    refine fo_cg (fun p h3 h4 => ?_)
    rw [g2, if_neg (by omega)]
  refine ⟨⟨⟨⟨?_, fun t ht => ?_, fun t p o ht hp ho => ?_, fun t p o ht hp ho => ?_⟩, fun x h1 h2 => ?_, fun op e hm f => ?_, fun g r hg h1 h2 => ?_, ?_⟩, fun g p hg hp => ?_, fun g p o hg hp ho => ?_, fun g t p o hg ht hne hp ho => ?_, fun g m h1 h2 h3 h5 h6 => ?_, fun g p o hg hp h1 h2 => ?_, fun k hk => ?_⟩, ?_, fun g p hg hp => ?_, ⟨fun g p hg hp => ?_, fun g p o hg hp => ?_, fun t x ht h1 h2 => ?_⟩, ?_, ?_, hP2⟩
  · obtain ⟨c1, c2, c3, c4, c5⟩ := a1
    refine ⟨?_, ?_, ?_, ?_, ?_⟩ <;> rw [hM40 _ (by decide), s0] <;> assumption
  · rcases oT t ht with rfl | ⟨ht', hne⟩
    · refine ⟨by rw [hMk 46 _ (by decide) (by decide) (by decide), h8.2]; exact j46, by rw [hM50, if_pos rfl, h8.1], fun x k1 k2 => by rw [hMk 49 _ (by decide) (by decide) (by decide), h10]; exact j49 x k1 k2, fun p hp => ?_⟩
      have hp2 := hp.2
      rw [g1, if_pos rfl] at hp2
      rw [hMk 47 _ (by decide) (by decide) (by decide), h11]
      exact (j47 p hp.1 (by omega)).1
    · obtain ⟨c1, c2, c3, c4⟩ := a2 t ht'
      refine ⟨by rw [hMk 46 _ (by decide) (by decide) (by decide), hSt _ _ (by simp) hne]; exact c1, by rw [hM50, if_neg hne, hSt _ _ (by simp) hne]; exact c2, fun x k1 k2 => by rw [hMk 49 _ (by decide) (by decide) (by decide), hSt _ _ (by simp) hne]; exact c3 x k1 k2, fun p hp => ?_⟩
      have hp2 := hp.2
      rw [g1, if_neg hne] at hp2
      rw [hMk 47 _ (by decide) (by decide) (by decide), hSt _ _ (by simp) hne]
      exact c4 p ⟨hp.1, hp2⟩
  · obtain ⟨ht', hp', ho'⟩ := oM t p o ht hp ho
    rw [e59, hmS, hM40 11 (by decide), hMk 52 _ (by decide) (by decide) (by decide), hMk 53 _ (by decide) (by decide) (by decide), hMk 54 _ (by decide) (by decide) (by decide), hMk 55 _ (by decide) (by decide) (by decide), hMk 56 _ (by decide) (by decide) (by decide), hMk 58 _ (by decide) (by decide) (by decide), s14, s14, s14, s14, s14]
    exact a3 t p o ht' hp' ho'
  · obtain ⟨ht', hp', ho'⟩ := oM t p o ht hp ho
    obtain ⟨t1, t2, t3⟩ := a4 t p o ht' hp' ho'
    rw [e59, hM40 20 (by decide), hMk 57 _ (by decide) (by decide) (by decide), s14, s14]
    refine ⟨fun q => ?_, fun x' k1 k2 k3 k4 => ?_, t3⟩
    · rw [hMk 62 _ (by decide) (by decide) (by decide)]; exact t1 q
    · rw [hMk 62 _ (by decide) (by decide) (by decide)] at k3 k4; exact t2 x' k1 k2 k3 k4
  · obtain ⟨d1, d2, d3, d4⟩ := a5 x h1 h2
    rw [hSk (3, 0, 0, 0) x (by simp) (by simp) (by simp) (by simp) (by simp), hMk 62 _ (by decide) (by decide) (by decide), hM40 20 (by decide), hMk 61 _ (by decide) (by decide) (by decide)]
    refine ⟨d1, d2, d3, fun y k1 k2 k3 k4 => ?_⟩
    rw [hMk 62 _ (by decide) (by decide) (by decide)] at k3
    exact d4 y k1 k2 k3 k4
  · rw [hM40 11 (by decide), a6 op e hm f, hfo op e hm]
    exact fo3_cg (fun t p o _ _ _ => by rw [e59])
  · obtain ⟨c1, c2⟩ := a7 g r (oG g hg) h1 h2
    rw [hMk 68 _ (by decide) (by decide) (by decide), s17]
    exact ⟨c1, c2⟩
  · refine ⟨fun t h1 h2 => ?_, fun g r h1 h2 h3 h5 => ?_, fun m h1 h2 => ?_⟩
    · obtain ⟨c1, c2, c3⟩ := j1 t (by omega) h2
      refine ⟨by rw [hMk 46 _ (by decide) (by decide) (by decide)]; exact c1, fun p k1 k2 => by rw [hMk 47 _ (by decide) (by decide) (by decide), hMk 48 _ (by decide) (by decide) (by decide)]; exact c2 p k1 k2, fun x k1 k2 => by rw [hMk 49 _ (by decide) (by decide) (by decide)]; exact c3 x k1 k2⟩
    · rw [hMk 68 _ (by decide) (by decide) (by decide)]; exact j2 g r (by omega) h2 h3 h5
    · rw [hM40 11 (by decide)] at h1
      rw [hMk 58 _ (by decide) (by decide) (by decide)]; exact j3 m h1 h2
  · have hg' := oG g hg
    rw [hMk 65 _ (by decide) (by decide) (by decide), hMk 66 _ (by decide) (by decide) (by decide), hMk 67 _ (by decide) (by decide) (by decide), s18, s18, s18]
    exact a9 g p hg' (oQ g p hg' hp)
  · have hg' := oG g hg
    have := b1 g p o hg' (oQ g p hg' hp) (oQM g p o hg' ho)
    show N (69, 0, 0, 0) (g * 80 + mi N (P2 4 g 0) p o) = (if ¬ S2 (14, P2 4 g 0, p, o) 5 = 0 ∧ (S2 (19, g, p, 0) o = 1 ∨ S2 (19, g, p, 0) o = 2) then 0 else S2 (19, g, p, 0) o) ∧ N (70, 0, 0, 0) (g * 80 + mi N (P2 4 g 0) p o) = (if ¬ S2 (14, P2 4 g 0, p, o) 5 = 0 ∧ (S2 (19, g, p, 0) o = 1 ∨ S2 (19, g, p, 0) o = 2) then 0 else S2 (20, g, p, 0) o) ∧ N (71, 0, 0, 0) (g * 80 + mi N (P2 4 g 0) p o) = S2 (21, g, p, 0) o
    rw [g4, e59, hMk 69 _ (by decide) (by decide) (by decide), hMk 70 _ (by decide) (by decide) (by decide), hMk 71 _ (by decide) (by decide) (by decide), s14, s19, s20, s21]
    exact this
  · obtain ⟨ht', hp', ho'⟩ := oM t p o ht hp ho
    rw [hMk 69 _ (by decide) (by decide) (by decide), e59]
    exact b2 g t p o (oG g hg) ht' (by rw [← g4]; exact hne) hp' ho'
  · rw [hM40 11 (by decide), g3] at h6
    rw [hMk 69 _ (by decide) (by decide) (by decide), hMk 70 _ (by decide) (by decide) (by decide), hMk 71 _ (by decide) (by decide) (by decide)]
    exact b3 g m h1 h2 h3 h5 h6
  · have hg' := oG g hg
    rw [s19, s20, s21]
    exact b4 g p o hg' (oQ g p hg' hp) (by rw [← (oN g hg').2]; exact h1) h2
  · rw [hMk 69 _ (by decide) (by decide) (by decide)] at hk
    rw [hMk 70 _ (by decide) (by decide) (by decide)]
    exact b5 k hk
  · exact rL_fr (fun k f hk => hSk k f (by omega) (by omega) (by omega) (by omega) (by omega)) (hM40 32 (by decide)) (fun f => hMk 73 _ (by decide) (by decide) (by decide)) hL
  · have hg' := oG g hg
    obtain ⟨c1, c2, c3⟩ := hZ g p hg' (oQ g p hg' hp)
    refine ⟨fun o ho q => c1 o (oQM g p o hg' ho) ?_, fun q => c2 ?_, by rw [s18, s18]; exact c3⟩
    · have q1 : ¬ S2 (14, P2 4 g 0, p, o) 5 = 0 ∧ (S2 (19, g, p, 0) o = 1 ∨ S2 (19, g, p, 0) o = 2) := q
      rw [g4, s14, s19] at q1
      exact q1
    · have q1 : S2 (18, g, p, 0) 5 < P2 2 (P2 4 g 0) p ∧ (¬ S2 (14, P2 4 g 0, p, S2 (18, g, p, 0) 5) 5 = 0 ∨ S2 (14, P2 4 g 0, p, S2 (18, g, p, 0) 5) 4 = 1 ∨ (S2 (19, g, p, 0) (S2 (18, g, p, 0) 5) = 3 ∨ S2 (19, g, p, 0) (S2 (18, g, p, 0) 5) = 4)) := q
      rw [(oN g hg').2, g4, s14, s14, s19, s18] at q1
      exact q1
  · have hg' := oG g hg
    rw [s18, hY.1 g p hg' (oQ g p hg' hp)]
    exact zsr_cg (oN g hg').1.symm (fun r _ _ => by
      show ¬ S (17, g, 0, 0) r = _ ↔ ¬ S2 (17, g, 0, 0) r = _
      rw [s17])
  · have hg' := oG g hg
    rw [s19, s20]
    exact hY.2.1 g p o hg' (oQ g p hg' hp)
  · rw [s0]
    rcases oT t ht with rfl | ⟨ht', hne⟩
    · rw [h10]
      have := a1.2.2.2.1
      omega
    · rw [hSt _ _ (by simp) hne]
      exact hY.2.2 t x ht' h1 h2
  · obtain ⟨w1, w2, w3, w4, w5, w6, w7, w8⟩ := hW
    refine ⟨hR, fun t p o => by rw [s14]; exact w2 t p o, fun t p ht hp => ?_, fun g p hg hp => ?_, fun g p o => by rw [s21]; exact w5 g p o, fun g p o => by rw [s20, s19]; exact w6 g p o, by rw [s0, s0, s0]; exact w7, by rw [hSk (1, 0, 0, 0) 1 (by simp) (by simp) (by simp) (by simp) (by simp)]; exact w8⟩
    · rcases oT t ht with rfl | ⟨ht', hne⟩
      · rw [h11, g2, if_pos rfl]
        exact ⟨by omega, by omega⟩
      · rw [hSt _ _ (by simp) hne, g2, if_neg hne]
        refine w3 t p ht' ⟨hp.1, ?_⟩
        have := hp.2
        rw [g1, if_neg hne] at this
        exact this
    · have hg' := oG g hg
      rw [s18, s18, (oN g hg').2]
      exact w4 g p hg' (oQ g p hg' hp)
  · obtain ⟨⟨w1, w2, w3, w4, w5, w6⟩, ⟨z1, z2, z3, z4, z5⟩, z6⟩ := hV
    refine ⟨⟨by rw [g0]; omega, by rw [g3]; exact w2, fun t ht => ?_, fun t p ht hp => ?_, fun g hg => ?_, by rw [g61]; exact w6⟩, ⟨by rw [hM404, g0], by rw [hM40 23 (by decide), g3]; exact z2, fun t ht => ?_, fun t p ht hp => ?_, fun g hg => ?_⟩, hB2.q g61⟩
    · rcases oT t ht with rfl | ⟨ht', hne⟩
      · rw [g1, if_pos rfl]; exact hn
      · rw [g1, if_neg hne]; exact w3 t ht'
    · rcases oT t ht with rfl | ⟨ht', hne⟩
      · rw [g2, if_pos rfl]; exact ⟨by omega, by omega⟩
      · rw [g1, if_neg hne] at hp
        rw [g2, if_neg hne]; exact w4 t p ht' hp
    · have hg' := oG g hg
      have := w5 g hg'
      rw [g4, g0]
      omega
    · rcases oT t ht with rfl | ⟨ht', hne⟩
      · rw [hM45, if_pos rfl, g1, if_pos rfl]
      · rw [hM45, if_neg hne, g1, if_neg hne]; exact z3 t ht'
    · rcases oT t ht with rfl | ⟨ht', hne⟩
      · rw [g1, if_pos rfl] at hp
        rw [hMk 48 _ (by decide) (by decide) (by decide), g2, if_pos rfl]
        exact (j47 p hp.1 (by omega)).2
      · rw [g1, if_neg hne] at hp
        rw [hMk 48 _ (by decide) (by decide) (by decide), g2, if_neg hne]
        exact z4 t p ht' hp
    · rw [hMk 64 _ (by decide) (by decide) (by decide), g4]
      exact z5 g (oG g hg)
end GROW
