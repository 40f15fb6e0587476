/-! ===== the law's checks, out of what holds between acts ===== -/
/-! sums -/
theorem sm_split {f : Int → Int} {c : Int} : ∀ (k : Nat) (a n : Int), (c - a).toNat = k → a ≤ c → c ≤ n → sm f a n = sm f a c + sm f c n := by
  intro k
  induction k with
  | zero =>
    intro a n hk h1 h2
    have e : a = c := by omega
    subst e
    rw [sm_end (f := f) (a := a) (n := a) (by omega)]
    omega
  | succ k ih =>
    intro a n hk h1 h2
    rw [sm_step (f := f) (a := a) (n := n) (by omega), sm_step (f := f) (a := a) (n := c) (by omega), ih (a + 1) n (by omega) (by omega) h2]
    omega
theorem sm_nn {f : Int → Int} : ∀ (k : Nat) (a n : Int), (n - a).toNat = k → (∀ o, a ≤ o → o < n → 0 ≤ f o) → 0 ≤ sm f a n := by
  intro k
  induction k with
  | zero => intro a n hk _; rw [sm_end (by omega)]; omega
  | succ k ih =>
    intro a n hk h
    rw [sm_step (by omega)]
    have h1 := h a (by omega) (by omega)
    have h2 := ih (a + 1) n (by omega) (fun o g1 g2 => h o (by omega) g2)
    omega
theorem sm_sub {f : Int → Int} {a c N : Int} (h0 : 0 ≤ a) (hc : c ≤ N) (hf : ∀ o, 0 ≤ o → o < N → 0 ≤ f o) : sm f a c ≤ sm f 0 N := by
  have hn := sm_nn (f := f) _ 0 N rfl hf
  by_cases h : a ≤ c
  · rw [sm_split (f := f) (c := a) _ 0 N rfl h0 (by omega), sm_split (f := f) (c := c) _ a N rfl h hc]
    have h1 := sm_nn (f := f) _ 0 a rfl (fun o g1 g2 => hf o g1 (by omega))
    have h2 := sm_nn (f := f) _ c N rfl (fun o g1 g2 => hf o (by omega) g2)
    omega
  · rw [sm_end (f := f) (a := a) (n := c) (by omega)]
    exact hn
theorem sm_3 {f : Int → Int} : ∀ (k : Nat) (a n : Int), (n - a).toNat = k → sm (fun o => 3 * f o) a n = 3 * sm f a n := by
  intro k
  induction k with
  | zero => intro a n hk; rw [sm_end (by omega), sm_end (by omega)]; rfl
  | succ k ih =>
    intro a n hk
    rw [sm_step (f := fun o => 3 * f o) (by omega), sm_step (f := f) (by omega), ih (a + 1) n (by omega)]
    omega
/-! what the law adds up -/
def zlag (P : zP) (V : zS) (g p : Int) : Int := sm (fun o => if zkp V (P 4 g 0) p o ∧ ¬ jt V g p o then 1 else 0) (V (18, g, p, 0) 5) (zse P V (P 4 g 0) p)
def zou1 (V : zS) (g p : Int) (o : Int) : Int := if V (19, g, p, 0) o = 0 then 0 else 1
def zou (P : zP) (V : zS) (g p : Int) : Int := sm (zou1 V g p) 0 (P 2 (P 4 g 0) p)
section ZCHK
variable {P : zP} {V : zS} {g p o : Int}
theorem zC_mark (h : zJ P V) (hg : inG P g) (hp : inQ P g p) : (0 ≤ V (18, g, p, 0) 5 ∧ V (11, P 4 g 0, p, 0) 1 ≤ V (18, g, p, 0) 5 ∧ V (18, g, p, 0) 5 ≤ V (18, g, p, 0) 6 ∧ V (18, g, p, 0) 6 ≤ P 2 (P 4 g 0) p ∧ zse P V (P 4 g 0) p ≤ P 2 (P 4 g 0) p) ∧
    (V (18, g, p, 0) 5 < P 2 (P 4 g 0) p → V (19, g, p, 0) (V (18, g, p, 0) 5) ≤ 2 ∧ ¬ V (14, P 4 g 0, p, V (18, g, p, 0) 5) 4 = 1 ∧ V (14, P 4 g 0, p, V (18, g, p, 0) 5) 5 = 0) := by
  obtain ⟨⟨w1, w2⟩, w3, w4⟩ := h.wv.W.2.2.2.1 g p hg hp
  obtain ⟨-, s2, s3⟩ := h.xz g p hg hp
  have ht := h.wp.g hg
  have hM := h.wp.m ht hp
  have hs := h.wv.W.2.2.1 _ p ht hp
  have hq : V (18, g, p, 0) 5 < P 2 (P 4 g 0) p → V (19, g, p, 0) (V (18, g, p, 0) 5) ≤ 2 ∧ ¬ V (14, P 4 g 0, p, V (18, g, p, 0) 5) 4 = 1 ∧ V (14, P 4 g 0, p, V (18, g, p, 0) 5) 5 = 0 := fun hl => by
    have hn : ¬ jb P V g p (V (18, g, p, 0) 5) := fun q => s2 ⟨hl, q⟩
    have h4 := h.wv.st4 g p (V (18, g, p, 0) 5)
    refine ⟨?_, fun q => hn (Or.inr (Or.inl q)), Classical.byContradiction fun q => hn (Or.inl q)⟩
    have n3 : ¬ V (19, g, p, 0) (V (18, g, p, 0) 5) = 3 := fun q => hn (Or.inr (Or.inr (Or.inl q)))
    have n4 : ¬ V (19, g, p, 0) (V (18, g, p, 0) 5) = 4 := fun q => hn (Or.inr (Or.inr (Or.inr q)))
    omega
  refine ⟨⟨w1, ?_, s3, w4, (fi_le (by omega)).2⟩, hq⟩
  by_cases hc : V (11, P 4 g 0, p, 0) 1 ≤ V (18, g, p, 0) 5
  · exact hc
  · have h5 := h.k0.2.1 (P 4 g 0) p (V (18, g, p, 0) 5) ht hp ⟨w1, by omega⟩ (by omega)
    have := (hq (by omega)).2.2
    omega
theorem zC_msg (h : zJ P V) (hg : inG P g) (hp : inQ P g p) (ho : inM P (P 4 g 0) p o) : (V (19, g, p, 0) o = 0 ↔ V (20, g, p, 0) o = 0) ∧ (0 ≤ V (19, g, p, 0) o ∧ V (19, g, p, 0) o ≤ 4) ∧ (0 ≤ V (20, g, p, 0) o ∧ V (20, g, p, 0) o ≤ 3) ∧ (V (19, g, p, 0) o = 4 → V (20, g, p, 0) o = 3) ∧ (o < V (11, P 4 g 0, p, 0) 1 → ¬ V (14, P 4 g 0, p, o) 5 = 0) ∧ (¬ V (14, P 4 g 0, p, o) 5 = 0 → ¬ V (19, g, p, 0) o = 1 ∧ ¬ V (19, g, p, 0) o = 2) := by
  obtain ⟨c1, c2⟩ := h.wv.W.c g p o
  have h4 := h.wv.st4 g p o
  obtain ⟨a1, a2⟩ := h.xy.2.1 g p o hg hp
  obtain ⟨b1, b2⟩ := h.k0.1 g p o hg hp ho
  have hs := (h.xz g p hg hp).1 o ho
  refine ⟨⟨a2, fun q => ?_⟩, h4, c1, b2, fun q r => ?_, fun q => ⟨fun r => hs ⟨q, Or.inl r⟩, fun r => hs ⟨q, Or.inr r⟩⟩⟩
  · by_cases e0 : V (19, g, p, 0) o = 0
    · exact e0
    · by_cases e1 : V (19, g, p, 0) o = 1
      · have := c2 e1; omega
      · have := b1 (by omega); omega
  · have := h.k0.2.1 (P 4 g 0) p o (h.wp.g hg) hp ho q
    omega
theorem zC_lag1 (h : zJ P V) (hg : inG P g) (hp : inQ P g p) : 0 ≤ zlag P V g p ∧ zlag P V g p ≤ ztk P V (P 4 g 0) p ∧ ztk P V (P 4 g 0) p ≤ 80 := by
  have hk := (zC_mark h hg hp).1
  have hM := h.wp.m (h.wp.g hg) hp
  refine ⟨sm_nn _ _ _ rfl (fun o _ _ => by split <;> omega), ?_, ?_⟩
  · refine Int.le_trans (sm_mono (f := fun o => if zkp V (P 4 g 0) p o ∧ ¬ jt V g p o then 1 else 0) (f' := fun o => if zkp V (P 4 g 0) p o then 1 else 0) _ _ _ rfl (fun o _ _ => ?_)) (sm_sub (f := fun o => if zkp V (P 4 g 0) p o then 1 else 0) hk.1 hk.2.2.2.2 (fun o _ _ => by show (0 : Int) ≤ if zkp V (P 4 g 0) p o then 1 else 0; split <;> omega))
    show (if zkp V (P 4 g 0) p o ∧ ¬ jt V g p o then (1 : Int) else 0) ≤ if zkp V (P 4 g 0) p o then 1 else 0
    by_cases c : zkp V (P 4 g 0) p o
    · rw [if_pos c]; split <;> omega
    · rw [if_neg c, if_neg (fun q => c q.1)]; omega
  · have hb := (sm_bound (f := fun o => if zkp V (P 4 g 0) p o then (1 : Int) else 0) (m := 1) (by omega) _ 0 (P 2 (P 4 g 0) p) (by omega) rfl (fun o _ _ => by show 0 ≤ (if zkp V (P 4 g 0) p o then (1 : Int) else 0) ∧ (if zkp V (P 4 g 0) p o then (1 : Int) else 0) ≤ 1; split <;> omega)).2
    have e : ztk P V (P 4 g 0) p = sm (fun o => if zkp V (P 4 g 0) p o then (1 : Int) else 0) 0 (P 2 (P 4 g 0) p) := rfl
    omega
theorem zC_lag (h : zJ P V) (hg : inG P g) : sm (zlag P V g) 0 (P 1 (P 4 g 0) 0) ≤ sm (fun p => ztk P V (P 4 g 0) p) 0 (P 1 (P 4 g 0) 0) := sm_mono _ _ _ rfl (fun p p1 p2 => (zC_lag1 h hg ⟨p1, p2⟩).2.1)
theorem zC_aside : sm (fun p => zco P V g 4 p) 0 (P 1 (P 4 g 0) 0) ≤ sm (zou P V g) 0 (P 1 (P 4 g 0) 0) := by
  refine sm_mono _ _ _ rfl (fun p p1 p2 => sm_mono _ _ _ rfl (fun o _ _ => ?_))
  show (if V (19, g, p, 0) o = 4 then (1 : Int) else 0) ≤ if V (19, g, p, 0) o = 0 then 0 else 1
  by_cases c : V (19, g, p, 0) o = 4
  · rw [if_pos c, if_neg (by omega)]; omega
  · rw [if_neg c]; split <;> omega
theorem zC_mean (h : zJ P V) (hg : inG P g) : (0 ≤ sm (fun p => zsu P V g p) 0 (P 1 (P 4 g 0) 0) ∧ sm (fun p => zsu P V g p) 0 (P 1 (P 4 g 0) 0) ≤ 240) ∧ (0 ≤ sm (fun p => zco P V g 3 p) 0 (P 1 (P 4 g 0) 0) ∧ sm (fun p => zco P V g 3 p) 0 (P 1 (P 4 g 0) 0) ≤ 80) ∧ sm (fun p => zsu P V g p) 0 (P 1 (P 4 g 0) 0) ≤ 3 * sm (fun p => zco P V g 3 p) 0 (P 1 (P 4 g 0) 0) := by
  have hc := h.wv.W.c
  obtain ⟨-, ⟨M, hM⟩, -⟩ := h
  refine ⟨?_, ?_, ?_⟩
  · rw [a_sum hM hg]; exact msu_le hM.2.2.2.2.2.1
  · rw [a_aside hM hg (by omega)]; exact mco_le hM.2.2.2.2.2.1
  · rw [← sm_3 _ _ _ rfl]
    refine sm_mono _ _ _ rfl (fun p _ _ => ?_)
    show zsu P V g p ≤ 3 * zco P V g 3 p
    unfold zco
    rw [← sm_3 _ _ _ rfl]
    refine sm_mono _ _ _ rfl (fun o _ _ => ?_)
    have := (hc g p o).1
    show (if V (19, g, p, 0) o = 3 then V (20, g, p, 0) o else 0) ≤ 3 * if V (19, g, p, 0) o = 3 then 1 else 0
    split <;> omega
theorem zC_next (h : zJ P V) (hg : inG P g) : lp (zng P V g (V (0, 0, 0, 0) 6) (V (0, 0, 0, 0) 8)) 0 (P 1 (P 4 g 0) 0) (-1) = -1 ∨ V (0, 0, 0, 0) 6 ≤ lp (zng P V g (V (0, 0, 0, 0) 6) (V (0, 0, 0, 0) 8)) 0 (P 1 (P 4 g 0) 0) (-1) := by
  have hk := h.wv.W.k
  have hT := h.wp.t (h.wp.g hg)
  have zr : ∀ a b : Int, (a = -1 ∨ V (0, 0, 0, 0) 6 ≤ a) → (b = -1 ∨ V (0, 0, 0, 0) 6 ≤ b) → (zer a b = -1 ∨ V (0, 0, 0, 0) 6 ≤ zer a b) := fun a b ha hb => by
    have := zer_le (a := a) (b := b)
    omega
  refine lp_ind (fun _ n => n = -1 ∨ V (0, 0, 0, 0) 6 ≤ n) _ 0 _ (-1) (by omega) rfl (Or.inl rfl) (fun p n p1 p2 hn => ?_)
  unfold zng
  refine zr _ _ hn ?_
  have hM := (zC_mark h hg ⟨p1, p2⟩).1
  unfold znt
  refine lp_ind (fun _ n => n = -1 ∨ V (0, 0, 0, 0) 6 ≤ n) _ _ _ (-1) (by omega) rfl (Or.inl rfl) (fun o n o1 o2 hn => ?_)
  unfold zntf
  split
  · exact zr _ _ hn (Or.inr (by omega))
  · split
    · exact zr _ _ hn (Or.inr (by omega))
    · exact hn
/-- what a reader would take is of its partitions, and neither out nor done with -/
theorem zC_would {r v : Int} (h : zJ P V) (hg : inG P g) (hz : v = znp P V g r (V (0, 0, 0, 0) 6)) (hv : 0 ≤ v) : inQ P g (v / 100) ∧ inM P (P 4 g 0) (v / 100) (v % 100) ∧ znp P V g r (V (0, 0, 0, 0) 6) = 100 * (v / 100) + v % 100 ∧ V (18, g, v / 100, 0) 4 = r ∧ ¬ V (19, g, v / 100, 0) (v % 100) = 1 ∧ V (19, g, v / 100, 0) (v % 100) ≤ 2 ∧ V (20, g, v / 100, 0) (v % 100) ≤ 2 := by
  obtain ⟨hp, ho, e⟩ := znp_po h hg hz hv
  obtain ⟨t2, t1⟩ := zJ_tk2 h hg hp ho e
  have hW5 := h.wv.W.m hg hp
  have hsg := h.xz _ _ hg hp
  refine ⟨hp, ho, e, ?_, t1, ?_, t2⟩
  · rcases znp_sp h.wp h.wv.W hg (r := r) (x := V (0, 0, 0, 0) 6) with ⟨e2, -⟩ | ⟨p', o', hp', ho', -, h4, h6, -⟩
    · omega
    · have hM' := h.wp.m (h.wp.g hg) hp'
      have e1 : p' = v / 100 := by omega
      rw [← e1]
      exact h4
  · rcases znp_sp h.wp h.wv.W hg (r := r) (x := V (0, 0, 0, 0) 6) with ⟨e2, -⟩ | ⟨p', o', hp', ho', e3, -, h6, -⟩
    · omega
    · have hM' := h.wp.m (h.wp.g hg) hp'
      have e1 : p' = v / 100 := by omega
      have e4 : o' = v % 100 := by omega
      subst e1 e4
      have hs := zno_sp (P := P) (S := V) (g := g) (p := v / 100) (x := V (0, 0, 0, 0) 6) hW5.1.1 hW5.2.1 (by omega) hW5.1.2 hsg.2.2
      rw [← e3] at hs
      rcases hs.1 with q | q
      · omega
      · omega
/-- nothing is laid aside but behind its nacking -/
theorem zC_led (h : zJ P V) : ∀ (n : Nat) (k : Int), k = n → k + 1 ≤ V (1, 0, 0, 0) 1 → sm (zcs1 V 3) 0 (k + 1) ≤ sm (zcs1 V 2) 0 k := by
  have hL := h.k0.2.2.2.1
  intro n
  induction n with
  | zero =>
    intro k e hk
    subst e
    have h3 := (hL 0 (by omega) (by omega)).2.2
    show sm (zcs1 V 3) 0 1 ≤ sm (zcs1 V 2) 0 0
    rw [sm_step (by omega), sm_end (by omega), sm_end (by omega)]
    unfold zcs1
    rw [if_neg (fun q => by have := (h3 q).1; omega)]
    omega
  | succ n ih =>
    intro k e hk
    have h1 := ih (k - 1) (by omega) (by omega)
    rw [show k - 1 + 1 = k by omega] at h1
    have h3 := (hL k (by omega) (by omega)).2.2
    rw [sm_last _ 0 k rfl (by omega), show k = k - 1 + 1 by omega, sm_last (f := zcs1 V 2) _ 0 (k - 1) rfl (by omega), show k - 1 + 1 = k by omega]
    have e3 : zcs1 V 3 k ≤ zcs1 V 2 (k - 1) := by
      unfold zcs1
      by_cases c : V (2, 0, 0, 0) (5 * k) = 3
      · rw [if_pos c, if_pos (h3 c).2]; omega
      · rw [if_neg c]; split <;> omega
    omega
theorem zC_ledA (h : zJ P V) : zcs V 3 ≤ zcs V 2 := by
  have hl := h.k0.2.2.1
  by_cases c : V (1, 0, 0, 0) 1 = 0
  · unfold zcs
    rw [c, sm_end (by omega), sm_end (by omega)]
    omega
  · have h1 := zC_led h (V (1, 0, 0, 0) 1 - 1).toNat (V (1, 0, 0, 0) 1 - 1) (by omega) (by omega)
    rw [show V (1, 0, 0, 0) 1 - 1 + 1 = V (1, 0, 0, 0) 1 by omega] at h1
    unfold zcs
    have h2 := sm_last (f := zcs1 V 2) _ 0 (V (1, 0, 0, 0) 1 - 1) rfl (by omega)
    rw [show V (1, 0, 0, 0) 1 - 1 + 1 = V (1, 0, 0, 0) 1 by omega] at h2
    have h3 : 0 ≤ zcs1 V 2 (V (1, 0, 0, 0) 1 - 1) := by unfold zcs1; split <;> omega
    omega
end ZCHK
