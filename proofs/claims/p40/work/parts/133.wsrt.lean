/-! ===== the bounds of the class's numbers, kept by every write; what the class's methods do ===== -/
def zWS (P : zP) (S : zS) : Prop :=
  (∀ k f, zR (S k f)) ∧ (∀ t p o, 0 ≤ S (14, t, p, o) 2 ∧ S (14, t, p, o) 2 ≤ 9999) ∧
  (∀ t p, 0 ≤ t ∧ t < P 0 0 0 → 0 ≤ p ∧ p < P 1 t 0 → 0 ≤ S (11, t, p, 0) 1 ∧ S (11, t, p, 0) 1 ≤ P 2 t p) ∧
  (∀ g p, 0 ≤ g ∧ g < P 3 0 0 → 0 ≤ p ∧ p < P 1 (P 4 g 0) 0 → (0 ≤ S (18, g, p, 0) 5 ∧ S (18, g, p, 0) 5 ≤ P 2 (P 4 g 0) p) ∧ (0 ≤ S (18, g, p, 0) 6 ∧ S (18, g, p, 0) 6 ≤ P 2 (P 4 g 0) p)) ∧
  (∀ g p o, 0 ≤ S (21, g, p, 0) o ∧ S (21, g, p, 0) o ≤ 20000) ∧
  (∀ g p o, (0 ≤ S (20, g, p, 0) o ∧ S (20, g, p, 0) o ≤ 3) ∧ (S (19, g, p, 0) o = 1 → 1 ≤ S (20, g, p, 0) o)) ∧
  ((0 ≤ S (0, 0, 0, 0) 6 ∧ S (0, 0, 0, 0) 6 ≤ 9999) ∧ (1 ≤ S (0, 0, 0, 0) 7 ∧ S (0, 0, 0, 0) 7 ≤ 20) ∧ (1 ≤ S (0, 0, 0, 0) 8 ∧ S (0, 0, 0, 0) 8 ≤ 50)) ∧
  (0 ≤ S (1, 0, 0, 0) 1 ∧ S (1, 0, 0, 0) 1 ≤ 200)
section ZWS
variable {P : zP} {S : zS}
theorem zWS.R (h : zWS P S) : ∀ k f, zR (S k f) := h.1
theorem zWS.b (h : zWS P S) : ∀ t p o, 0 ≤ S (14, t, p, o) 2 ∧ S (14, t, p, o) 2 ≤ 9999 := h.2.1
theorem zWS.s (h : zWS P S) {t p : Int} (ht : 0 ≤ t ∧ t < P 0 0 0) (hp : 0 ≤ p ∧ p < P 1 t 0) : 0 ≤ S (11, t, p, 0) 1 ∧ S (11, t, p, 0) 1 ≤ P 2 t p := h.2.2.1 t p ht hp
theorem zWS.m (h : zWS P S) {g p : Int} (hg : 0 ≤ g ∧ g < P 3 0 0) (hp : 0 ≤ p ∧ p < P 1 (P 4 g 0) 0) : (0 ≤ S (18, g, p, 0) 5 ∧ S (18, g, p, 0) 5 ≤ P 2 (P 4 g 0) p) ∧ (0 ≤ S (18, g, p, 0) 6 ∧ S (18, g, p, 0) 6 ≤ P 2 (P 4 g 0) p) := h.2.2.2.1 g p hg hp
theorem zWS.w (h : zWS P S) : ∀ g p o, 0 ≤ S (21, g, p, 0) o ∧ S (21, g, p, 0) o ≤ 20000 := h.2.2.2.2.1
theorem zWS.c (h : zWS P S) : ∀ g p o, (0 ≤ S (20, g, p, 0) o ∧ S (20, g, p, 0) o ≤ 3) ∧ (S (19, g, p, 0) o = 1 → 1 ≤ S (20, g, p, 0) o) := h.2.2.2.2.2.1
theorem zWS.k (h : zWS P S) : (0 ≤ S (0, 0, 0, 0) 6 ∧ S (0, 0, 0, 0) 6 ≤ 9999) ∧ (1 ≤ S (0, 0, 0, 0) 7 ∧ S (0, 0, 0, 0) 7 ≤ 20) ∧ (1 ≤ S (0, 0, 0, 0) 8 ∧ S (0, 0, 0, 0) 8 ≤ 50) := h.2.2.2.2.2.2.1
theorem zWS.l (h : zWS P S) : 0 ≤ S (1, 0, 0, 0) 1 ∧ S (1, 0, 0, 0) 1 ≤ 200 := h.2.2.2.2.2.2.2
/-- a write keeps the bounds, where it keeps the bounds of its own cell -/
theorem zWS.st (h : zWS P S) {k : zK} {f v : Int} (hv : zR v)
    (h2 : ∀ t p o, k = (14, t, p, o) → f = 2 → 0 ≤ v ∧ v ≤ 9999)
    (h3 : ∀ t p, k = (11, t, p, 0) → f = 1 → 0 ≤ t ∧ t < P 0 0 0 → 0 ≤ p ∧ p < P 1 t 0 → 0 ≤ v ∧ v ≤ P 2 t p)
    (h4 : ∀ g p, k = (18, g, p, 0) → (f = 5 ∨ f = 6) → 0 ≤ g ∧ g < P 3 0 0 → 0 ≤ p ∧ p < P 1 (P 4 g 0) 0 → 0 ≤ v ∧ v ≤ P 2 (P 4 g 0) p)
    (h5 : ∀ g p, k = (21, g, p, 0) → 0 ≤ v ∧ v ≤ 20000)
    (h6 : ∀ g p, k = (20, g, p, 0) → (0 ≤ v ∧ v ≤ 3) ∧ (S (19, g, p, 0) f = 1 → 1 ≤ v))
    (h7 : ∀ g p, k = (19, g, p, 0) → v = 1 → 1 ≤ S (20, g, p, 0) f)
    (h8 : k = (0, 0, 0, 0) → (f = 6 → 0 ≤ v ∧ v ≤ 9999) ∧ (f = 7 → 1 ≤ v ∧ v ≤ 20) ∧ (f = 8 → 1 ≤ v ∧ v ≤ 50))
    (h9 : k = (1, 0, 0, 0) → f = 1 → 0 ≤ v ∧ v ≤ 200) : zWS P (zst S k f v) := by
  obtain ⟨g1, g2, g3, g4, g5, g6, ⟨g7a, g7b, g7c⟩, g8⟩ := h
  refine ⟨zst_R g1 hv, fun t p o => ?_, fun t p ht hp => ?_, fun g p hg hp => ⟨?_, ?_⟩, fun g p o => ?_, fun g p o => ⟨?_, ?_⟩, ⟨?_, ?_, ?_⟩, ?_⟩
  · rw [zst_at]
    split
    · next q => exact h2 t p o q.1.symm q.2.symm
    · exact g2 t p o
  · rw [zst_at]
    split
    · next q => exact h3 t p q.1.symm q.2.symm ht hp
    · exact g3 t p ht hp
  · rw [zst_at]
    split
    · next q => exact h4 g p q.1.symm (Or.inl q.2.symm) hg hp
    · exact (g4 g p hg hp).1
  · rw [zst_at]
    split
    · next q => exact h4 g p q.1.symm (Or.inr q.2.symm) hg hp
    · exact (g4 g p hg hp).2
  · rw [zst_at]
    split
    · next q => exact h5 g p q.1.symm
    · exact g5 g p o
  · rw [zst_at]
    split
    · next q => exact (h6 g p q.1.symm).1
    · exact (g6 g p o).1
  · intro hs
    by_cases hk : k = (20, g, p, 0) ∧ f = o
    · obtain ⟨rfl, rfl⟩ := hk
      rw [zst_s]
      rw [zst_k _ _ _ _ (by simp)] at hs
      exact (h6 g p rfl).2 hs
    · rw [zst_at, if_neg (fun q => hk ⟨q.1.symm, q.2.symm⟩)]
      by_cases hk2 : k = (19, g, p, 0) ∧ f = o
      · obtain ⟨rfl, rfl⟩ := hk2
        rw [zst_s] at hs
        exact h7 g p rfl hs
      · rw [zst_at, if_neg (fun q => hk2 ⟨q.1.symm, q.2.symm⟩)] at hs
        exact (g6 g p o).2 hs
  · rw [zst_at]
    split
    · next q => exact (h8 q.1.symm).1 q.2.symm
    · exact g7a
  · rw [zst_at]
    split
    · next q => exact (h8 q.1.symm).2.1 q.2.symm
    · exact g7b
  · rw [zst_at]
    split
    · next q => exact (h8 q.1.symm).2.2 q.2.symm
    · exact g7c
  · rw [zst_at]
    split
    · next q => exact h9 q.1.symm q.2.symm
    · exact g8
theorem zWS.s14 (h : zWS P S) {t p o f v : Int} (hv : zR v) (hf : f = 2 → 0 ≤ v ∧ v ≤ 9999) : zWS P (zst S (14, t, p, o) f v) := h.st hv (fun _ _ _ _ q => hf q) (fun _ _ q => by cases q) (fun _ _ q => by cases q) (fun _ _ q => by cases q) (fun _ _ q => by cases q) (fun _ _ q => by cases q) (fun q => by cases q) (fun q => by cases q)
theorem zWS.s11 (h : zWS P S) {t p f v : Int} (hv : zR v) (hf : 0 ≤ t ∧ t < P 0 0 0 → 0 ≤ p ∧ p < P 1 t 0 → 0 ≤ v ∧ v ≤ P 2 t p) : zWS P (zst S (11, t, p, 0) f v) := h.st hv (fun _ _ _ q => by cases q) (fun _ _ q _ => by cases q; exact hf) (fun _ _ q => by cases q) (fun _ _ q => by cases q) (fun _ _ q => by cases q) (fun _ _ q => by cases q) (fun q => by cases q) (fun q => by cases q)
theorem zWS.s18 (h : zWS P S) {g p f v : Int} (hv : zR v) (hf : (f = 5 ∨ f = 6) → 0 ≤ g ∧ g < P 3 0 0 → 0 ≤ p ∧ p < P 1 (P 4 g 0) 0 → 0 ≤ v ∧ v ≤ P 2 (P 4 g 0) p) : zWS P (zst S (18, g, p, 0) f v) := h.st hv (fun _ _ _ q => by cases q) (fun _ _ q => by cases q) (fun _ _ q => by cases q; exact hf) (fun _ _ q => by cases q) (fun _ _ q => by cases q) (fun _ _ q => by cases q) (fun q => by cases q) (fun q => by cases q)
theorem zWS.s19 (h : zWS P S) {g p f v : Int} (hv : zR v) (hf : v = 1 → 1 ≤ S (20, g, p, 0) f) : zWS P (zst S (19, g, p, 0) f v) := h.st hv (fun _ _ _ q => by cases q) (fun _ _ q => by cases q) (fun _ _ q => by cases q) (fun _ _ q => by cases q) (fun _ _ q => by cases q) (fun _ _ q => by cases q; exact hf) (fun q => by cases q) (fun q => by cases q)
theorem zWS.s20 (h : zWS P S) {g p f v : Int} (hf : (0 ≤ v ∧ v ≤ 3) ∧ (S (19, g, p, 0) f = 1 → 1 ≤ v)) : zWS P (zst S (20, g, p, 0) f v) := h.st ⟨by omega, by omega⟩ (fun _ _ _ q => by cases q) (fun _ _ q => by cases q) (fun _ _ q => by cases q) (fun _ _ q => by cases q) (fun _ _ q => by cases q; exact hf) (fun _ _ q => by cases q) (fun q => by cases q) (fun q => by cases q)
theorem zWS.s21 (h : zWS P S) {g p f v : Int} (hf : 0 ≤ v ∧ v ≤ 20000) : zWS P (zst S (21, g, p, 0) f v) := h.st ⟨by omega, by omega⟩ (fun _ _ _ q => by cases q) (fun _ _ q => by cases q) (fun _ _ q => by cases q) (fun _ _ q => by cases q; exact hf) (fun _ _ q => by cases q) (fun _ _ q => by cases q) (fun q => by cases q) (fun q => by cases q)
theorem zWS.s0 (h : zWS P S) {f v : Int} (hv : zR v) (hf : (f = 6 → 0 ≤ v ∧ v ≤ 9999) ∧ (f = 7 → 1 ≤ v ∧ v ≤ 20) ∧ (f = 8 → 1 ≤ v ∧ v ≤ 50)) : zWS P (zst S (0, 0, 0, 0) f v) := h.st hv (fun _ _ _ q => by cases q) (fun _ _ q => by cases q) (fun _ _ q => by cases q) (fun _ _ q => by cases q) (fun _ _ q => by cases q) (fun _ _ q => by cases q) (fun _ => hf) (fun q => by cases q)
theorem zWS.s1 (h : zWS P S) {f v : Int} (hv : zR v) (hf : f = 1 → 0 ≤ v ∧ v ≤ 200) : zWS P (zst S (1, 0, 0, 0) f v) := h.st hv (fun _ _ _ q => by cases q) (fun _ _ q => by cases q) (fun _ _ q => by cases q) (fun _ _ q => by cases q) (fun _ _ q => by cases q) (fun _ _ q => by cases q) (fun q => by cases q) (fun _ => hf)
/-- a write of a cell that no bound speaks of -/
theorem zWS.sf (h : zWS P S) {n : Nat} {i j o f v : Int} (hv : zR v) (hn : n ≠ 14 ∧ n ≠ 11 ∧ n ≠ 18 ∧ n ≠ 19 ∧ n ≠ 20 ∧ n ≠ 21 ∧ n ≠ 0 ∧ n ≠ 1) : zWS P (zst S (n, i, j, o) f v) := h.st hv (fun _ _ _ q => absurd (congrArg Prod.fst q) hn.1) (fun _ _ q => absurd (congrArg Prod.fst q) hn.2.1) (fun _ _ q => absurd (congrArg Prod.fst q) hn.2.2.1) (fun _ _ q => absurd (congrArg Prod.fst q) hn.2.2.2.2.2.1) (fun _ _ q => absurd (congrArg Prod.fst q) hn.2.2.2.2.1) (fun _ _ q => absurd (congrArg Prod.fst q) hn.2.2.2.1) (fun q => absurd (congrArg Prod.fst q) hn.2.2.2.2.2.2.1) (fun q => absurd (congrArg Prod.fst q) hn.2.2.2.2.2.2.2)
/-! the partition's -/
theorem zsp_W {t p x y : Int} (hy : zR y) {a n : Int} (han : a ≤ n) {m : Int} (h : zWS P S) : zWS P (lp (zsp t p x y) a n (S, m)).1 := by
  refine lp_ind (fun _ s => zWS P s.1) _ a n (S, m) han rfl h (fun o s _ _ hs => ?_)
  unfold zsp
  split
  · exact hs.s14 hy (fun q => by omega)
  · exact hs
theorem zdr_W {t p e : Int} {a n : Int} (han : a ≤ n) {m : Int} (h : zWS P S) : zWS P (lp (zdr t p e) a n (S, m)).1 := by
  refine lp_ind (fun _ s => zWS P s.1) _ a n (S, m) han rfl h (fun o s _ _ hs => ?_)
  unfold zdr
  split
  · exact hs.s14 ⟨by omega, by omega⟩ (fun q => by omega)
  · exact hs
theorem zdo_W (hP : zWP P) {t p x y : Int} (ht : 0 ≤ t ∧ t < P 0 0 0) (hp : 0 ≤ p ∧ p < P 1 t 0) : ∀ (n : Nat) (S : zS), zWS P S → zWS P (zdo P t p x y n S) := by
  intro n
  induction n with
  | zero => exact fun S h => h
  | succ n ih =>
    intro S h
    by_cases hc : zdc P t p x y S
    · rw [zdo_go n hc]
      have hm := hP.m ht hp
      have hs := h.s ht hp
      have hc1 := hc.1
      exact ih _ ((h.s14 ⟨by omega, by omega⟩ (fun q => by omega)).s11 ⟨by omega, by omega⟩ (fun _ _ => ⟨by omega, by omega⟩))
    · rw [zdo_stop _ hc]
      exact h
end ZWS
/-! the topic's -/
def zts (P : zP) (t x y : Int) (p : Int) (s : zS × Int) : zS × Int := ((lp (zsp t p x y) 0 (P 2 t p) (s.1, 0)).1, s.2 + (lp (zsp t p x y) 0 (P 2 t p) (s.1, 0)).2)
def ztd (P : zP) (t x y : Int) (p : Int) (S : zS) : zS := zdo P t p x y (P 2 t p - S (11, t, p, 0) 1).toNat S
def ztr (P : zP) (t : Int) (p : Int) (s : zS × Int) : zS × Int := ((lp (zdr t p (zse P s.1 t p)) 0 (zse P s.1 t p) (s.1, 0)).1, s.2 + (lp (zdr t p (zse P s.1 t p)) 0 (zse P s.1 t p) (s.1, 0)).2)
def ztc (P : zP) (S : zS) (t p : Int) : Int := sm (fun o => if zod S t p o (zse P S t p) then 1 else 0) 0 (zse P S t p)
def ztk (P : zP) (S : zS) (t p : Int) : Int := sm (fun o => if zkp S t p o then 1 else 0) 0 (P 2 t p)
/-- the partition with fewest messages, the first of these -/
def zpf (P : zP) (t : Int) (k : Int) (q : Int) : Int := if P 2 t k < P 2 t q then k else q
def zpa (P : zP) (t key : Int) : Int := if key = -1 then lp (zpf P t) 1 (P 1 t 0) 0 else key % P 1 t 0
