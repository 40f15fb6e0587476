/-! ===== what holds between the Pier's acts: tries, starts, the ledger ===== -/
/-- what was given has tries; what is laid aside has three -/
def s7 (P : zP) (V : zS) : Prop := ∀ g p o, inG P g → inQ P g p → inM P (P 4 g 0) p o → (V (19, g, p, 0) o = 2 ∨ V (19, g, p, 0) o = 3 ∨ V (19, g, p, 0) o = 4 → 1 ≤ V (20, g, p, 0) o) ∧ (V (19, g, p, 0) o = 4 → V (20, g, p, 0) o = 3)
/-- what lies ahead of the start is dropped -/
def zSd (P : zP) (V : zS) : Prop := ∀ t p o, inT P t → inP P t p → inM P t p o → o < V (11, t, p, 0) 1 → V (14, t, p, o) 5 = 1
/-- how many are out -/
def zco1 (V : zS) (g p : Int) (o : Int) : Int := if V (19, g, p, 0) o = 1 then 1 else 0
def zcoP (P : zP) (V : zS) (g : Int) (p : Int) : Int := sm (zco1 V g p) 0 (P 2 (P 4 g 0) p)
def zcoG (P : zP) (V : zS) (g : Int) : Int := sm (zcoP P V g) 0 (P 1 (P 4 g 0) 0)
def zcoA (P : zP) (V : zS) : Int := sm (zcoG P V) 0 (P 3 0 0)
/-- how many rows of a sort -/
def zcs1 (V : zS) (s : Int) (k : Int) : Int := if V (2, 0, 0, 0) (5 * k) = s then 1 else 0
def zcs (V : zS) (s : Int) : Int := sm (zcs1 V s) 0 (V (1, 0, 0, 0) 1)
def zLg (P : zP) (V : zS) : Prop := (0 ≤ V (1, 0, 0, 0) 1 ∧ V (1, 0, 0, 0) 1 ≤ 200) ∧
  (∀ k, 0 ≤ k → k < V (1, 0, 0, 0) 1 → V (2, 0, 0, 0) (5 * k + 4) ≤ V (0, 0, 0, 0) 6 ∧ (0 < k → V (2, 0, 0, 0) (5 * (k - 1) + 4) ≤ V (2, 0, 0, 0) (5 * k + 4)) ∧ (V (2, 0, 0, 0) (5 * k) = 3 → 0 < k ∧ V (2, 0, 0, 0) (5 * (k - 1)) = 2)) ∧
  zcs V 2 ≤ zcs V 0 ∧ (V (1, 0, 0, 0) 1 < 200 → zcs V 2 + zcoA P V ≤ zcs V 0)
def zK0 (P : zP) (V : zS) : Prop := s7 P V ∧ zSd P V ∧ zLg P V
/-! sums -/
theorem sm_mono {f f' : Int → Int} : ∀ (k : Nat) (a n : Int), (n - a).toNat = k → (∀ o, a ≤ o → o < n → f o ≤ f' o) → sm f a n ≤ sm f' a n := by
  intro k
  induction k with
  | zero => intro a n hk _; rw [sm_end (by omega), sm_end (by omega)]; omega
  | succ k ih =>
    intro a n hk h
    rw [sm_step (f := f) (by omega), sm_step (f := f') (by omega)]
    have h1 := h a (by omega) (by omega)
    have h2 := ih (a + 1) n (by omega) (fun o g1 g2 => h o (by omega) g2)
    omega
theorem sm_pt {f f' : Int → Int} {c d : Int} : ∀ (k : Nat) (a n : Int), (n - a).toNat = k → a ≤ c → c < n → (∀ o, a ≤ o → o < n → o ≠ c → f' o ≤ f o) → f' c ≤ f c + d → sm f' a n ≤ sm f a n + d := by
  intro k
  induction k with
  | zero => intro a n hk h1 h2; omega
  | succ k ih =>
    intro a n hk h1 h2 h3 h4
    rw [sm_step (f := f) (by omega), sm_step (f := f') (by omega)]
    by_cases h : a = c
    · subst h
      have := sm_mono (f := f') (f' := f) _ (a + 1) n rfl (fun o g1 g2 => h3 o (by omega) g2 (by omega))
      omega
    · have h5 := h3 a (by omega) (by omega) h
      have h6 := ih (a + 1) n (by omega) (by omega) h2 (fun o g1 g2 => h3 o (by omega) g2) h4
      omega
theorem sm_last {f : Int → Int} : ∀ (k : Nat) (a n : Int), (n - a).toNat = k → a ≤ n → sm f a (n + 1) = sm f a n + f n := by
  intro k
  induction k with
  | zero =>
    intro a n hk h
    rw [sm_step (by omega), sm_end (a := a + 1) (by omega), sm_end (a := a) (n := n) (by omega), show a = n by omega]
    omega
  | succ k ih =>
    intro a n hk h
    rw [sm_step (f := f) (a := a) (n := n + 1) (by omega), sm_step (f := f) (a := a) (n := n) (by omega), ih (a + 1) n (by omega) (by omega)]
    omega
section ZK0
variable {P : zP} {V V' : zS}
/-- fewer are out -/
theorem zcoA_le (h : ∀ g p o, inG P g → inQ P g p → inM P (P 4 g 0) p o → V' (19, g, p, 0) o = 1 → V (19, g, p, 0) o = 1) : zcoA P V' ≤ zcoA P V := by
  refine sm_mono _ _ _ rfl (fun g g1 g2 => sm_mono _ _ _ rfl (fun p p1 p2 => sm_mono _ _ _ rfl (fun o o1 o2 => ?_)))
  have := h g p o ⟨g1, g2⟩ ⟨p1, p2⟩ ⟨o1, o2⟩
  unfold zco1
  split <;> split <;> omega
/-- one cell changes -/
theorem zcoA_pt {g p o d : Int} (hg : inG P g) (hp : inQ P g p) (ho : inM P (P 4 g 0) p o) (h : ∀ g' p' o', inG P g' → inQ P g' p' → inM P (P 4 g' 0) p' o' → ¬ (g' = g ∧ p' = p ∧ o' = o) → V' (19, g', p', 0) o' = 1 → V (19, g', p', 0) o' = 1) (hc : zco1 V' g p o ≤ zco1 V g p o + d) : zcoA P V' ≤ zcoA P V + d := by
  refine sm_pt _ _ _ rfl hg.1 hg.2 (fun g' g1 g2 hne => sm_mono _ _ _ rfl (fun p' p1 p2 => sm_mono _ _ _ rfl (fun o' o1 o2 => ?_))) ?_
  · have := h g' p' o' ⟨g1, g2⟩ ⟨p1, p2⟩ ⟨o1, o2⟩ (fun q => hne q.1)
    unfold zco1
    split <;> split <;> omega
  · refine sm_pt _ _ _ rfl hp.1 hp.2 (fun p' p1 p2 hne => sm_mono _ _ _ rfl (fun o' o1 o2 => ?_)) ?_
    · have := h g p' o' hg ⟨p1, p2⟩ ⟨o1, o2⟩ (fun q => hne q.2.1)
      unfold zco1
      split <;> split <;> omega
    · refine sm_pt _ _ _ rfl ho.1 ho.2 (fun o' o1 o2 hne => ?_) hc
      have := h g p o' hg hp ⟨o1, o2⟩ (fun q => hne q.2.2)
      unfold zco1
      split <;> split <;> omega
theorem zcs_fr {s : Int} (h1 : V' (1, 0, 0, 0) 1 = V (1, 0, 0, 0) 1) (h2 : ∀ f, V' (2, 0, 0, 0) f = V (2, 0, 0, 0) f) : zcs V' s = zcs V s := by
  unfold zcs
  rw [h1]
  refine sm_congr _ _ _ rfl (fun k _ _ => ?_)
  unfold zcs1
  rw [h2]
/-- the ledger is left, no more are out, time goes on -/
theorem zLg.mono (h : zLg P V) (h1 : V' (1, 0, 0, 0) 1 = V (1, 0, 0, 0) 1) (h2 : ∀ f, V' (2, 0, 0, 0) f = V (2, 0, 0, 0) f) (h6 : V (0, 0, 0, 0) 6 ≤ V' (0, 0, 0, 0) 6) (ho : ∀ g p o, inG P g → inQ P g p → inM P (P 4 g 0) p o → V' (19, g, p, 0) o = 1 → V (19, g, p, 0) o = 1) : zLg P V' := by
  obtain ⟨a1, a2, a3, a4⟩ := h
  unfold zLg
  rw [h1, zcs_fr h1 h2, zcs_fr h1 h2]
  refine ⟨a1, fun k k1 k2 => ?_, a3, fun q => ?_⟩
  · rw [h2, h2, h2, h2]
    obtain ⟨b1, b2, b3⟩ := a2 k k1 k2
    exact ⟨by omega, b2, b3⟩
  · have := a4 q
    have := zcoA_le ho
    omega
/-- a row is written -/
theorem zcs_lw {a b c d e s : Int} (hl : 0 ≤ V (1, 0, 0, 0) 1) (h : ¬ 200 ≤ V (1, 0, 0, 0) 1) : zcs (zlw V a b c d e) s = zcs V s + if a = s then 1 else 0 := by
  unfold zcs
  rw [zlw_1 h, sm_last _ _ _ rfl hl]
  congr 1
  · refine sm_congr _ _ _ rfl (fun k k1 k2 => ?_)
    unfold zcs1
    rw [zlw_2 h (by omega)]
  · unfold zcs1
    have := zlw_r (V := V) (a := a) (b := b) (c := c) (d := d) (e := e) (x := 0) h
    rw [if_pos (by omega), Int.add_zero] at this
    rw [this]
    simp [zup]
theorem zlw_4 {a b c d e : Int} (h : ¬ 200 ≤ V (1, 0, 0, 0) 1) : zlw V a b c d e (2, 0, 0, 0) (5 * V (1, 0, 0, 0) 1 + 4) = e ∧ zlw V a b c d e (2, 0, 0, 0) (5 * V (1, 0, 0, 0) 1) = a := by
  have h4 := zlw_r (V := V) (a := a) (b := b) (c := c) (d := d) (e := e) (x := 4) h
  have h0 := zlw_r (V := V) (a := a) (b := b) (c := c) (d := d) (e := e) (x := 0) h
  rw [if_pos (by omega)] at h4 h0
  rw [Int.add_zero] at h0
  rw [h4, h0]
  simp [zup]
theorem zlw_id {a b c d e : Int} (h : 200 ≤ V (1, 0, 0, 0) 1) : zlw V a b c d e = V := if_pos h
theorem zst_cg2 {T U : zS} {k k' : zK} {f v : Int} (h : T k = U k) : zst T k' f v k = zst U k' f v k := by
  funext x
  rw [zst_at, zst_at, h]
theorem zlw_cg {T U : zS} {a b c d e : Int} (h1 : T (1, 0, 0, 0) 1 = U (1, 0, 0, 0) 1) {k : zK} (h : T k = U k) : zlw T a b c d e k = zlw U a b c d e k := by
  unfold zlw
  rw [h1]
  split
  · exact h
  · exact zst_cg2 (zst_cg2 (zst_cg2 (zst_cg2 (zst_cg2 (zst_cg2 h)))))
/-- the ledger's rows, behind one more -/
theorem zLg_lw (h : zLg P V) {a b c d : Int} (ha : a = 3 → 0 < V (1, 0, 0, 0) 1 ∧ V (2, 0, 0, 0) (5 * (V (1, 0, 0, 0) 1 - 1)) = 2) (hl : ¬ 200 ≤ V (1, 0, 0, 0) 1) : (0 ≤ zlw V a b c d (V (0, 0, 0, 0) 6) (1, 0, 0, 0) 1 ∧ zlw V a b c d (V (0, 0, 0, 0) 6) (1, 0, 0, 0) 1 ≤ 200) ∧ ∀ k, 0 ≤ k → k < zlw V a b c d (V (0, 0, 0, 0) 6) (1, 0, 0, 0) 1 → zlw V a b c d (V (0, 0, 0, 0) 6) (2, 0, 0, 0) (5 * k + 4) ≤ V (0, 0, 0, 0) 6 ∧ (0 < k → zlw V a b c d (V (0, 0, 0, 0) 6) (2, 0, 0, 0) (5 * (k - 1) + 4) ≤ zlw V a b c d (V (0, 0, 0, 0) 6) (2, 0, 0, 0) (5 * k + 4)) ∧ (zlw V a b c d (V (0, 0, 0, 0) 6) (2, 0, 0, 0) (5 * k) = 3 → 0 < k ∧ zlw V a b c d (V (0, 0, 0, 0) 6) (2, 0, 0, 0) (5 * (k - 1)) = 2) := by
  obtain ⟨a1, a2, a3, a4⟩ := h
  rw [zlw_1 hl]
  refine ⟨by omega, fun k k1 k2 => ?_⟩
  obtain ⟨e4, e0⟩ := zlw_4 (V := V) (a := a) (b := b) (c := c) (d := d) (e := V (0, 0, 0, 0) 6) hl
  by_cases hk : k = V (1, 0, 0, 0) 1
  · rw [hk, e4, e0]
    refine ⟨by omega, fun q => ?_, fun q => ?_⟩
    · rw [zlw_2 hl (by omega)]
      exact (a2 (V (1, 0, 0, 0) 1 - 1) (by omega) (by omega)).1
    · rw [zlw_2 hl (by omega)]
      exact ha q
  · rw [zlw_2 hl (by omega), zlw_2 hl (by omega), zlw_2 hl (by omega), zlw_2 hl (by omega)]
    exact a2 k k1 (by omega)
theorem zcoA_0 : 0 ≤ zcoA P V := by
  have s0 : ∀ (f : Int → Int) (k : Nat) (a n : Int), (n - a).toNat = k → (∀ o, 0 ≤ f o) → 0 ≤ sm f a n := by
    intro f k
    induction k with
    | zero => intro a n hk _; rw [sm_end (by omega)]; omega
    | succ k ih =>
      intro a n hk h
      rw [sm_step (by omega)]
      have := ih (a + 1) n (by omega) h
      have := h a
      omega
  exact s0 _ _ _ _ rfl (fun g => s0 _ _ _ _ rfl (fun p => s0 _ _ _ _ rfl (fun o => by unfold zco1; split <;> omega)))
/-- a row of another sort: nothing is given or nacked -/
theorem zLg_x (h : zLg P V) {s b c d : Int} (hs : s = 1 ∨ s = 3) (ha : s = 3 → ¬ 200 ≤ V (1, 0, 0, 0) 1 → 0 < V (1, 0, 0, 0) 1 ∧ V (2, 0, 0, 0) (5 * (V (1, 0, 0, 0) 1 - 1)) = 2) : zLg P (zlw V s b c d (V (0, 0, 0, 0) 6)) := by
  by_cases hl : 200 ≤ V (1, 0, 0, 0) 1
  · rw [zlw_id hl]
    exact h
  · obtain ⟨b1, b2⟩ := zLg_lw h (a := s) (b := b) (c := c) (d := d) (fun q => ha q hl) hl
    obtain ⟨a1, a2, a3, a4⟩ := h
    unfold zLg
    rw [zcs_lw a1.1 hl, zcs_lw a1.1 hl, if_neg (by omega), if_neg (by omega), zlw_k (k := (0, 0, 0, 0)) ⟨by simp, by simp⟩]
    refine ⟨b1, b2, by omega, fun _ => ?_⟩
    have := a4 (by omega)
    have : zcoA P (zlw V s b c d (V (0, 0, 0, 0) 6)) ≤ zcoA P V := zcoA_le (fun g' p' o' _ _ _ q => by rw [zlw_k ⟨by simp, by simp⟩] at q; exact q)
    omega
theorem zLg_1 (h : zLg P V) {b c d : Int} : zLg P (zlw V 1 b c d (V (0, 0, 0, 0) 6)) := zLg_x h (Or.inl rfl) (fun q => by omega)
theorem zLg_3 (h : zLg P V) {b c d : Int} (ha : ¬ 200 ≤ V (1, 0, 0, 0) 1 → 0 < V (1, 0, 0, 0) 1 ∧ V (2, 0, 0, 0) (5 * (V (1, 0, 0, 0) 1 - 1)) = 2) : zLg P (zlw V 3 b c d (V (0, 0, 0, 0) 6)) := zLg_x h (Or.inr rfl) (fun _ => ha)
def kK (n : Nat) : Bool := !(n == 0 || (n == 1 || (n == 2 || (n == 11 || (n == 14 || (n == 19 || n == 20))))))
theorem s7_fr {K : Nat → Bool} (hf : zfr K V V') (h19 : K 19 = false) (h20 : K 20 = false) (h : s7 P V) : s7 P V' := fun g p o a b c => by
  rw [hf _ _ h19, hf _ _ h20]
  exact h g p o a b c
theorem zK0.fr (h : zK0 P V) (hf : zfr kK V V') : zK0 P V' := ⟨s7_fr hf rfl rfl h.1, fun t p o a b c d => by
  rw [hf _ _ (show kK 14 = false from rfl)]
  rw [hf _ _ (show kK 11 = false from rfl)] at d
  exact h.2.1 t p o a b c d, h.2.2.mono (hf _ _ rfl) (fun f => hf _ _ rfl) (by rw [hf _ _ (show kK 0 = false from rfl)]; omega) (fun g p o _ _ _ q => by rw [hf _ _ (show kK 19 = false from rfl)] at q; exact q)⟩
/-- one is forgotten -/
theorem zK0.fg (h : zK0 P V) {g p o : Int} : zK0 P (zfg V g p o) := by
  have e : ∀ k f, k.1 ≠ 19 → k.1 ≠ 20 → zfg V g p o k f = V k f := fun k f a b => zfg_fr (K := fun n => n == 19 || n == 20) rfl rfl _ _ (by simp [a, b])
  have e19 : ∀ g' p' o', zfg V g p o (19, g', p', 0) o' = V (19, g', p', 0) o' ∧ zfg V g p o (20, g', p', 0) o' = V (20, g', p', 0) o' ∨ zfg V g p o (19, g', p', 0) o' = 0 := fun g' p' o' => by
    unfold zfg
    by_cases hc : g' = g ∧ p' = p ∧ o' = o
    · obtain ⟨rfl, rfl, rfl⟩ := hc
      refine Or.inr ?_
      rw [zst_k _ _ _ _ (by simp), zst_s]
    · refine Or.inl ⟨?_, ?_⟩
      · rw [zst_k _ _ _ _ (by simp), zst_at, if_neg (fun q => hc (by have := q.1; simp at this; exact ⟨this.1, this.2, q.2⟩))]
      · rw [zst_at, if_neg (fun q => hc (by have := q.1; simp at this; exact ⟨this.1, this.2, q.2⟩)), zst_k _ _ _ _ (by simp)]
  refine ⟨fun g' p' o' a b c => ?_, fun t p' o' a b c d => ?_, h.2.2.mono (e _ _ (by simp) (by simp)) (fun f => e _ _ (by simp) (by simp)) (by rw [e _ _ (by simp) (by simp)]; omega) (fun g' p' o' _ _ _ q => ?_)⟩
  · rcases e19 g' p' o' with ⟨q1, q2⟩ | q1
    · rw [q1, q2]
      exact h.1 g' p' o' a b c
    · rw [q1]
      exact ⟨fun q => by omega, fun q => by omega⟩
  · rw [e _ _ (by simp) (by simp)]
    rw [e _ _ (by simp) (by simp)] at d
    exact h.2.1 t p' o' a b c d
  · rcases e19 g' p' o' with ⟨q1, -⟩ | q1
    · rw [q1] at q
      exact q
    · omega
/-- one is dropped -/
theorem zK0.dr (h : zK0 P V) {t p o : Int} : zK0 P (zst V (14, t, p, o) 5 1) := by
  refine ⟨s7_fr zfr_1 rfl rfl h.1, fun t' p' o' a b c d => ?_, h.2.2.mono (zst_k _ _ _ _ (by simp)) (fun f => zst_k _ _ _ _ (by simp)) (by rw [zst_k _ _ _ _ (by simp)]; omega) (fun g p o _ _ _ q => by rw [zst_k _ _ _ _ (by simp)] at q; exact q)⟩
  rw [zst_k _ _ _ _ (by simp)] at d
  rw [zst_at]
  split
  · rfl
  · exact h.2.1 t' p' o' a b c d
/-- the start goes on over a dropped one -/
theorem zK0.st (h : zK0 P V) {t p : Int} (hd : V (14, t, p, V (11, t, p, 0) 1) 5 = 1) : zK0 P (zst V (11, t, p, 0) 1 (V (11, t, p, 0) 1 + 1)) := by
  refine ⟨s7_fr zfr_1 rfl rfl h.1, fun t' p' o' a b c d => ?_, h.2.2.mono (zst_k _ _ _ _ (by simp)) (fun f => zst_k _ _ _ _ (by simp)) (by rw [zst_k _ _ _ _ (by simp)]; omega) (fun g p o _ _ _ q => by rw [zst_k _ _ _ _ (by simp)] at q; exact q)⟩
  rw [zst_k _ _ _ _ (by simp)]
  by_cases hc : t' = t ∧ p' = p
  · obtain ⟨rfl, rfl⟩ := hc
    rw [zst_s] at d
    by_cases ho : o' = V (11, t', p', 0) 1
    · rw [ho]; exact hd
    · exact h.2.1 t' p' o' a b c (by omega)
  · rw [zst_k _ _ _ _ (fun q => hc (by simp at q; exact q))] at d
    exact h.2.1 t' p' o' a b c d
theorem zK0.k18 (h : zK0 P V) {g p f v : Int} : zK0 P (zst V (18, g, p, 0) f v) := h.fr (zfr.rf.st rfl)
theorem zK0.clk (h : zK0 P V) {x : Int} (hx : V (0, 0, 0, 0) 6 ≤ x) : zK0 P (zst V (0, 0, 0, 0) 6 x) := ⟨s7_fr zfr_1 rfl rfl h.1, fun t p o a b c d => by
  rw [zst_k _ _ _ _ (by simp)]
  rw [zst_k _ _ _ _ (by simp)] at d
  exact h.2.1 t p o a b c d, h.2.2.mono (zst_k _ _ _ _ (by simp)) (fun f => zst_k _ _ _ _ (by simp)) (by rw [zst_s]; exact hx) (fun g p o _ _ _ q => by rw [zst_k _ _ _ _ (by simp)] at q; exact q)⟩
theorem zK0.k1 (h : zK0 P V) {g p a n : Int} (han : a ≤ n) : zK0 P (lp (zk1 P g p) a n V) := lp_ind (fun _ s => zK0 P s) _ a n V han rfl h (fun o s _ _ hs => by
  unfold zk1
  split
  · exact hs.fg
  · exact hs)
theorem zK0.mk (h : zK0 P V) {g p : Int} (n : Nat) : zK0 P (zmk P g p n V) := h.fr ((zmk_fr (K := fun m => m == 18) rfl n V).mono (fun m hm => by simp at hm; subst hm; rfl))
theorem zK0.ku (h : zK0 P V) (hP : zWP P) {g p : Int} (hg : inG P g) (hp : inQ P g p) : zK0 P (zku P V g p) := by
  have hm := hP.m (hP.g hg) hp
  unfold zku
  exact ((h.k1 hm.1).mk _).k18
theorem zK0.kG (h : zK0 P V) (hP : zWP P) {g : Int} (hg : inG P g) : zK0 P (zkG P g V) := by
  have hn := hP.t (hP.g hg)
  exact lp_ind (fun _ s => zK0 P s) _ 0 _ V (by omega) rfl h (fun p s h1 h2 hs => hs.ku hP hg ⟨h1, h2⟩)
theorem zK0.kA (h : zK0 P V) (hP : zWP P) : zK0 P (zkA P V) := by
  have hn := hP.n
  exact lp_ind (fun _ s => zK0 P s) _ 0 _ V (by omega) rfl h (fun g s h1 h2 hs => hs.kG hP ⟨h1, h2⟩)
theorem zK0.dp (h : zK0 P V) {t p o : Int} : zK0 P (zdp P t p o V) := lp_ind (fun _ s => zK0 P s) _ 0 4 _ (by omega) rfl h.dr (fun g s _ _ hs => by
  unfold zd1
  split
  · exact hs.fg
  · exact hs)
theorem zK0.ht (h : zK0 P V) (hP : zWP P) {g p x : Int} (hg : inG P g) (hp : inQ P g p) : zK0 P (zht P V g p x) := by
  have hm := hP.m (hP.g hg) hp
  unfold zht
  split
  · exact h
  · refine zK0.k18 (lp_ind (fun _ s => zK0 P s) _ 0 _ _ hm.1 rfl h.k18 (fun o s _ _ hs => ?_))
    unfold zh1
    split
    · exact hs.fg
    · exact hs
theorem zK0.mv (h : zK0 P V) {g p o : Int} (ho : 0 ≤ o ∧ o ≤ P 2 (P 4 g 0) p) : zK0 P (zmv P V g p o) := by
  unfold zmv
  refine zK0.k18 (zK0.k18 (lp_ind (fun _ s => zK0 P s) _ o _ _ ho.2 rfl (lp_ind (fun _ s => zK0 P s) _ 0 _ _ ho.1 rfl h (fun o s _ _ hs => ?_)) (fun o s _ _ hs => ?_)))
  · unfold zm1
    split
    · exact hs.fg
    · exact hs
  · exact hs.fg
/-- one is given -/
theorem zK0.gv (h : zK0 P V) {g p o : Int} (hg : inG P g) (hp : inQ P g p) (ho : inM P (P 4 g 0) p o) (h1 : ¬ V (19, g, p, 0) o = 1) (h20 : 0 ≤ V (20, g, p, 0) o) : zK0 P (zlw (zgv V g p o (V (0, 0, 0, 0) 6)) 0 g p o (V (0, 0, 0, 0) 6)) := by
  have hz : zfr (fun n => n == 18 || n == 19 || n == 20 || n == 21) V (zgv V g p o (V (0, 0, 0, 0) 6)) := zgv_fr rfl rfl rfl rfl
  have e19 : zgv V g p o (V (0, 0, 0, 0) 6) (19, g, p, 0) o = 1 := by
    unfold zgv
    rw [zst_k _ _ _ _ (by simp), zst_k _ _ _ _ (by simp), zst_s]
  have n19 : ∀ n : Nat, n = 19 ∨ n = 20 → ∀ g' p' o', ¬ (g' = g ∧ p' = p ∧ o' = o) → zgv V g p o (V (0, 0, 0, 0) 6) (n, g', p', 0) o' = V (n, g', p', 0) o' := fun n hn g' p' o' hc => by
    have hne : ∀ m : Nat, ¬ ((n, g', p', (0 : Int)) = (m, g, p, (0 : Int)) ∧ o' = o) := fun m q => hc (by have := q.1; simp at this; exact ⟨this.2.1, this.2.2, q.2⟩)
    unfold zgv
    rw [zst_at, if_neg (hne 21), zst_at, if_neg (hne 20), zst_at, if_neg (hne 19)]
    unfold zg0
    split
    · rw [zst_k _ _ _ _ (by rcases hn with e | e <;> subst e <;> simp)]
    · rfl
  have hT : s7 P (zgv V g p o (V (0, 0, 0, 0) 6)) := fun g' p' o' a b c => by
    by_cases hc : g' = g ∧ p' = p ∧ o' = o
    · obtain ⟨rfl, rfl, rfl⟩ := hc
      rw [e19]
      exact ⟨fun q => by omega, fun q => by omega⟩
    · rw [n19 19 (Or.inl rfl) _ _ _ hc, n19 20 (Or.inr rfl) _ _ _ hc]
      exact h.1 g' p' o' a b c
  have hco : zcoA P (zgv V g p o (V (0, 0, 0, 0) 6)) ≤ zcoA P V + 1 := zcoA_pt hg hp ho (fun g' p' o' _ _ _ hc q => by rw [n19 19 (Or.inl rfl) _ _ _ hc] at q; exact q) (by unfold zco1; rw [if_pos e19]; split <;> omega)
  obtain ⟨a1, a2, a3, a4⟩ := h.2.2
  have hk1 : zgv V g p o (V (0, 0, 0, 0) 6) (1, 0, 0, 0) 1 = V (1, 0, 0, 0) 1 := hz _ _ rfl
  have hk2 : ∀ f, zgv V g p o (V (0, 0, 0, 0) 6) (2, 0, 0, 0) f = V (2, 0, 0, 0) f := fun f => hz _ _ rfl
  have hk6 : zgv V g p o (V (0, 0, 0, 0) 6) (0, 0, 0, 0) 6 = V (0, 0, 0, 0) 6 := hz _ _ rfl
  refine ⟨s7_fr (zlw_fr (K := fun n => n == 1 || n == 2) rfl rfl) rfl rfl hT, fun t' p' o' a b c d => ?_, ?_⟩
  · rw [zlw_k ⟨by simp, by simp⟩, hz _ _ rfl] at d
    rw [zlw_k ⟨by simp, by simp⟩, hz _ _ rfl]
    exact h.2.1 t' p' o' a b c d
  · by_cases hl : 200 ≤ V (1, 0, 0, 0) 1
    · rw [zlw_id (by rw [hk1]; exact hl)]
      unfold zLg
      rw [hk1, zcs_fr hk1 hk2, zcs_fr hk1 hk2, hk6]
      exact ⟨a1, fun k k1 k2 => by rw [hk2, hk2, hk2, hk2]; exact a2 k k1 k2, a3, fun q => by omega⟩
    · have hl' : ¬ 200 ≤ zgv V g p o (V (0, 0, 0, 0) 6) (1, 0, 0, 0) 1 := by rw [hk1]; exact hl
      -- rows alone, over a memory whose ledger is V's
      have hR : zLg P (zst V (19, g, p, 0) o (V (19, g, p, 0) o)) := by rw [zst_id rfl]; exact h.2.2
      obtain ⟨b1, b2⟩ := zLg_lw h.2.2 (a := 0) (b := g) (c := p) (d := o) (fun q => by omega) hl
      have q1 : zlw (zgv V g p o (V (0, 0, 0, 0) 6)) 0 g p o (V (0, 0, 0, 0) 6) (1, 0, 0, 0) 1 = zlw V 0 g p o (V (0, 0, 0, 0) 6) (1, 0, 0, 0) 1 := by rw [zlw_1 hl', zlw_1 hl, hk1]
      have q2 : ∀ f, zlw (zgv V g p o (V (0, 0, 0, 0) 6)) 0 g p o (V (0, 0, 0, 0) 6) (2, 0, 0, 0) f = zlw V 0 g p o (V (0, 0, 0, 0) 6) (2, 0, 0, 0) f := congrFun (zlw_cg hk1 (funext hk2))
      have q6 : zlw (zgv V g p o (V (0, 0, 0, 0) 6)) 0 g p o (V (0, 0, 0, 0) 6) (0, 0, 0, 0) 6 = V (0, 0, 0, 0) 6 := (zlw_k ⟨by simp, by simp⟩).trans hk6
      unfold zLg
      rw [q1, q6, zcs_fr q1 q2, zcs_fr q1 q2, zcs_lw a1.1 hl, zcs_lw a1.1 hl]
      refine ⟨b1, fun k k1 k2 => by rw [q2, q2, q2, q2]; exact b2 k k1 k2, by simp; omega, fun _ => ?_⟩
      have e := a4 (by omega)
      have e2 : zcoA P (zlw (zgv V g p o (V (0, 0, 0, 0) 6)) 0 g p o (V (0, 0, 0, 0) 6)) ≤ zcoA P (zgv V g p o (V (0, 0, 0, 0) 6)) := zcoA_le (fun g' p' o' _ _ _ q => by rw [zlw_k ⟨by simp, by simp⟩] at q; exact q)
      simp
      omega
/-- one is acked -/
theorem zK0.ak (h : zK0 P V) {g p o : Int} (hg : inG P g) (hp : inQ P g p) (ho : inM P (P 4 g 0) p o) (h1 : V (19, g, p, 0) o = 1) (h20 : 1 ≤ V (20, g, p, 0) o) : zK0 P (zlw (zst V (19, g, p, 0) o 3) 1 g p o (V (0, 0, 0, 0) 6)) := by
  have n19 : ∀ g' p' o', zst V (19, g, p, 0) o 3 (19, g', p', 0) o' = if g' = g ∧ p' = p ∧ o' = o then 3 else V (19, g', p', 0) o' := fun g' p' o' => by
    rw [zst_at]
    by_cases hc : g' = g ∧ p' = p ∧ o' = o
    · rw [if_pos hc, if_pos ⟨by rw [hc.1, hc.2.1], hc.2.2⟩]
    · rw [if_neg hc, if_neg (fun q => hc (by have := q.1; simp at this; exact ⟨this.1, this.2, q.2⟩))]
  have hT : s7 P (zst V (19, g, p, 0) o 3) := fun g' p' o' a b c => by
    rw [n19, zst_k _ _ _ _ (by simp)]
    by_cases hc : g' = g ∧ p' = p ∧ o' = o
    · rw [if_pos hc, hc.1, hc.2.1, hc.2.2]
      exact ⟨fun _ => h20, fun q => by omega⟩
    · rw [if_neg hc]
      exact h.1 g' p' o' a b c
  have hmo : ∀ g' p' o', zst V (19, g, p, 0) o 3 (19, g', p', 0) o' = 1 → V (19, g', p', 0) o' = 1 := fun g' p' o' q => by
    rw [n19] at q
    split at q
    · omega
    · exact q
  have hk1 : zst V (19, g, p, 0) o 3 (1, 0, 0, 0) 1 = V (1, 0, 0, 0) 1 := zst_k _ _ _ _ (by simp)
  have hk2 : zst V (19, g, p, 0) o 3 (2, 0, 0, 0) = V (2, 0, 0, 0) := funext fun f => zst_k _ _ _ _ (by simp)
  have hL : zLg P (zst V (19, g, p, 0) o 3) := h.2.2.mono hk1 (congrFun hk2) (by rw [zst_k _ _ _ _ (by simp)]; omega) (fun g' p' o' _ _ _ => hmo g' p' o')
  refine ⟨s7_fr (zlw_fr (K := fun n => n == 1 || n == 2) rfl rfl) rfl rfl hT, fun t' p' o' a b c d => ?_, ?_⟩
  · rw [zlw_k ⟨by simp, by simp⟩, zst_k _ _ _ _ (by simp)] at d
    rw [zlw_k ⟨by simp, by simp⟩, zst_k _ _ _ _ (by simp)]
    exact h.2.1 t' p' o' a b c d
  · have e6 : V (0, 0, 0, 0) 6 = zst V (19, g, p, 0) o 3 (0, 0, 0, 0) 6 := (zst_k _ _ _ _ (by simp)).symm
    rw [e6]
    exact zLg_1 hL
/-- one is nacked -/
theorem zK0.nk (h : zK0 P V) {g p o : Int} (hg : inG P g) (hp : inQ P g p) (ho : inM P (P 4 g 0) p o) (h1 : V (19, g, p, 0) o = 1) (h20 : 1 ≤ V (20, g, p, 0) o ∧ V (20, g, p, 0) o ≤ 3) : zK0 P (zB V g p o) := by
  have hW : zB V g p o = zB V g p o := rfl
  -- what becomes of the cells of groups
  have hs : ∀ g' p' o', (¬ (g' = g ∧ p' = p ∧ o' = o) → zB V g p o (19, g', p', 0) o' = V (19, g', p', 0) o') ∧ zB V g p o (20, g', p', 0) o' = V (20, g', p', 0) o' := fun g' p' o' => by
    have hne : ¬ (g' = g ∧ p' = p ∧ o' = o) → ¬ (((19 : Nat), g', p', (0 : Int)) = (19, g, p, (0 : Int)) ∧ o' = o) := fun hc q => hc (by have := q.1; simp at this; exact ⟨this.1, this.2, q.2⟩)
    by_cases h3 : 3 ≤ V (20, g, p, 0) o
    · rw [zB_3 h3]
      refine ⟨fun hc => ?_, ?_⟩
      · rw [zlw_k ⟨by simp, by simp⟩, zst_at, if_neg (hne hc), zlw_k ⟨by simp, by simp⟩]
      · rw [zlw_k ⟨by simp, by simp⟩, zst_k _ _ _ _ (by simp), zlw_k ⟨by simp, by simp⟩]
    · rw [zB_lt h3]
      refine ⟨fun hc => ?_, ?_⟩
      · rw [zst_k _ _ _ _ (by simp), zst_at, if_neg (hne hc), zlw_k ⟨by simp, by simp⟩]
      · rw [zst_k _ _ _ _ (by simp), zst_k _ _ _ _ (by simp), zlw_k ⟨by simp, by simp⟩]
  have hc19 : zB V g p o (19, g, p, 0) o = if 3 ≤ V (20, g, p, 0) o then 4 else 2 := by
    by_cases h3 : 3 ≤ V (20, g, p, 0) o
    · rw [zB_3 h3, if_pos h3, zlw_k ⟨by simp, by simp⟩, zst_s]
    · rw [zB_lt h3, if_neg h3, zst_k _ _ _ _ (by simp), zst_s]
  have hz : zfr (fun n => n == 1 || n == 2 || n == 19 || n == 21) V (zB V g p o) := zB_fr rfl rfl rfl rfl
  have hT : s7 P (zB V g p o) := fun g' p' o' a b c => by
    by_cases hc : g' = g ∧ p' = p ∧ o' = o
    · obtain ⟨rfl, rfl, rfl⟩ := hc
      rw [hc19, (hs _ _ _).2]
      split
      · exact ⟨fun _ => by omega, fun _ => by omega⟩
      · exact ⟨fun _ => by omega, fun q => by omega⟩
    · rw [(hs _ _ _).1 hc, (hs _ _ _).2]
      exact h.1 g' p' o' a b c
  have hco : zcoA P (zB V g p o) ≤ zcoA P V + -1 := zcoA_pt hg hp ho (fun g' p' o' _ _ _ hc q => by rw [(hs _ _ _).1 hc] at q; exact q) (by unfold zco1; rw [hc19, if_pos h1]; split <;> simp)
  refine ⟨hT, fun t' p' o' a b c d => ?_, ?_⟩
  · rw [hz _ _ rfl] at d
    rw [hz _ _ rfl]
    exact h.2.1 t' p' o' a b c d
  · obtain ⟨a1, a2, a3, a4⟩ := h.2.2
    have hk6 : zB V g p o (0, 0, 0, 0) 6 = V (0, 0, 0, 0) 6 := hz _ _ rfl
    by_cases hl : 200 ≤ V (1, 0, 0, 0) 1
    · have k1 : zB V g p o (1, 0, 0, 0) 1 = V (1, 0, 0, 0) 1 ∧ ∀ f, zB V g p o (2, 0, 0, 0) f = V (2, 0, 0, 0) f := by
        by_cases h3 : 3 ≤ V (20, g, p, 0) o
        · rw [zB_3 h3, zlw_id hl, zlw_id (by rw [zst_k _ _ _ _ (by simp)]; exact hl)]
          exact ⟨zst_k _ _ _ _ (by simp), fun f => zst_k _ _ _ _ (by simp)⟩
        · rw [zB_lt h3, zlw_id hl]
          exact ⟨by rw [zst_k _ _ _ _ (by simp), zst_k _ _ _ _ (by simp)], fun f => by rw [zst_k _ _ _ _ (by simp), zst_k _ _ _ _ (by simp)]⟩
      unfold zLg
      rw [k1.1, zcs_fr k1.1 k1.2, zcs_fr k1.1 k1.2, hk6]
      exact ⟨a1, fun k k1' k2 => by rw [k1.2, k1.2, k1.2, k1.2]; exact a2 k k1' k2, a3, fun q => by omega⟩
    · -- the row of the nacking
      obtain ⟨b1, b2⟩ := zLg_lw h.2.2 (a := 2) (b := g) (c := p) (d := o) (fun q => by omega) hl
      have c2 := zcs_lw (V := V) (a := 2) (b := g) (c := p) (d := o) (e := V (0, 0, 0, 0) 6) (s := 2) a1.1 hl
      have c0 := zcs_lw (V := V) (a := 2) (b := g) (c := p) (d := o) (e := V (0, 0, 0, 0) 6) (s := 0) a1.1 hl
      simp at c2 c0
      have e4 := a4 (by omega)
      by_cases h3 : 3 ≤ V (20, g, p, 0) o
      · -- and that of the laying aside
        have j6 : zlw V 2 g p o (V (0, 0, 0, 0) 6) (0, 0, 0, 0) 6 = V (0, 0, 0, 0) 6 := zlw_k ⟨by simp, by simp⟩
        have j1 : zst (zlw V 2 g p o (V (0, 0, 0, 0) 6)) (19, g, p, 0) o 4 (1, 0, 0, 0) 1 = zlw V 2 g p o (V (0, 0, 0, 0) 6) (1, 0, 0, 0) 1 := zst_k _ _ _ _ (by simp)
        have j2 : zst (zlw V 2 g p o (V (0, 0, 0, 0) 6)) (19, g, p, 0) o 4 (2, 0, 0, 0) = zlw V 2 g p o (V (0, 0, 0, 0) 6) (2, 0, 0, 0) := funext fun f => zst_k _ _ _ _ (by simp)
        have hle : zcs V 2 + 1 ≤ zcs V 0 := by
          have : 1 ≤ zcoA P V := by
            have h9 : 0 ≤ zcoA P (zB V g p o) := zcoA_0
            omega
          omega
        have hLT : zLg P (zst (zlw V 2 g p o (V (0, 0, 0, 0) 6)) (19, g, p, 0) o 4) := by
          unfold zLg
          rw [j1, zcs_fr j1 (congrFun j2), zcs_fr j1 (congrFun j2), c2, c0, zst_k _ _ _ _ (by simp), j6]
          refine ⟨b1, fun k k1 k2 => by rw [j2]; exact b2 k k1 k2, by omega, fun _ => ?_⟩
          have : zcoA P (zst (zlw V 2 g p o (V (0, 0, 0, 0) 6)) (19, g, p, 0) o 4) ≤ zcoA P (zB V g p o) := zcoA_le (fun g' p' o' _ _ _ q => by rw [zB_3 h3, zlw_k ⟨by simp, by simp⟩]; exact q)
          omega
        rw [zB_3 h3]
        have e6 : V (0, 0, 0, 0) 6 = zst (zlw V 2 g p o (V (0, 0, 0, 0) 6)) (19, g, p, 0) o 4 (0, 0, 0, 0) 6 := by rw [zst_k _ _ _ _ (by simp), j6]
        have e7 : zlw (zst (zlw V 2 g p o (V (0, 0, 0, 0) 6)) (19, g, p, 0) o 4) 3 g p o (V (0, 0, 0, 0) 6) = zlw (zst (zlw V 2 g p o (V (0, 0, 0, 0) 6)) (19, g, p, 0) o 4) 3 g p o (zst (zlw V 2 g p o (V (0, 0, 0, 0) 6)) (19, g, p, 0) o 4 (0, 0, 0, 0) 6) := by rw [← e6]
        rw [e7]
        refine zLg_3 hLT (fun hq => ?_)
        rw [j1, zlw_1 hl, j2, show 5 * (V (1, 0, 0, 0) 1 + 1 - 1) = 5 * V (1, 0, 0, 0) 1 by omega, (zlw_4 hl).2]
        exact ⟨by omega, rfl⟩
      · rw [zB_lt h3] at hco hk6 ⊢
        generalize hU : zst (zst (zlw V 2 g p o (V (0, 0, 0, 0) 6)) (19, g, p, 0) o 2) (21, g, p, 0) o (V (0, 0, 0, 0) 6 + zsh (V (0, 0, 0, 0) 7) (V (20, g, p, 0) o - 1)) = U at hco hk6 ⊢
        have j1 : U (1, 0, 0, 0) 1 = zlw V 2 g p o (V (0, 0, 0, 0) 6) (1, 0, 0, 0) 1 := by rw [← hU, zst_k _ _ _ _ (by simp), zst_k _ _ _ _ (by simp)]
        have j2 : U (2, 0, 0, 0) = zlw V 2 g p o (V (0, 0, 0, 0) 6) (2, 0, 0, 0) := funext fun f => by rw [← hU, zst_k _ _ _ _ (by simp), zst_k _ _ _ _ (by simp)]
        have h9 : 0 ≤ zcoA P U := zcoA_0
        unfold zLg
        rw [j1, zcs_fr j1 (congrFun j2), zcs_fr j1 (congrFun j2), c2, c0, hk6]
        exact ⟨b1, fun k k1 k2 => by rw [j2]; exact b2 k k1 k2, by omega, fun _ => by omega⟩
end ZK0
