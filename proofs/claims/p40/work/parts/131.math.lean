/-! ===== searches and sums over whole numbers; reading what was written ===== -/
def fiN (Q : Int → Prop) [DecidablePred Q] : Nat → Int → Int
  | 0, a => a
  | n + 1, a => if Q a then a else fiN Q n (a + 1)
/-- the first place from a on, below n, where Q holds; n if none -/
def fi (Q : Int → Prop) [DecidablePred Q] (a n : Int) : Int := fiN Q (n - a).toNat a
theorem fi_end {Q : Int → Prop} [DecidablePred Q] {a n : Int} (h : n ≤ a) : fi Q a n = a := by
  unfold fi
  rw [show (n - a).toNat = 0 by omega]
  rfl
theorem fi_hit {Q : Int → Prop} [DecidablePred Q] {a n : Int} (h : a < n) (hq : Q a) : fi Q a n = a := by
  unfold fi
  obtain ⟨k, hk⟩ : ∃ k, (n - a).toNat = k + 1 := ⟨(n - a).toNat - 1, by omega⟩
  rw [hk]
  exact if_pos hq
theorem fi_miss {Q : Int → Prop} [DecidablePred Q] {a n : Int} (h : a < n) (hq : ¬ Q a) : fi Q a n = fi Q (a + 1) n := by
  unfold fi
  obtain ⟨k, hk⟩ : ∃ k, (n - a).toNat = k + 1 := ⟨(n - a).toNat - 1, by omega⟩
  rw [hk, show (n - (a + 1)).toNat = k by omega]
  exact if_neg hq
theorem fi_spec {Q : Int → Prop} [DecidablePred Q] : ∀ (k : Nat) (a n : Int), a ≤ n → (n - a).toNat = k → a ≤ fi Q a n ∧ fi Q a n ≤ n ∧ (∀ o, a ≤ o → o < fi Q a n → ¬ Q o) ∧ (fi Q a n < n → Q (fi Q a n)) := by
  intro k
  induction k with
  | zero =>
    intro a n h hk
    rw [fi_end (by omega)]
    exact ⟨by omega, by omega, fun o h1 h2 => by omega, fun h => by omega⟩
  | succ k ih =>
    intro a n h hk
    by_cases hq : Q a
    · rw [fi_hit (by omega) hq]
      exact ⟨by omega, by omega, fun o h1 h2 => by omega, fun _ => hq⟩
    · rw [fi_miss (by omega) hq]
      obtain ⟨h1, h2, h3, h4⟩ := ih (a + 1) n (by omega) (by omega)
      refine ⟨by omega, h2, fun o g1 g2 => ?_, h4⟩
      by_cases e : o = a
      · rw [e]; exact hq
      · exact h3 o (by omega) g2
theorem fi_le {Q : Int → Prop} [DecidablePred Q] {a n : Int} (h : a ≤ n) : a ≤ fi Q a n ∧ fi Q a n ≤ n := ⟨(fi_spec _ a n h rfl).1, (fi_spec _ a n h rfl).2.1⟩
theorem fi_eq {Q : Int → Prop} [DecidablePred Q] {a n r : Int} (h1 : a ≤ r) (h2 : r ≤ n) (h3 : ∀ o, a ≤ o → o < r → ¬ Q o) (h4 : r < n → Q r) : fi Q a n = r := by
  obtain ⟨g1, g2, g3, g4⟩ := fi_spec (Q := Q) _ a n (by omega) rfl
  by_cases hl : fi Q a n < r
  · exact absurd (g4 (by omega)) (h3 _ g1 hl)
  · by_cases hg : r < fi Q a n
    · exact absurd (h4 (by omega)) (g3 r h1 hg)
    · omega
theorem fi_congr {Q Q' : Int → Prop} [DecidablePred Q] [DecidablePred Q'] {a n : Int} (h : a ≤ n) (hq : ∀ o, a ≤ o → o < n → (Q o ↔ Q' o)) : fi Q a n = fi Q' a n := by
  obtain ⟨g1, g2, g3, g4⟩ := fi_spec (Q := Q') _ a n h rfl
  exact fi_eq g1 g2 (fun o h1 h2 q => g3 o h1 h2 ((hq o h1 (by omega)).mp q)) (fun h1 => (hq _ g1 h1).mpr (g4 h1))
def smN (f : Int → Int) : Nat → Int → Int
  | 0, _ => 0
  | n + 1, a => f a + smN f n (a + 1)
/-- the sum of f from a to below n -/
def sm (f : Int → Int) (a n : Int) : Int := smN f (n - a).toNat a
theorem sm_end {f : Int → Int} {a n : Int} (h : n ≤ a) : sm f a n = 0 := by
  unfold sm
  rw [show (n - a).toNat = 0 by omega]
  rfl
theorem sm_step {f : Int → Int} {a n : Int} (h : a < n) : sm f a n = f a + sm f (a + 1) n := by
  unfold sm
  obtain ⟨k, hk⟩ : ∃ k, (n - a).toNat = k + 1 := ⟨(n - a).toNat - 1, by omega⟩
  rw [hk, show (n - (a + 1)).toNat = k by omega]
  rfl
theorem sm_bound {f : Int → Int} {m : Int} (hm : 0 ≤ m) : ∀ (k : Nat) (a n : Int), a ≤ n → (n - a).toNat = k → (∀ o, a ≤ o → o < n → 0 ≤ f o ∧ f o ≤ m) → 0 ≤ sm f a n ∧ sm f a n ≤ m * (n - a) := by
  intro k
  induction k with
  | zero =>
    intro a n h hk hf
    rw [sm_end (by omega)]
    exact ⟨by omega, Int.mul_nonneg hm (by omega)⟩
  | succ k ih =>
    intro a n h hk hf
    rw [sm_step (by omega)]
    obtain ⟨h1, h2⟩ := ih (a + 1) n (by omega) (by omega) (fun o g1 g2 => hf o (by omega) g2)
    have h3 := hf a (by omega) (by omega)
    have e : m * (n - a) = m + m * (n - (a + 1)) := by
      rw [show n - a = 1 + (n - (a + 1)) by omega, Int.mul_add, Int.mul_one]
    rw [e]
    exact ⟨by omega, by omega⟩
theorem sm_congr {f f' : Int → Int} : ∀ (k : Nat) (a n : Int), (n - a).toNat = k → (∀ o, a ≤ o → o < n → f o = f' o) → sm f a n = sm f' a n := by
  intro k
  induction k with
  | zero =>
    intro a n hk _
    rw [sm_end (f := f) (a := a) (n := n) (by omega), sm_end (f := f') (a := a) (n := n) (by omega)]
  | succ k ih =>
    intro a n hk hf
    rw [sm_step (f := f) (a := a) (n := n) (by omega), sm_step (f := f') (a := a) (n := n) (by omega), hf a (by omega) (by omega), ih (a + 1) n (by omega) (fun o g1 g2 => hf o (by omega) g2)]
/-- a state that goes through a loop: from a to below n -/
def lpN {σ : Type} (f : Int → σ → σ) : Nat → Int → σ → σ
  | 0, _, s => s
  | n + 1, a, s => lpN f n (a + 1) (f a s)
def lp {σ : Type} (f : Int → σ → σ) (a n : Int) (s : σ) : σ := lpN f (n - a).toNat a s
theorem lp_end {σ : Type} {f : Int → σ → σ} {a n : Int} {s : σ} (h : n ≤ a) : lp f a n s = s := by
  unfold lp
  rw [show (n - a).toNat = 0 by omega]
  rfl
theorem lp_step {σ : Type} {f : Int → σ → σ} {a n : Int} {s : σ} (h : a < n) : lp f a n s = lp f (a + 1) n (f a s) := by
  unfold lp
  obtain ⟨k, hk⟩ : ∃ k, (n - a).toNat = k + 1 := ⟨(n - a).toNat - 1, by omega⟩
  rw [hk, show (n - (a + 1)).toNat = k by omega]
  rfl
/-- induction along a loop -/
theorem lp_ind {σ : Type} {f : Int → σ → σ} (I : Int → σ → Prop) : ∀ (k : Nat) (a n : Int) (s : σ), a ≤ n → (n - a).toNat = k → I a s → (∀ o s, a ≤ o → o < n → I o s → I (o + 1) (f o s)) → I n (lp f a n s) := by
  intro k
  induction k with
  | zero =>
    intro a n s h hk hi _
    rw [lp_end (by omega), show n = a by omega]
    exact hi
  | succ k ih =>
    intro a n s h hk hi hs
    rw [lp_step (by omega)]
    exact ih (a + 1) n _ (by omega) (by omega) (hs a s (by omega) (by omega) hi) (fun o s g1 g2 => hs o s (by omega) g2)
theorem zst_s (S : zS) (k : zK) (f v : Int) : zst S k f v k f = v := by
  show zup1 S k (zup (S k) f v) k f = v
  rw [zup1_s]
  exact if_pos rfl
theorem zst_f (S : zS) (k : zK) {f f' : Int} (v : Int) (h : f' ≠ f) : zst S k f v k f' = S k f' := by
  show zup1 S k (zup (S k) f v) k f' = _
  rw [zup1_s]
  exact if_neg h
theorem zst_k (S : zS) {k k' : zK} (f f' v : Int) (h : k' ≠ k) : zst S k f v k' f' = S k' f' := by
  show zup1 S k (zup (S k) f v) k' f' = _
  rw [zup1_n _ _ h]
theorem zst_at (S : zS) (k k' : zK) (f f' v : Int) : zst S k f v k' f' = if k' = k ∧ f' = f then v else S k' f' := by
  by_cases h : k' = k
  · subst h
    by_cases hf : f' = f
    · subst hf; rw [zst_s, if_pos ⟨rfl, rfl⟩]
    · rw [zst_f _ _ _ hf, if_neg (fun q => hf q.2)]
  · rw [zst_k _ _ _ _ h, if_neg (fun q => h q.1)]
theorem zst_R {S : zS} {k : zK} {f v : Int} (h : ∀ k f, zR (S k f)) (hv : zR v) : ∀ k' f', zR (zst S k f v k' f') := by
  intro k' f'
  rw [zst_at]
  split
  · exact hv
  · exact h k' f'
