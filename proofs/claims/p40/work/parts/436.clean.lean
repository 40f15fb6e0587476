/-! ===== the Pier's acts: clean ===== -/
/-- dropped, and yet underway -/
def zUn (P : zP) (T : zS) (g p o : Int) : Prop := inG P g ∧ inQ P g p ∧ inM P (P 4 g 0) p o ∧ ¬ T (14, P 4 g 0, p, o) 5 = 0 ∧ ju T g p o
/-- those are forgotten -/
noncomputable def nzA (P : zP) (T : zS) : zS := by
  classical
  exact fun k f => if (k.1 = 19 ∨ k.1 = 20) ∧ k.2.2.2 = 0 ∧ zUn P T k.2.1 k.2.2.1 f then 0 else T k f
theorem lpN_f2' {A : zK → Int → Bool} {f : Int → zS × Int → zS × Int} (hf : ∀ o s, fr A s.1 (f o s).1) : ∀ (n : Nat) (a : Int) (s : zS × Int), fr A s.1 (lpN f n a s).1 := by
  intro n
  induction n with
  | zero => exact fun a s => fr.rf
  | succ n ih => exact fun a s => (hf a s).tr (ih _ _)
theorem lp_f2' {A : zK → Int → Bool} {f : Int → zS × Int → zS × Int} (hf : ∀ o s, fr A s.1 (f o s).1) {a n : Int} {s : zS × Int} : fr A s.1 (lp f a n s).1 := lpN_f2' hf _ _ _
section ZNZ
variable {P Q : zP} {T T' V S : zS} {g p o t : Int}
theorem nzA_n {k : zK} {f : Int} (h : k.1 ≠ 19 ∧ k.1 ≠ 20) : nzA P T k f = T k f := by
  unfold nzA
  rw [if_neg (fun q => q.1.elim h.1 h.2)]
theorem nzA_y {n : Nat} (hn : n = 19 ∨ n = 20) (h : zUn P T g p o) : nzA P T (n, g, p, 0) o = 0 := by
  unfold nzA
  rw [if_pos ⟨hn, rfl, h⟩]
theorem nzA_o {k : zK} {f : Int} (h : ¬ zUn P T k.2.1 k.2.2.1 f) : nzA P T k f = T k f := by
  unfold nzA
  rw [if_neg (fun q => h q.2.2)]
theorem zUn_cg (h14 : ∀ t p o, T' (14, t, p, o) 5 = T (14, t, p, o) 5) (h19 : ∀ g p o, T' (19, g, p, 0) o = T (19, g, p, 0) o) : zUn P T' g p o ↔ zUn P T g p o := by
  show (inG P g ∧ inQ P g p ∧ inM P (P 4 g 0) p o ∧ ¬ T' (14, P 4 g 0, p, o) 5 = 0 ∧ (T' (19, g, p, 0) o = 1 ∨ T' (19, g, p, 0) o = 2)) ↔ (inG P g ∧ inQ P g p ∧ inM P (P 4 g 0) p o ∧ ¬ T (14, P 4 g 0, p, o) 5 = 0 ∧ (T (19, g, p, 0) o = 1 ∨ T (19, g, p, 0) o = 2))
  rw [h14, h19]
theorem zSet_nz : zSet P (nzA P T) := fun g p o hg hp ho q => by
  obtain ⟨q1, q2⟩ := q
  rw [nzA_n ⟨by simp, by simp⟩] at q1
  have q3 : nzA P T (19, g, p, 0) o = 1 ∨ nzA P T (19, g, p, 0) o = 2 := q2
  by_cases hu : zUn P T g p o
  · rw [nzA_y (Or.inl rfl) hu] at q3
    omega
  · rw [nzA_o (k := (19, g, p, 0)) hu] at q3
    exact hu ⟨hg, hp, ho, q1, q3⟩
theorem nzA_id (h : zSet P T) : nzA P T = T := by
  funext k f
  exact nzA_o (fun q => h _ _ _ q.1 q.2.1 q.2.2.1 ⟨q.2.2.2.1, q.2.2.2.2⟩)
theorem nzA_st {k : zK} {f v : Int} (hk : k.1 ≠ 14 ∧ k.1 ≠ 19 ∧ k.1 ≠ 20) : nzA P (zst T k f v) = zst (nzA P T) k f v := by
  funext k' f'
  rw [zst_at]
  have hu : ∀ g p o, zUn P (zst T k f v) g p o ↔ zUn P T g p o := fun g p o => zUn_cg (fun t p o => zst_k _ _ _ _ (fun q => hk.1 (by rw [← q]))) (fun g p o => zst_k _ _ _ _ (fun q => hk.2.1 (by rw [← q])))
  by_cases hc : k' = k ∧ f' = f
  · rw [if_pos hc, hc.1, hc.2, nzA_n ⟨hk.2.1, hk.2.2⟩, zst_s]
  · rw [if_neg hc]
    unfold nzA
    by_cases hz : (k'.1 = 19 ∨ k'.1 = 20) ∧ k'.2.2.2 = 0 ∧ zUn P T k'.2.1 k'.2.2.1 f'
    · rw [if_pos hz, if_pos ⟨hz.1, hz.2.1, (hu _ _ _).mpr hz.2.2⟩]
    · rw [if_neg hz, if_neg (fun q => hz ⟨q.1, q.2.1, (hu _ _ _).mp q.2.2⟩), zst_at, if_neg hc]
theorem nzA_fg (hu : zUn P T g p o) : nzA P (zfg T g p o) = nzA P T := by
  have e : ∀ g' p' o', ¬ (g' = g ∧ p' = p ∧ o' = o) → ∀ n : Nat, zfg T g p o (n, g', p', 0) o' = T (n, g', p', 0) o' := fun g' p' o' hne n => by
    unfold zfg
    rw [zst_at, if_neg (fun q => hne (by have := q.1; simp at this; exact ⟨this.2.1, this.2.2, q.2⟩)), zst_at, if_neg (fun q => hne (by have := q.1; simp at this; exact ⟨this.2.1, this.2.2, q.2⟩))]
  have e14 : ∀ t p' o' f, zfg T g p o (14, t, p', o') f = T (14, t, p', o') f := fun t p' o' f => zfg_fr (K := k19) rfl rfl _ _ rfl
  have hun : ∀ g' p' o', ¬ (g' = g ∧ p' = p ∧ o' = o) → (zUn P (zfg T g p o) g' p' o' ↔ zUn P T g' p' o') := fun g' p' o' hne => by
    show (inG P g' ∧ inQ P g' p' ∧ inM P (P 4 g' 0) p' o' ∧ ¬ zfg T g p o (14, P 4 g' 0, p', o') 5 = 0 ∧ (zfg T g p o (19, g', p', 0) o' = 1 ∨ zfg T g p o (19, g', p', 0) o' = 2)) ↔ (inG P g' ∧ inQ P g' p' ∧ inM P (P 4 g' 0) p' o' ∧ ¬ T (14, P 4 g' 0, p', o') 5 = 0 ∧ (T (19, g', p', 0) o' = 1 ∨ T (19, g', p', 0) o' = 2))
    rw [e14, e _ _ _ hne]
  have z19 : zfg T g p o (19, g, p, 0) o = 0 := zfg_19
  have z20 : zfg T g p o (20, g, p, 0) o = 0 := by unfold zfg; rw [zst_s]
  have hno : ¬ zUn P (zfg T g p o) g p o := fun q => by
    have q5 : zfg T g p o (19, g, p, 0) o = 1 ∨ zfg T g p o (19, g, p, 0) o = 2 := q.2.2.2.2
    rw [z19] at q5
    omega
  funext k f
  by_cases hk : k.1 = 19 ∨ k.1 = 20
  · obtain ⟨n, i, j, l⟩ := k
    by_cases hl : l = 0
    · subst hl
      by_cases hc : i = g ∧ j = p ∧ f = o
      · obtain ⟨rfl, rfl, rfl⟩ := hc
        rw [nzA_o (k := (n, i, j, 0)) hno, nzA_y hk hu]
        rcases hk with hk | hk
        · have hk : n = 19 := hk
          subst hk; exact z19
        · have hk : n = 20 := hk
          subst hk; exact z20
      · by_cases hz : zUn P T i j f
        · rw [nzA_y hk hz, nzA_y hk ((hun _ _ _ hc).mpr hz)]
        · rw [nzA_o (k := (n, i, j, 0)) hz, nzA_o (k := (n, i, j, 0)) (fun q => hz ((hun _ _ _ hc).mp q)), e _ _ _ hc]
    · unfold nzA
      rw [if_neg (fun q => hl q.2.1), if_neg (fun q => hl q.2.1)]
      unfold zfg
      rw [zst_k _ _ _ _ (fun q => hl (by simp at q; exact q.2.2.2)), zst_k _ _ _ _ (fun q => hl (by simp at q; exact q.2.2.2))]
  · rw [nzA_n ⟨fun q => hk (Or.inl q), fun q => hk (Or.inr q)⟩, nzA_n ⟨fun q => hk (Or.inl q), fun q => hk (Or.inr q)⟩]
    exact zfg_fr (K := k19) rfl rfl _ _ (by simp [k19]; omega)
theorem zku_nz (hg : inG P g) (hp : inQ P g p) : zku P (nzA P T) g p = nzA P (zku P T g p) := by
  have hA : lp (zk1 P g p) 0 (P 2 (P 4 g 0) p) (nzA P T) = nzA P T := lp_id _ _ _ _ rfl (fun o g1 g2 => if_neg (zSet_nz g p o hg hp ⟨g1, g2⟩))
  have hB : ∀ (k : Nat) (a n : Int) (s : zS), 0 ≤ a → n ≤ P 2 (P 4 g 0) p → (n - a).toNat = k → nzA P (lp (zk1 P g p) a n s) = nzA P s := by
    intro k
    induction k with
    | zero => intro a n s _ _ hk; rw [lp_end (by omega)]
    | succ k ih =>
      intro a n s ha hn hk
      rw [lp_step (by omega), ih _ _ _ (by omega) hn (by omega)]
      unfold zk1
      split
      · next hc => exact nzA_fg ⟨hg, hp, ⟨ha, by omega⟩, hc.1, hc.2⟩
      · rfl
  have hC : ∀ (n : Nat) (U : zS), zmk P g p n (nzA P U) = nzA P (zmk P g p n U) := by
    intro n
    induction n with
    | zero => intro U; rfl
    | succ n ih =>
      intro U
      have e18 : nzA P U (18, g, p, 0) 5 = U (18, g, p, 0) 5 := nzA_n ⟨by simp, by simp⟩
      have hiff : zmc P g p (nzA P U) ↔ zmc P g p U := by
        show (nzA P U (18, g, p, 0) 5 < P 2 (P 4 g 0) p ∧ (¬ nzA P U (14, P 4 g 0, p, nzA P U (18, g, p, 0) 5) 5 = 0 ∨ nzA P U (14, P 4 g 0, p, nzA P U (18, g, p, 0) 5) 4 = 1 ∨ (nzA P U (19, g, p, 0) (nzA P U (18, g, p, 0) 5) = 3 ∨ nzA P U (19, g, p, 0) (nzA P U (18, g, p, 0) 5) = 4))) ↔ (U (18, g, p, 0) 5 < P 2 (P 4 g 0) p ∧ (¬ U (14, P 4 g 0, p, U (18, g, p, 0) 5) 5 = 0 ∨ U (14, P 4 g 0, p, U (18, g, p, 0) 5) 4 = 1 ∨ (U (19, g, p, 0) (U (18, g, p, 0) 5) = 3 ∨ U (19, g, p, 0) (U (18, g, p, 0) 5) = 4)))
        rw [e18, nzA_n (k := (14, P 4 g 0, p, U (18, g, p, 0) 5)) ⟨by simp, by simp⟩, nzA_n (k := (14, P 4 g 0, p, U (18, g, p, 0) 5)) ⟨by simp, by simp⟩]
        by_cases hu : zUn P U g p (U (18, g, p, 0) 5)
        · have h5 := hu.2.2.2.1
          constructor
          · rintro ⟨a, -⟩; exact ⟨a, Or.inl h5⟩
          · rintro ⟨a, -⟩; exact ⟨a, Or.inl h5⟩
        · rw [nzA_o (k := (19, g, p, 0)) hu]
      by_cases hc : zmc P g p U
      · rw [zmk_go n hc, zmk_go n (hiff.mpr hc), e18, ← nzA_st ⟨by simp, by simp, by simp⟩, ih]
      · rw [zmk_stop _ hc, zmk_stop _ (fun q => hc (hiff.mp q))]
  have hB0 := hB _ 0 (P 2 (P 4 g 0) p) T (by omega) (Int.le_refl _) rfl
  unfold zku
  rw [hA]
  generalize lp (zk1 P g p) 0 (P 2 (P 4 g 0) p) T = U at hB0 ⊢
  rw [← hB0, nzA_n (k := (18, g, p, 0)) ⟨by simp, by simp⟩, hC]
  generalize zmk P g p _ U = W
  rw [nzA_n (k := (18, g, p, 0)) ⟨by simp, by simp⟩, nzA_n (k := (18, g, p, 0)) ⟨by simp, by simp⟩, nzA_st ⟨by simp, by simp, by simp⟩]
theorem lp_nz {f : Int → zS → zS} : ∀ (k : Nat) (a n : Int) (S : zS), (n - a).toNat = k → (∀ o S, a ≤ o → o < n → f o (nzA P S) = nzA P (f o S)) → lp f a n (nzA P S) = nzA P (lp f a n S) := by
  intro k
  induction k with
  | zero => intro a n S hk _; rw [lp_end (by omega), lp_end (by omega)]
  | succ k ih => intro a n S hk h; rw [lp_step (f := f) (a := a) (n := n) (s := nzA P S) (by omega), lp_step (f := f) (a := a) (n := n) (s := S) (by omega), h a S (by omega) (by omega), ih _ _ _ (by omega) (fun o S h1 h2 => h o S (by omega) h2)]
theorem zkA_nz : zkA P (nzA P T) = nzA P (zkA P T) := lp_nz _ _ _ _ rfl (fun g S g1 g2 => lp_nz _ _ _ _ rfl (fun p S p1 p2 => zku_nz ⟨g1, g2⟩ ⟨p1, p2⟩))
theorem zkA_nzs (h : zSet P (zkA P T)) : zkA P (nzA P T) = zkA P T := by rw [zkA_nz, nzA_id h]
/-! a drop -/
theorem zd1_at {a n : Int} : ∀ (k : Nat) (a n : Int) (S : zS), (n - a).toNat = k → (∀ K f, ¬ ((K.1 = 19 ∨ K.1 = 20) ∧ (a ≤ K.2.1 ∧ K.2.1 < n) ∧ (K.2.1 < P 3 0 0 ∧ P 4 K.2.1 0 = t) ∧ K.2.2 = (p, 0) ∧ f = o ∧ ju S K.2.1 p o) → lp (zd1 P t p o) a n S K f = S K f) ∧ ∀ K f, ((K.1 = 19 ∨ K.1 = 20) ∧ (a ≤ K.2.1 ∧ K.2.1 < n) ∧ (K.2.1 < P 3 0 0 ∧ P 4 K.2.1 0 = t) ∧ K.2.2 = (p, 0) ∧ f = o ∧ ju S K.2.1 p o) → lp (zd1 P t p o) a n S K f = 0 := by
  intro k
  induction k with
  | zero =>
    intro a n S hk
    rw [lp_end (by omega)]
    exact ⟨fun _ _ _ => rfl, fun K f h => by omega⟩
  | succ k ih =>
    intro a n S hk
    rw [lp_step (by omega)]
    obtain ⟨h1, h2⟩ := ih (a + 1) n (zd1 P t p o a S) (by omega)
    have hoff : ∀ (n : Nat) (i j l f : Int), i ≠ a → zd1 P t p o a S (n, i, j, l) f = S (n, i, j, l) f := fun n i j l f hi => by
      unfold zd1
      split
      · unfold zfg
        rw [zst_k _ _ _ _ (fun q => hi (by simp at q; exact q.2.1)), zst_k _ _ _ _ (fun q => hi (by simp at q; exact q.2.1))]
      · rfl
    refine ⟨fun K f hK => ?_, fun K f hK => ?_⟩
    · obtain ⟨n', i, j, l⟩ := K
      by_cases hi : i = a
      · rw [h1 _ _ (fun q => by have := q.2.1.1; simp at this; omega)]
        subst hi
        unfold zd1
        split
        · next hc =>
          unfold zfg
          have hne : ¬ ((n' = 19 ∨ n' = 20) ∧ (j, l) = (p, (0 : Int)) ∧ f = o) := fun q => hK ⟨q.1, ⟨by simp, by simp; omega⟩, hc.1, q.2.1, q.2.2, hc.2⟩
          rw [zst_at, if_neg (fun q => hne (by have := q.1; simp at this; exact ⟨Or.inr this.1, by rw [this.2.1, this.2.2], q.2⟩)), zst_at, if_neg (fun q => hne (by have := q.1; simp at this; exact ⟨Or.inl this.1, by rw [this.2.1, this.2.2], q.2⟩))]
        · rfl
      · rw [h1 _ _ (fun q => hK ⟨q.1, ⟨by have := q.2.1.1; simp at this ⊢; omega, q.2.1.2⟩, q.2.2.1, q.2.2.2.1, q.2.2.2.2.1, by
          have q9 : zd1 P t p o a S (19, i, p, 0) o = 1 ∨ zd1 P t p o a S (19, i, p, 0) o = 2 := q.2.2.2.2.2
          rw [hoff _ _ _ _ _ hi] at q9
          exact q9⟩), hoff _ _ _ _ _ hi]
    · obtain ⟨n', i, j, l⟩ := K
      obtain ⟨k1, k2, k3, k4, k5, k6⟩ := hK
      simp at k4
      obtain ⟨rfl, rfl⟩ := k4
      subst k5
      by_cases hi : i = a
      · rw [h1 _ _ (fun q => by have := q.2.1.1; simp at this; omega)]
        subst hi
        unfold zd1
        rw [if_pos ⟨k3, k6⟩]
        rcases k1 with k1 | k1
        · have k1 : n' = 19 := k1
          subst k1
          exact zfg_19
        · have k1 : n' = 20 := k1
          subst k1
          unfold zfg
          rw [zst_s]
      · refine h2 _ _ ⟨k1, ⟨by have := k2.1; simp at this ⊢; omega, k2.2⟩, k3, rfl, rfl, ?_⟩
        show zd1 P t j f a S (19, i, j, 0) f = 1 ∨ zd1 P t j f a S (19, i, j, 0) f = 2
        rw [hoff _ _ _ _ _ hi]
        exact k6
theorem zdp_nz (hP : zWP P) (ht : inT P t) (hp : inP P t p) (ho : inM P t p o) : zdp P t p o (nzA P T) = nzA P (zst T (14, t, p, o) 5 1) := by
  have hq := hP.n
  obtain ⟨h1, h2⟩ := zd1_at (P := P) (t := t) (p := p) (o := o) (a := 0) (n := 4) _ 0 4 (zst (nzA P T) (14, t, p, o) 5 1) rfl
  have e14 : ∀ t' p' o', ¬ (t' = t ∧ p' = p ∧ o' = o) → zst T (14, t, p, o) 5 1 (14, t', p', o') 5 = T (14, t', p', o') 5 := fun t' p' o' hne => by
    rw [zst_k _ _ _ _ (fun q => hne (by simp at q; exact q))]
  have e19 : ∀ (n : Nat) (i j l f : Int), n ≠ 14 → zst T (14, t, p, o) 5 1 (n, i, j, l) f = T (n, i, j, l) f := fun n i j l f hn => zst_k _ _ _ _ (fun q => hn (by simp at q; exact q.1))
  have z19 : ∀ (n : Nat) (i j l f : Int), n ≠ 14 → zst (nzA P T) (14, t, p, o) 5 1 (n, i, j, l) f = nzA P T (n, i, j, l) f := fun n i j l f hn => zst_k _ _ _ _ (fun q => hn (by simp at q; exact q.1))
  have hju : ∀ i, ju (zst (nzA P T) (14, t, p, o) 5 1) i p o ↔ ju (nzA P T) i p o := fun i => by
    show (zst (nzA P T) (14, t, p, o) 5 1 (19, i, p, 0) o = 1 ∨ zst (nzA P T) (14, t, p, o) 5 1 (19, i, p, 0) o = 2) ↔ (nzA P T (19, i, p, 0) o = 1 ∨ nzA P T (19, i, p, 0) o = 2)
    rw [z19 _ _ _ _ _ (by decide)]
  have hun : ∀ i j f, zUn P (zst T (14, t, p, o) 5 1) i j f ↔ (inG P i ∧ inQ P i j ∧ inM P (P 4 i 0) j f ∧ ((P 4 i 0 = t ∧ j = p ∧ f = o) ∨ ¬ T (14, P 4 i 0, j, f) 5 = 0) ∧ ju T i j f) := fun i j f => by
    show (inG P i ∧ inQ P i j ∧ inM P (P 4 i 0) j f ∧ ¬ zst T (14, t, p, o) 5 1 (14, P 4 i 0, j, f) 5 = 0 ∧ (zst T (14, t, p, o) 5 1 (19, i, j, 0) f = 1 ∨ zst T (14, t, p, o) 5 1 (19, i, j, 0) f = 2)) ↔ _
    rw [e19 19 i j 0 f (by decide)]
    by_cases hc : P 4 i 0 = t ∧ j = p ∧ f = o
    · obtain ⟨c1, rfl, rfl⟩ := hc
      rw [c1, zst_s]
      constructor
      · rintro ⟨a, b, c, -, e⟩; exact ⟨a, b, c, Or.inl ⟨rfl, rfl, rfl⟩, e⟩
      · rintro ⟨a, b, c, -, e⟩; exact ⟨a, b, c, by decide, e⟩
    · rw [e14 _ _ _ hc]
      constructor
      · rintro ⟨a, b, c, d, e⟩; exact ⟨a, b, c, Or.inr d, e⟩
      · rintro ⟨a, b, c, d, e⟩; exact ⟨a, b, c, d.resolve_left hc, e⟩
  unfold zdp
  funext k f
  obtain ⟨n, i, j, l⟩ := k
  by_cases hn : n = 19 ∨ n = 20
  · have hn14 : n ≠ 14 := by omega
    by_cases hl : l = 0
    · subst hl
      by_cases hu : zUn P T i j f
      · have hu2 := (hun i j f).mpr ⟨hu.1, hu.2.1, hu.2.2.1, Or.inr hu.2.2.2.1, hu.2.2.2.2⟩
        rw [nzA_y hn hu2]
        by_cases hc : (n = 19 ∨ n = 20) ∧ (0 ≤ i ∧ i < 4) ∧ (i < P 3 0 0 ∧ P 4 i 0 = t) ∧ (j, (0 : Int)) = (p, 0) ∧ f = o ∧ ju (zst (nzA P T) (14, t, p, o) 5 1) i p o
        · exact h2 (n, i, j, 0) f hc
        · rw [h1 (n, i, j, 0) f hc, z19 _ _ _ _ _ hn14, nzA_y hn hu]
      · by_cases hc : (inG P i ∧ P 4 i 0 = t) ∧ j = p ∧ f = o ∧ ju T i j f
        · obtain ⟨⟨c1, c2⟩, rfl, rfl, c5⟩ := hc
          have hu2 := (hun i j f).mpr ⟨c1, by rw [show inQ P i j = (0 ≤ j ∧ j < P 1 (P 4 i 0) 0) from rfl, c2]; exact hp, by rw [c2]; exact ho, Or.inl ⟨c2, rfl, rfl⟩, c5⟩
          rw [nzA_y hn hu2]
          refine h2 (n, i, j, 0) f ⟨hn, ⟨c1.1, by have := c1.2; simp; omega⟩, ⟨c1.2, c2⟩, rfl, rfl, (hju i).mpr ?_⟩
          show nzA P T (19, i, j, 0) f = 1 ∨ nzA P T (19, i, j, 0) f = 2
          rw [nzA_o (k := (19, i, j, 0)) hu]
          exact c5
        · have hu2 : ¬ zUn P (zst T (14, t, p, o) 5 1) i j f := fun q => by
            obtain ⟨q1, q2, q3, q4, q5⟩ := (hun i j f).mp q
            rcases q4 with q4 | q4
            · exact hc ⟨⟨q1, q4.1⟩, q4.2.1, q4.2.2, q5⟩
            · exact hu ⟨q1, q2, q3, q4, q5⟩
          rw [nzA_o (k := (n, i, j, 0)) hu2, e19 _ _ _ _ _ hn14, h1 (n, i, j, 0) f (fun q => by
            obtain ⟨q1, q2, q3, q4, q5, q6⟩ := q
            simp at q4
            subst q4 q5
            have q7 := (hju i).mp q6
            have q8 : nzA P T (19, i, j, 0) f = 1 ∨ nzA P T (19, i, j, 0) f = 2 := q7
            rw [nzA_o (k := (19, i, j, 0)) hu] at q8
            exact hc ⟨⟨⟨q2.1, q3.1⟩, q3.2⟩, rfl, rfl, q8⟩), z19 _ _ _ _ _ hn14, nzA_o (k := (n, i, j, 0)) hu]
    · have e2 : nzA P (zst T (14, t, p, o) 5 1) (n, i, j, l) f = T (n, i, j, l) f := by
        unfold nzA
        rw [if_neg (fun q => hl q.2.1), e19 _ _ _ _ _ hn14]
      rw [e2, h1 (n, i, j, l) f (fun q => by have := q.2.2.2.1; simp at this; exact hl this.2), z19 _ _ _ _ _ hn14]
      unfold nzA
      rw [if_neg (fun q => hl q.2.1)]
  · rw [h1 (n, i, j, l) f (fun q => hn q.1), nzA_n ⟨fun q => hn (Or.inl q), fun q => hn (Or.inr q)⟩, zst_at, zst_at]
    split
    · rfl
    · exact nzA_n ⟨fun q => hn (Or.inl q), fun q => hn (Or.inr q)⟩
/-! cleaning -/
theorem zse_nz : zse P (nzA P T) t p = zse P T t p := by
  unfold zse
  simp only [nzA_n (P := P) (T := T) (k := (14, _, _, _)) ⟨by simp, by simp⟩]
theorem zcl_0 : zcl Q 0 t V = (V, sm (fun p => ztc Q V t p) 0 (Q 1 t 0)) := by
  have h1 : ∀ (p e : Int) (k : Nat) (a n m : Int), (n - a).toNat = k → lp (zec Q 0 t p e) a n (V, m) = (V, m + sm (fun o => if zod V t p o e then 1 else 0) a n) := by
    intro p e k
    induction k with
    | zero => intro a n m hk; rw [lp_end (by omega), sm_end (by omega)]; simp
    | succ k ih =>
      intro a n m hk
      rw [lp_step (by omega), sm_step (by omega)]
      by_cases hc : zod V t p a e
      · rw [zec_y hc, if_pos rfl, if_pos hc, ih _ _ _ (by omega), Int.add_assoc]
      · rw [show zec Q 0 t p e a (V, m) = (V, m) from if_neg hc, if_neg hc, ih _ _ _ (by omega), Int.zero_add]
  have h2 : ∀ (k : Nat) (a n m : Int), (n - a).toNat = k → lp (zcq Q 0 t) a n (V, m) = (V, m + sm (fun p => ztc Q V t p) a n) := by
    intro k
    induction k with
    | zero => intro a n m hk; rw [lp_end (by omega), sm_end (by omega)]; simp
    | succ k ih =>
      intro a n m hk
      rw [lp_step (by omega), sm_step (by omega)]
      have e : zcq Q 0 t a (V, m) = (V, m + ztc Q V t a) := h1 a (zse Q V t a) _ 0 (zse Q V t a) m rfl
      rw [e, ih _ _ _ (by omega), Int.add_assoc]
  unfold zcl
  rw [h2 _ _ _ _ rfl, Int.zero_add]
theorem zcl_1 (h : zJ Q V) (ht : inT Q t) : (zcl Q 1 t V).1 = nzA Q (lp (ztr Q t) 0 (Q 1 t 0) (V, 0)).1 ∧ (zcl Q 1 t V).2 = (lp (ztr Q t) 0 (Q 1 t 0) (V, 0)).2 := by
  have hP := h.wp
  have h1 : ∀ (p e : Int), inP Q t p → e ≤ Q 2 t p → ∀ (k : Nat) (a n m m' : Int) (T : zS), 0 ≤ a → n ≤ e → (n - a).toNat = k → lp (zec Q 1 t p e) a n (nzA Q T, m + m') = (nzA Q (lp (zdr t p e) a n (T, m')).1, m + (lp (zdr t p e) a n (T, m')).2) := by
    intro p e hp he k
    induction k with
    | zero => intro a n m m' T _ _ hk; rw [lp_end (by omega), lp_end (by omega)]
    | succ k ih =>
      intro a n m m' T ha hn hk
      rw [lp_step (f := zec Q 1 t p e) (by omega), lp_step (f := zdr t p e) (by omega)]
      have hiff : zod (nzA Q T) t p a e ↔ zod T t p a e := zod_cg (by omega) (fun q f _ => nzA_n ⟨by simp, by simp⟩) (nzA_n ⟨by simp, by simp⟩)
      by_cases hc : zod T t p a e
      · rw [zec_y (hiff.mpr hc), if_neg (by decide), show zdr t p e a (T, m') = (zst T (14, t, p, a) 5 1, m' + 1) from if_pos hc, zdp_nz hP ht hp ⟨ha, by omega⟩, Int.add_assoc, ih _ _ _ _ _ (by omega) hn (by omega)]
      · rw [show zec Q 1 t p e a (nzA Q T, m + m') = (nzA Q T, m + m') from if_neg (fun q => hc (hiff.mp q)), show zdr t p e a (T, m') = (T, m') from if_neg hc, ih _ _ _ _ _ (by omega) hn (by omega)]
  have h2 : ∀ (k : Nat) (a n m : Int) (T : zS), 0 ≤ a → n ≤ Q 1 t 0 → (n - a).toNat = k → lp (zcq Q 1 t) a n (nzA Q T, m) = (nzA Q (lp (ztr Q t) a n (T, m)).1, (lp (ztr Q t) a n (T, m)).2) := by
    intro k
    induction k with
    | zero => intro a n m T _ _ hk; rw [lp_end (by omega), lp_end (by omega)]
    | succ k ih =>
      intro a n m T ha hn hk
      rw [lp_step (f := zcq Q 1 t) (by omega), lp_step (f := ztr Q t) (by omega)]
      have hM := hP.m ht (p := a) ⟨ha, by omega⟩
      have hE := (fi_le (Q := fun o => T (14, t, a, o) 4 = 2) (a := 0) (n := Q 2 t a) hM.1).2
      have e : zcq Q 1 t a (nzA Q T, m) = (nzA Q (ztr Q t a (T, m)).1, (ztr Q t a (T, m)).2) := by
        unfold zcq ztr
        dsimp only
        rw [zse_nz]
        have := h1 a (zse Q T t a) ⟨ha, by omega⟩ hE _ 0 (zse Q T t a) m 0 T (by omega) (Int.le_refl _) rfl
        rw [Int.add_zero] at this
        exact this
      rw [e]
      exact ih _ _ _ _ (by omega) hn (by omega)
  unfold zcl
  have hid : nzA Q V = V := nzA_id h.st
  have := h2 _ 0 (Q 1 t 0) 0 V (by omega) (Int.le_refl _) rfl
  rw [hid] at this
  rw [this]
  exact ⟨rfl, rfl⟩
theorem zcl_V (hP : zWP Q) (h : zWV Q V) (ht : inT Q t) : zWV Q (zcl Q 1 t V).1 := by
  have hN := hP.t ht
  unfold zcl
  refine lp_ind (f := zcq Q 1 t) (fun _ s => zWV Q s.1) _ 0 _ (V, 0) (by omega) rfl h (fun p s p1 p2 hs => ?_)
  have hM := hP.m ht (p := p) ⟨p1, p2⟩
  have hE := (fi_le (Q := fun o => s.1 (14, t, p, o) 4 = 2) (a := 0) (n := Q 2 t p) hM.1).1
  refine lp_ind (f := zec Q 1 t p (zse Q s.1 t p)) (fun _ s => zWV Q s.1) _ 0 _ s hE rfl hs (fun o s _ _ hs => ?_)
  unfold zec
  split
  · show zWV Q (if (1 : Int) = 0 then s.1 else zdp Q t p o s.1)
    rw [if_neg (by decide)]
    exact zdp_V hP hs
  · exact hs
theorem zcl_K (hP : zWP Q) (h : zK0 Q V) (ht : inT Q t) : zK0 Q (zcl Q 1 t V).1 := by
  have hN := hP.t ht
  unfold zcl
  refine lp_ind (f := zcq Q 1 t) (fun _ s => zK0 Q s.1) _ 0 _ (V, 0) (by omega) rfl h (fun p s p1 p2 hs => ?_)
  have hM := hP.m ht (p := p) ⟨p1, p2⟩
  have hE := (fi_le (Q := fun o => s.1 (14, t, p, o) 4 = 2) (a := 0) (n := Q 2 t p) hM.1).1
  refine lp_ind (f := zec Q 1 t p (zse Q s.1 t p)) (fun _ s => zK0 Q s.1) _ 0 _ s hE rfl hs (fun o s _ _ hs => ?_)
  unfold zec
  split
  · show zK0 Q (if (1 : Int) = 0 then s.1 else zdp Q t p o s.1)
    rw [if_neg (by decide)]
    exact hs.dp
  · exact hs
theorem ztl_fr : zfr (fun n => n == 14) V (lp (ztr Q t) 0 (Q 1 t 0) (V, 0)).1 ∧ ∀ t' p' o' f, f ≠ 5 → (lp (ztr Q t) 0 (Q 1 t 0) (V, 0)).1 (14, t', p', o') f = V (14, t', p', o') f := by
  have key : ∀ (A : zK → Int → Bool), (∀ p o, A (14, t, p, o) 5 = true) → fr A V (lp (ztr Q t) 0 (Q 1 t 0) (V, 0)).1 := fun A hA => lp_f2' (fun p s => by
    unfold ztr
    exact lp_f2' (s := (s.1, 0)) (fun o s => by
      unfold zdr
      split
      · exact fr.rf.st (hA _ _)
      · exact fr.rf)) (s := (V, 0))
  refine ⟨fun k f hk => key (fun k _ => k.1 == 14) (fun _ _ => rfl) k f hk, fun t' p' o' f hf => key (fun k f => k.1 == 14 && f == 5) (fun _ _ => rfl) _ _ (by simp [hf])⟩
theorem zJc_k {k : zK} {f : Int} (hk : k.1 ≠ 14 ∧ k.1 ≠ 18 ∧ k.1 ≠ 19 ∧ k.1 ≠ 20) : zkA Q (lp (ztr Q t) 0 (Q 1 t 0) (V, 0)).1 k f = V k f := by
  rw [zkA_fr (K := k189) rfl rfl rfl k f (by simp [k189, hk.2.1, hk.2.2.1, hk.2.2.2])]
  exact ztl_fr.1 k f (by simp [hk.1])
theorem zJ_clean (h : zJ Q V) (ht : inT Q t) (_h1 : ¬ V (8, t, 0, 0) 1 = 0) : zJ Q (zkA Q (lp (ztr Q t) 0 (Q 1 t 0) (V, 0)).1) := by
  have hP := h.wp
  have hc := (zcl_1 h ht).1
  obtain ⟨-, ⟨M, hM⟩, -⟩ := id h
  have hx := (o_clean hM ht).1
  have e : zkA Q (zcl Q 1 t V).1 = zkA Q (lp (ztr Q t) 0 (Q 1 t 0) (V, 0)).1 := by rw [hc]; exact zkA_nzs hx.s1
  have hV := zkA_V hP (zcl_V hP h.wv ht)
  have hK := (zcl_K hP h.k0 ht).kA hP
  rw [e] at hV hK
  have n : ∀ k f, (k.1 ≠ 14 ∧ k.1 ≠ 18 ∧ k.1 ≠ 19 ∧ k.1 ≠ 20) → zkA Q (lp (ztr Q t) 0 (Q 1 t 0) (V, 0)).1 k f = V k f := fun k f hk => zJc_k hk
  exact ⟨hV, ⟨_, hx⟩, zTr_fr (n _ _ (by simp)) (fun f => n _ _ (by simp)) (fun t' p' o' f hf => by rw [zkA_fr (K := k189) rfl rfl rfl _ _ rfl]; exact ztl_fr.2 _ _ _ _ (by omega)) (fun f => n _ _ (by simp)) (fun f => n _ _ (by simp)) h.tr, zHD_fr (fun t => n _ _ (by simp)) (fun t x => n _ _ (by simp)) (fun t p => n _ _ (by simp)) (fun g r => n _ _ (by simp)) h.hd, hK⟩
theorem ztc_R {D S0 : zS} (hP : zWP Q) (hN : 1 ≤ Q 1 t 0 ∧ Q 1 t 0 ≤ 4) (_h : D = S0) (ht : inT Q t) : zR (sm (fun p => ztc Q D t p) 0 (Q 1 t 0)) := by
  have h1 := sm_bound (f := fun p => ztc Q D t p) (m := 80) (by omega) _ 0 (Q 1 t 0) (by omega) rfl (fun p p1 p2 => by
    have hM := hP.m ht (p := p) ⟨p1, p2⟩
    have hE := fi_le (Q := fun o => D (14, t, p, o) 4 = 2) (a := 0) (n := Q 2 t p) hM.1
    have hE : 0 ≤ zse Q D t p ∧ zse Q D t p ≤ Q 2 t p := hE
    have h2 := sm_bound (f := fun o => if zod D t p o (zse Q D t p) then 1 else 0) (m := 1) (by omega) _ 0 (zse Q D t p) hE.1 rfl (fun o _ _ => by
      show 0 ≤ (if _ then (1 : Int) else 0) ∧ (if _ then (1 : Int) else 0) ≤ 1
      split <;> omega)
    show 0 ≤ ztc Q D t p ∧ ztc Q D t p ≤ 80
    unfold ztc
    omega)
  exact ⟨by omega, by omega⟩
theorem zcl_R (h : zJ Q V) (ht : inT Q t) : zR (zcl Q 1 t V).2 := by
  have hP := h.wp
  have hN := hP.t ht
  have key : 0 ≤ (zcl Q 1 t V).2 ∧ (zcl Q 1 t V).2 ≤ 80 * Q 1 t 0 := by
    unfold zcl
    refine lp_ind (f := zcq Q 1 t) (fun p s => 0 ≤ s.2 ∧ s.2 ≤ 80 * p) _ 0 _ (V, 0) (by omega) rfl (by simp) (fun p s p1 p2 hs => ?_)
    have hM := hP.m ht (p := p) ⟨p1, p2⟩
    have hE := fi_le (Q := fun o => s.1 (14, t, p, o) 4 = 2) (a := 0) (n := Q 2 t p) hM.1
    have hE : 0 ≤ zse Q s.1 t p ∧ zse Q s.1 t p ≤ Q 2 t p := hE
    have h3 := lp_ind (f := zec Q 1 t p (zse Q s.1 t p)) (fun o s' => 0 ≤ s'.2 ∧ s'.2 ≤ s.2 + o) _ 0 _ s hE.1 rfl (by omega) (fun o s' _ _ hs' => by
      unfold zec
      split
      · show 0 ≤ s'.2 + 1 ∧ s'.2 + 1 ≤ s.2 + (o + 1)
        omega
      · omega)
    have h4 : 0 ≤ (zcq Q 1 t p s).2 ∧ (zcq Q 1 t p s).2 ≤ s.2 + zse Q s.1 t p := h3
    omega
  exact ⟨by omega, by omega⟩
end ZNZ
set_option maxHeartbeats 4000000 in
set_option maxRecDepth 100000 in
theorem c_X7_clean_ {l : Launch} {Δ : zDl} {ad : zK → Nat} {Q : zP} {V : zS} {X : zMem}  (hJ : zJ Q V) (hX : X = mm Δ ad Q V z00) (hL : Δ.2.2.2.2.1 ≤ 3072) (hD : V (200, 0, 0, 0) 2 ≤ 930000) (h4 : V (0, 0, 0, 0) 4 ≤ 190) (h0 : 1 ≤ Q 0 0 0) : zMn l Δ yX7_clean_ cX7_clean_ 3 (some .boolean) 10 0 0 [.ref (ad (200, 0, 0, 0))] ad (pm Δ ad Q V X) (zAct Δ ad Q V 1000) := by
  refine zMn_of (by decide) (Nat.le_of_ble_eq_true rfl) (fun Γ hl hΔ hF => ?_)
  subst hl hΔ
  show G Γ _ _ _ RX7 _ _ _ _ _ [(0, .ref (ad (200, 0, 0, 0)))] []
  have hP := hJ.wp
  have hV := hJ.wv
  have hq := hP.n
  have hdw := hV.dw
  refine G_aload_n (pc := 0) 0 0 dX7_clean__0 rfl rfl ?_
  refine G_aload_n (pc := 1) 0 0 dX7_clean__1 rfl rfl ?_
  refine G_getf (pc := 2) fl_X7_25 dX7_clean__2 pg_200 rfl ?_
  refine G_alenV (pc := 5) (t := 7) (Q 0 0 0) rfl dX7_clean__5 pg_201 (by omega) ?_
  refine G_callV (pc := 6) gk_X7_94 dX7_clean__6 pg_200 rfl (c_X7_draw (n := (Q 0 0 0)) hV (by assumption) ⟨by omega, by omega⟩) rfl rfl (Nat.le_of_ble_eq_true rfl) ⟨⟨Nat.le_of_ble_eq_true rfl, Nat.le_of_ble_eq_true rfl⟩, Nat.le_of_ble_eq_true rfl, Nat.le_of_ble_eq_true rfl⟩ (fun vx adx Mx hpo => ?_)
  obtain ⟨r6, hr6, rfl, hadx, rfl⟩ := hpo
  rw [hadx]
  show G Γ _ _ _ _ _ _ (0) (0) 9 [(0, .ref (ad (200, 0, 0, 0)))] [.int (zI r6)]
  refine G_nameV (fun V1_6 hV1_6 => ?_)
  have hVV1_6 : zWV Q V1_6 := by rw [hV1_6]; exact hV.s200_2 ⟨by omega, by omega⟩
  have hdV1_6 : V1_6 (200, 0, 0, 0) 2 = V (200, 0, 0, 0) 2 + 1 := by rw [hV1_6, zst_s]
  have hfV1_6 : ∀ k f, k ≠ (200, 0, 0, 0) → V1_6 k f = V k f := fun k f hk => by rw [hV1_6, zst_k _ _ _ _ hk]
  have hJV1_6 : zJ Q V1_6 := by rw [hV1_6]; exact zJ_dr hJ ⟨by omega, by omega⟩
  have hXV1_6 : X = mm (z_d Γ) ad Q V1_6 z00 := by rw [hV1_6, mm_st (by decide)]; exact hX
  refine G_istore_n (pc := 9) 1 [(1, .int (zI r6)), (0, .ref (ad (200, 0, 0, 0)))] dX7_clean__9 rfl (by decide) rfl ?_
  obtain ⟨D, hD0⟩ : ∃ D, D = V1_6 := ⟨_, rfl⟩
  have hJD : zJ Q D := by rw [hD0]; exact hJV1_6
  have hXD : X = mm (z_d Γ) ad Q D z00 := by rw [hD0]; exact hXV1_6
  have hVD := hJD.wv
  have hDd : D (200, 0, 0, 0) 2 ≤ V (200, 0, 0, 0) 2 + 3 := by rw [hD0]; omega
  have hD4 : D (0, 0, 0, 0) 4 = V (0, 0, 0, 0) 4 := by rw [hD0, hfV1_6 _ _ (by decide)]
  have hD6 : D (0, 0, 0, 0) 6 = V (0, 0, 0, 0) 6 := by rw [hD0, hfV1_6 _ _ (by decide)]
  have hD1 : D (1, 0, 0, 0) 1 = V (1, 0, 0, 0) 1 := by rw [hD0, hfV1_6 _ _ (by decide)]
  have ht : inT Q r6 := ⟨by omega, by omega⟩
  have hN := hP.t ht
  have h81 := (hVV1_6.t8 r6).1
  refine G_aload_n (pc := 10) 0 1 dX7_clean__10 rfl rfl ?_
  refine G_getf (pc := 11) fl_X7_29 dX7_clean__11 pg_200 rfl ?_
  refine G_iload_n (pc := 14) 1 0 dX7_clean__14 rfl rfl ?_
  refine G_zaldV (pc := 15) (V1_6 (8, r6, 0, 0) 1) dX7_clean__15 pg_205 ⟨by omega, by omega, by omega, by omega⟩ rfl ?_
  refine G_if_ne (pc := 16) 42 dX7_clean__16 (by decide) (by first | exact zWV.R (by assumption) _ _ | exact ⟨by omega, by omega⟩ | assumption | (subst_vars; first | exact zWV.R (by assumption) _ _ | exact ⟨by omega, by omega⟩)) (fun c16 => ?_) (fun c16 => ?_)
  · rw [← hD0] at c16
    obtain ⟨hc1, hc2⟩ := zcl_1 hJD ht
    have hJc := zJ_clean hJD ht c16
    refine G_aload_n (pc := 42) 0 1 dX7_clean__42 rfl rfl ?_
    refine G_iload_n (pc := 43) 1 0 dX7_clean__43 rfl rfl ?_
    refine G_iconst (pc := 44) dX7_clean__44 ?_
    refine G_callVd (pc := 45) gk_X7_160 dX7_clean__45 pg_200 rfl (c_X7_clean (by first | assumption | omega | exact ⟨by omega, by omega⟩ | exact ⟨⟨by omega, by omega⟩, by omega⟩ | exact zWV.R (by assumption) _ _) (by first | assumption | omega | exact ⟨by omega, by omega⟩ | exact ⟨⟨by omega, by omega⟩, by omega⟩ | exact zWV.R (by assumption) _ _) (by first | assumption | omega | exact ⟨by omega, by omega⟩ | exact ⟨⟨by omega, by omega⟩, by omega⟩ | exact zWV.R (by assumption) _ _) (Or.inr rfl)) rfl rfl (Nat.le_of_ble_eq_true rfl) ⟨⟨Nat.le_of_ble_eq_true rfl, Nat.le_of_ble_eq_true rfl⟩, Nat.le_of_ble_eq_true rfl, Nat.le_of_ble_eq_true rfl⟩ ?_
    refine G_nameV (fun V2_45 hV2_45 => ?_)
    refine G_istore_ne (pc := 48) 2 (fun zw => [(2, .int (zI zw)), (1, .int (zI r6)), (0, .ref (ad (200, 0, 0, 0)))]) dX7_clean__48 rfl (by decide) (fun _ => rfl) (fun v48 e48 => ?_)
    have hSc : V2_45 = (zcl Q 1 r6 D).1 := by rw [hV2_45, hD0]
    have e48' : v48 = (lp (ztr Q r6) 0 (Q 1 r6 0) (D, 0)).2 := by rw [e48, ← hD0]; exact hc2
    have hsn : zSet Q V2_45 := by rw [hSc, hc1]; exact zSet_nz
    have hVV2_45 : zWV Q V2_45 := by rw [hSc]; exact zcl_V hP hVD ht
    refine G_aload_n (pc := 49) 0 2 dX7_clean__49 rfl rfl ?_
    refine G_callVv (pc := 50) gk_X7_126 dX7_clean__50 pg_200 rfl (c_X7_settle (by first | assumption | omega | exact ⟨by omega, by omega⟩ | exact ⟨⟨by omega, by omega⟩, by omega⟩ | exact zWV.R (by assumption) _ _) (by first | assumption | omega | exact ⟨by omega, by omega⟩ | exact ⟨⟨by omega, by omega⟩, by omega⟩ | exact zWV.R (by assumption) _ _) hsn) rfl rfl (Nat.le_of_ble_eq_true rfl) ⟨⟨Nat.le_of_ble_eq_true rfl, Nat.le_of_ble_eq_true rfl⟩, Nat.le_of_ble_eq_true rfl, Nat.le_of_ble_eq_true rfl⟩ ?_
    refine G_nameV (fun V3_50 hV3_50 => ?_)
    have hVV3_50 : zWV Q V3_50 := by rw [hV3_50]; exact zkA_V hP hVV2_45
    have hSa : V3_50 = zkA Q (lp (ztr Q r6) 0 (Q 1 r6 0) (D, 0)).1 := by rw [hV3_50, hSc, hc1]; exact zkA_nzs hJc.st
    have hzr : zR v48 := by rw [e48]; exact zcl_R (by rw [← hD0]; exact hJD) ht
    refine G_aload_n (pc := 53) 0 2 dX7_clean__53 rfl rfl ?_
    refine G_getf (pc := 54) fl_X7_10 dX7_clean__54 pg_200 rfl ?_
    refine G_iload_n (pc := 57) 1 1 dX7_clean__57 rfl rfl ?_
    rw [hXD, pm_mm]
    refine G_callV (pc := 58) gk_X7_163 dX7_clean__58 mg_0 rfl (c_X6_clean (t := r6) hP ht hJD.wv.W c16) rfl rfl (Nat.le_of_ble_eq_true rfl) ⟨⟨Nat.le_of_ble_eq_true rfl, Nat.le_of_ble_eq_true rfl⟩, Nat.le_of_ble_eq_true rfl, Nat.le_of_ble_eq_true rfl⟩ (fun vx adx Mx hpo => ?_)
    obtain ⟨rfl, hadx, rfl⟩ := hpo
    rw [hadx]
    rw [← e48']
    show G Γ _ _ _ _ _ _ (0) (0) 61 [(2, .int (zI v48)), (1, .int (zI r6)), (0, .ref (ad (200, 0, 0, 0)))] [.int (zI v48)]
    rw [← pm_mm]
    refine G_iload_n (pc := 61) 2 0 dX7_clean__61 rfl rfl ?_
    refine G_icmp_ne (pc := 62) 69 dX7_clean__62 (by decide) (by first | exact zWV.R (by assumption) _ _ | exact ⟨by omega, by omega⟩ | assumption | (subst_vars; first | exact zWV.R (by assumption) _ _ | exact ⟨by omega, by omega⟩)) (by first | exact zWV.R (by assumption) _ _ | exact ⟨by omega, by omega⟩ | assumption | (subst_vars; first | exact zWV.R (by assumption) _ _ | exact ⟨by omega, by omega⟩)) (fun c62 => ?_) (fun c62 => ?_)
    · exfalso
      exact c62 rfl
    · refine G_iconst (pc := 65) dX7_clean__65 ?_
      refine G_goto (pc := 66) 70 dX7_clean__66 (by decide) ?_
      exact G_zret (pc := 70) hF dX7_clean__70 ⟨Nat.le_of_ble_eq_true rfl, Nat.le_of_ble_eq_true rfl⟩ (by first | exact zb_ite | omega) ⟨rfl, Q, V3_50, ⟨rfl, rfl⟩, by rw [hSa]; rfl, by rw [hSa]; exact hJc, by rw [hSa, zJc_k ⟨by simp, by simp, by simp, by simp⟩]; omega, by rw [hSa, zJc_k ⟨by simp, by simp, by simp, by simp⟩]; omega, by rw [hSa, zJc_k ⟨by simp, by simp, by simp, by simp⟩]; omega, by rw [hSa, zJc_k ⟨by simp, by simp, by simp, by simp⟩]; omega, by omega, by omega⟩
  · have hc0 := zcl_0 (V := D) (Q := Q) (t := r6)
    refine G_aload_n (pc := 19) 0 1 dX7_clean__19 rfl rfl ?_
    refine G_getf (pc := 20) fl_X7_10 dX7_clean__20 pg_200 rfl ?_
    refine G_iload_n (pc := 23) 1 0 dX7_clean__23 rfl rfl ?_
    rw [hXD, pm_mm]
    refine G_callV (pc := 24) gk_X7_157 dX7_clean__24 mg_0 rfl (c_X6_wouldDrop (t := r6) hP ht hJD.wv.W) rfl rfl (Nat.le_of_ble_eq_true rfl) ⟨⟨Nat.le_of_ble_eq_true rfl, Nat.le_of_ble_eq_true rfl⟩, Nat.le_of_ble_eq_true rfl, Nat.le_of_ble_eq_true rfl⟩ (fun vx adx Mx hpo => ?_)
    obtain ⟨rfl, hadx, rfl⟩ := hpo
    rw [hadx]
    show G Γ _ _ _ _ _ _ (0) (0) 27 [(1, .int (zI r6)), (0, .ref (ad (200, 0, 0, 0)))] [.int (zI ((sm (fun p => ztc Q D r6 p) 0 (Q 1 r6 0))))]
    rw [← pm_mm]
    refine G_aload_n (pc := 27) 0 1 dX7_clean__27 rfl rfl ?_
    refine G_iload_n (pc := 28) 1 0 dX7_clean__28 rfl rfl ?_
    refine G_iconst (pc := 29) dX7_clean__29 ?_
    refine G_callVd (pc := 30) gk_X7_160 dX7_clean__30 pg_200 rfl (c_X7_clean (by first | assumption | omega | exact ⟨by omega, by omega⟩ | exact ⟨⟨by omega, by omega⟩, by omega⟩ | exact zWV.R (by assumption) _ _) (by first | assumption | omega | exact ⟨by omega, by omega⟩ | exact ⟨⟨by omega, by omega⟩, by omega⟩ | exact zWV.R (by assumption) _ _) (by first | assumption | omega | exact ⟨by omega, by omega⟩ | exact ⟨⟨by omega, by omega⟩, by omega⟩ | exact zWV.R (by assumption) _ _) (Or.inl rfl)) rfl rfl (Nat.le_of_ble_eq_true rfl) ⟨⟨Nat.le_of_ble_eq_true rfl, Nat.le_of_ble_eq_true rfl⟩, Nat.le_of_ble_eq_true rfl, Nat.le_of_ble_eq_true rfl⟩ ?_
    refine G_nameV (fun V4_30 hV4_30 => ?_)
    have hS0 : V4_30 = D := by rw [hV4_30, ← hD0, hc0]
    have hcc : (zcl Q 0 r6 V1_6).2 = sm (fun p => ztc Q D r6 p) 0 (Q 1 r6 0) := by rw [← hD0, hc0]
    have hzr : zR (sm (fun p => ztc Q D r6 p) 0 (Q 1 r6 0)) := ztc_R hP hN hD0 ht
    rw [hcc]
    refine G_icmp_ne (pc := 33) 40 dX7_clean__33 (by decide) (by first | exact zWV.R (by assumption) _ _ | exact ⟨by omega, by omega⟩ | assumption | (subst_vars; first | exact zWV.R (by assumption) _ _ | exact ⟨by omega, by omega⟩)) (by first | exact zWV.R (by assumption) _ _ | exact ⟨by omega, by omega⟩ | assumption | (subst_vars; first | exact zWV.R (by assumption) _ _ | exact ⟨by omega, by omega⟩)) (fun c33 => ?_) (fun c33 => ?_)
    · exfalso
      exact c33 rfl
    · refine G_iconst (pc := 36) dX7_clean__36 ?_
      refine G_goto (pc := 37) 41 dX7_clean__37 (by decide) ?_
      exact G_zret (pc := 41) hF dX7_clean__41 ⟨Nat.le_of_ble_eq_true rfl, Nat.le_of_ble_eq_true rfl⟩ (by first | exact zb_ite | omega) ⟨rfl, Q, D, ⟨rfl, rfl⟩, by rw [hS0]; rfl, hJD, by omega, by omega, by omega, by omega, by omega, by omega⟩
