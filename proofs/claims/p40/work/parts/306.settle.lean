/-! ===== what goes on whatever happens: class and model go on alike ===== -/
theorem lp_ind2 {σ τ : Type} {f : Int → σ → σ} {F : Int → τ → τ} (I : Int → σ → τ → Prop) : ∀ (k : Nat) (a n : Int) (s : σ) (t : τ), a ≤ n → (n - a).toNat = k → I a s t → (∀ o s t, a ≤ o → o < n → I o s t → I (o + 1) (f o s) (F o t)) → I n (lp f a n s) (lp F a n t) := by
  intro k
  induction k with
  | zero =>
    intro a n s t h hk h0 _
    rw [lp_end (by omega), lp_end (by omega), show n = a by omega]
    exact h0
  | succ k ih =>
    intro a n s t h hk h0 hs
    rw [lp_step (by omega), lp_step (f := F) (by omega)]
    exact ih (a + 1) n _ _ (by omega) (by omega) (hs a s t (by omega) (by omega) h0) (fun o s t g1 g2 hi => hs o s t (by omega) g2 hi)
theorem lp_id {σ : Type} {f : Int → σ → σ} : ∀ (k : Nat) (a n : Int) (s : σ), (n - a).toNat = k → (∀ o, a ≤ o → o < n → f o s = s) → lp f a n s = s := by
  intro k
  induction k with
  | zero => intro a n s hk _; exact lp_end (by omega)
  | succ k ih =>
    intro a n s hk h
    rw [lp_step (by omega), h a (by omega) (by omega)]
    exact ih (a + 1) n s (by omega) (fun o g1 g2 => h o (by omega) g2)
theorem lp_split {σ : Type} {f : Int → σ → σ} : ∀ (k : Nat) (a c n : Int) (s : σ), a ≤ c → c ≤ n → (c - a).toNat = k → lp f a n s = lp f c n (lp f a c s) := by
  intro k
  induction k with
  | zero => intro a c n s h1 h2 hk; rw [show c = a by omega, lp_end (f := f) (a := a) (n := a) (by omega)]
  | succ k ih =>
    intro a c n s h1 h2 hk
    rw [lp_step (a := a) (n := n) (by omega), lp_step (a := a) (n := c) (by omega)]
    exact ih (a + 1) c n _ (by omega) h2 (by omega)
/-- one step alone does something -/
theorem lp_only {σ : Type} {f : Int → σ → σ} {a c n : Int} {s : σ} (h1 : a ≤ c) (h2 : c < n) (hl : ∀ o, a ≤ o → o < c → f o s = s) (hr : ∀ o, c < o → o < n → f o (f c s) = f c s) : lp f a n s = f c s := by
  rw [lp_split _ a c n s h1 (by omega) rfl, lp_id _ a c s rfl hl, lp_step h2]
  exact lp_id _ _ _ _ rfl (fun o g1 g2 => hr o (by omega) g2)
theorem ite_z {c : Prop} [Decidable c] {a b : Int} (ha : a = 0) (hb : b = 0) : a = if c then 0 else b := by
  split
  · exact ha
  · rw [ha, hb]
section SETT
variable {P : zP} {S M : zS}
theorem jb_iff (ha : xa P S M) (hh : xh P S M) (hV : zWM P M) {g p o : Int} (hg : inG P g) (hp : inQ P g p) (ho : inM P (P 4 g 0) p o) (hn : ¬ (¬ S (14, P 4 g 0, p, o) 5 = 0 ∧ ju S g p o)) : jb P S g p o ↔ mB M g (mi M (P 4 g 0) p o) := by
  obtain ⟨-, -, -, -, -, -, c7, c8⟩ := ha.C (P 4 g 0) p o (hV.qg hg) hp ho
  obtain ⟨d1, -⟩ := hh.1 g p o hg hp ho
  rw [if_neg hn] at d1
  show (¬ S (14, P 4 g 0, p, o) 5 = 0 ∨ S (14, P 4 g 0, p, o) 4 = 1 ∨ (S (19, g, p, 0) o = 3 ∨ S (19, g, p, 0) o = 4)) ↔ ((M (69, 0, 0, 0) (g * 80 + mi M (P 4 g 0) p o) = 3 ∨ M (69, 0, 0, 0) (g * 80 + mi M (P 4 g 0) p o) = 4) ∨ mS M (mi M (P 4 g 0) p o) = 1 ∨ ¬ M (58, 0, 0, 0) (mi M (P 4 g 0) p o) = 0)
  rw [d1, c7, c8]
  constructor
  · rintro (q | q | q)
    · exact Or.inr (Or.inr q)
    · exact Or.inr (Or.inl q)
    · exact Or.inl q
  · rintro (q | q | q)
    · exact Or.inr (Or.inr q)
    · exact Or.inr (Or.inl q)
    · exact Or.inl q
def k19 (n : Nat) : Bool := n == 19 || n == 20
theorem k19_A : ∀ n, k19 n = true → kA n = true := fun n h => by
  simp only [k19, kA, Bool.or_eq_true, beq_iff_eq] at h ⊢
  omega
theorem k19_F : ∀ n, k19 n = true → kF n = true := fun n h => by
  simp only [k19, kF, Bool.or_eq_true, beq_iff_eq, Bool.not_eq_true', beq_eq_false_iff_ne] at h ⊢
  omega
/-- those dropped are forgotten -/
theorem r_k1 (ha : xa P S M) (hh : xh P S M) (hV : zWM P M) {g p : Int} (hg : inG P g) (hp : inQ P g p) : xh P (lp (zk1 P g p) 0 (P 2 (P 4 g 0) p) S) M ∧ (∀ o, inM P (P 4 g 0) p o → ¬ (¬ lp (zk1 P g p) 0 (P 2 (P 4 g 0) p) S (14, P 4 g 0, p, o) 5 = 0 ∧ ju (lp (zk1 P g p) 0 (P 2 (P 4 g 0) p) S) g p o)) ∧ zfr k19 S (lp (zk1 P g p) 0 (P 2 (P 4 g 0) p) S) ∧ cO g p S (lp (zk1 P g p) 0 (P 2 (P 4 g 0) p) S) := by
  have hm := hV.qm (hV.qg hg) hp
  have key := lp_ind (f := zk1 P g p) (fun o s => xh P s M ∧ (∀ o', 0 ≤ o' → o' < o → ¬ (¬ s (14, P 4 g 0, p, o') 5 = 0 ∧ ju s g p o')) ∧ zfr k19 S s ∧ cO g p S s) _ 0 (P 2 (P 4 g 0) p) S (by omega) rfl ⟨hh, fun o' h1 h2 => by omega, zfr.rf, cO.rf⟩ (fun o s h1 h2 hs => ?_)
  · exact ⟨key.1, fun o ho => key.2.1 o ho.1 ho.2, key.2.2⟩
  · obtain ⟨i1, i2, i3, i4⟩ := hs
    have ho : inM P (P 4 g 0) p o := ⟨h1, h2⟩
    unfold zk1
    by_cases hc : ¬ s (14, P 4 g 0, p, o) 5 = 0 ∧ ju s g p o
    · rw [if_pos hc]
      have z19 : zfg s g p o (19, g, p, 0) o = 0 := by
        unfold zfg
        rw [zst_k _ _ _ _ (by simp), zst_s]
      have z20 : zfg s g p o (20, g, p, 0) o = 0 := zst_s _ _ _ _
      have z21 : zfg s g p o (21, g, p, 0) o = s (21, g, p, 0) o := by
        unfold zfg
        rw [zst_k _ _ _ _ (by simp), zst_k _ _ _ _ (by simp)]
      have cs : cS g p o s (zfg s g p o) := (cS.rf.st (Or.inl rfl)).st (Or.inr (Or.inl rfl))
      obtain ⟨d1, d2, d3⟩ := i1.1 g p o hg hp ho
      rw [if_pos hc] at d1 d2
      have has := xa_fr (i3.mono k19_A) fr.rf ha
      refine ⟨xh_cell has.C i1 hV hg hp ho rfl cs cM.rf ?_ ?_ ?_ (fun q => by omega), fun o' g1 g2 => ?_, i3.tr (zfg_fr rfl rfl), i4.tr cs.O⟩
      · exact ite_z d1 z19
      · exact ite_z d2 z20
      · rw [z21, d3]
      · by_cases hoo : o' = o
        · subst hoo
          show ¬ (_ ∧ (zfg s g p o' (19, g, p, 0) o' = 1 ∨ zfg s g p o' (19, g, p, 0) o' = 2))
          rw [z19]
          exact fun q => by omega
        · have e1 : zfg s g p o (19, g, p, 0) o' = s (19, g, p, 0) o' := cs _ _ (fun q => hoo q.2)
          have e2 : zfg s g p o (14, P 4 g 0, p, o') 5 = s (14, P 4 g 0, p, o') 5 := cs _ _ (by rintro ⟨q | q | q, -⟩ <;> cases q)
          show ¬ (¬ zfg s g p o (14, P 4 g 0, p, o') 5 = 0 ∧ (zfg s g p o (19, g, p, 0) o' = 1 ∨ zfg s g p o (19, g, p, 0) o' = 2))
          rw [e1, e2]
          exact i2 o' g1 (by omega)
    · rw [if_neg hc]
      refine ⟨i1, fun o' g1 g2 => ?_, i3, i4⟩
      by_cases hoo : o' = o
      · subst hoo; exact hc
      · exact i2 o' g1 (by omega)
theorem rF_set (h : rF P S M) {g p x f : Int} {n : Nat} (hp : inQ P g p) (hV : zWM P M) (hg : inG P g) (hf : f = 5 ∧ n = 65 ∨ f = 6 ∧ n = 66 ∨ f = 4 ∧ n = 67) : rF P (zst S (18, g, p, 0) f x) (zst M (n, 0, 0, 0) (g * 4 + p) x) := by
  intro g' p' hg' hp'
  have q1 := hV.qt (hV.qg hg)
  have q2 := hV.qt (hV.qg hg')
  obtain ⟨h1, h2, h3⟩ := h g' p' hg' hp'
  by_cases hc : g' = g ∧ p' = p
  · obtain ⟨rfl, rfl⟩ := hc
    have a : ∀ m : Nat, m ≠ n → zst M (n, 0, 0, 0) (g' * 4 + p') x (m, 0, 0, 0) (g' * 4 + p') = M (m, 0, 0, 0) (g' * 4 + p') := fun m hm => zst_k _ _ _ _ (fun q => hm (congrArg Prod.fst q))
    have b : ∀ f', f' ≠ f → zst S (18, g', p', 0) f x (18, g', p', 0) f' = S (18, g', p', 0) f' := fun f' hf => zst_f _ _ _ hf
    rcases hf with ⟨rfl, rfl⟩ | ⟨rfl, rfl⟩ | ⟨rfl, rfl⟩
    · rw [a 66 (by decide), a 67 (by decide), b 6 (by decide), b 4 (by decide), zst_s, zst_s]
      exact ⟨rfl, h2, h3⟩
    · rw [a 65 (by decide), a 67 (by decide), b 5 (by decide), b 4 (by decide), zst_s, zst_s]
      exact ⟨h1, rfl, h3⟩
    · rw [a 65 (by decide), a 66 (by decide), b 5 (by decide), b 6 (by decide), zst_s, zst_s]
      exact ⟨h1, h2, rfl⟩
  · have e1 : ∀ m : Nat, zst M (n, 0, 0, 0) (g * 4 + p) x (m, 0, 0, 0) (g' * 4 + p') = M (m, 0, 0, 0) (g' * 4 + p') := fun m => by
      rw [zst_at, if_neg (fun q => hc ⟨by omega, by omega⟩)]
    have e2 : ∀ f', zst S (18, g, p, 0) f x (18, g', p', 0) f' = S (18, g', p', 0) f' := fun f' => zst_k _ _ _ _ (fun q => by cases q; exact hc ⟨rfl, rfl⟩)
    rw [e1, e1, e1, e2, e2, e2]
    exact ⟨h1, h2, h3⟩
/-- the mark goes on -/
theorem r_mk {g p : Int} (hg : inG P g) (hp : inQ P g p) : ∀ (n : Nat) (S M : zS), xa P S M → rF P S M → xh P S M → zWM P M → (∀ o, inM P (P 4 g 0) p o → ¬ (¬ S (14, P 4 g 0, p, o) 5 = 0 ∧ ju S g p o)) → P 2 (P 4 g 0) p ≤ S (18, g, p, 0) 5 + n → rF P (zmk P g p n S) (mmk P g p n M) ∧ ¬ zmc P g p (zmk P g p n S) := by
  intro n
  induction n with
  | zero => intro S M ha hf hh hV hn hle; exact ⟨hf, fun q => by have := q.1; show False; simp at hle; have q1 : S (18, g, p, 0) 5 < P 2 (P 4 g 0) p := q.1; omega⟩
  | succ n ih =>
    intro S M ha hf hh hV hn hle
    have e5 := (hf g p hg hp).1
    have b5 := hV.b65 (g * 4 + p)
    have hiff : zmc P g p S ↔ mmc P g p M := by
      show (S (18, g, p, 0) 5 < P 2 (P 4 g 0) p ∧ jb P S g p (S (18, g, p, 0) 5)) ↔ (M (65, 0, 0, 0) (g * 4 + p) < P 2 (P 4 g 0) p ∧ mB M g (mi M (P 4 g 0) p (M (65, 0, 0, 0) (g * 4 + p))))
      rw [e5]
      constructor
      · intro q
        have ho : inM P (P 4 g 0) p (S (18, g, p, 0) 5) := ⟨by omega, q.1⟩
        exact ⟨q.1, (jb_iff ha hh hV hg hp ho (hn _ ho)).mp q.2⟩
      · intro q
        have ho : inM P (P 4 g 0) p (S (18, g, p, 0) 5) := ⟨by omega, q.1⟩
        exact ⟨q.1, (jb_iff ha hh hV hg hp ho (hn _ ho)).mpr q.2⟩
    by_cases hc : zmc P g p S
    · have h2 := (hV.qm (hV.qg hg) hp)
      have hc1 := hc.1
      rw [zmk_go n hc, mmk_go n (hiff.mp hc), e5]
      refine ih _ _ (xa_fr (zfr.rf.st rfl) (fr.rf.st rfl) ha) (rF_set hf hp hV hg (Or.inl ⟨rfl, rfl⟩)) (xh_fr (zfr.rf.st rfl) (fr.rf.st rfl) hh) (hV.s65 ⟨by omega, by omega⟩) (fun o ho => ?_) (by rw [zst_s]; omega)
      show ¬ (¬ zst S (18, g, p, 0) 5 _ (14, P 4 g 0, p, o) 5 = 0 ∧ (zst S (18, g, p, 0) 5 _ (19, g, p, 0) o = 1 ∨ zst S (18, g, p, 0) 5 _ (19, g, p, 0) o = 2))
      rw [zst_k _ _ _ _ (by simp), zst_k _ _ _ _ (by simp)]
      exact hn o ho
    · rw [zmk_stop _ hc, mmk_stop _ (fun q => hc (hiff.mpr q))]
      exact ⟨hf, hc⟩
theorem zmk_O {g p : Int} : ∀ (n : Nat) (S : zS), cO g p S (zmk P g p n S) ∧ zmk P g p n S (18, g, p, 0) 6 = S (18, g, p, 0) 6 := by
  intro n
  induction n with
  | zero => intro S; exact ⟨cO.rf, rfl⟩
  | succ n ih =>
    intro S
    by_cases hc : zmc P g p S
    · rw [zmk_go n hc]
      obtain ⟨h1, h2⟩ := ih (zst S (18, g, p, 0) 5 (S (18, g, p, 0) 5 + 1))
      exact ⟨(cO.rf.st (Or.inl rfl)).tr h1, h2.trans (zst_f _ _ _ (by decide))⟩
    · rw [zmk_stop _ hc]
      exact ⟨cO.rf, rfl⟩
def k18 (n : Nat) : Bool := n == 18
theorem r_ku (ha : xa P S M) (hf : rF P S M) (hh : xh P S M) (hV : zWM P M) {g p : Int} (hg : inG P g) (hp : inQ P g p) : rF P (zku P S g p) (mse P g p M) ∧ xh P (zku P S g p) (mse P g p M) ∧ sg P (zku P S g p) g p ∧ cO g p S (zku P S g p) := by
  obtain ⟨k1, k2, k3, k4⟩ := r_k1 ha hh hV hg hp
  unfold zku mse mm1
  generalize lp (zk1 P g p) 0 (P 2 (P 4 g 0) p) S = L at k1 k2 k3 k4 ⊢
  have haL := xa_fr (k3.mono k19_A) fr.rf ha
  have hfL := xf_fr (k3.mono k19_F) zfr.rf hf
  have e5 := (hfL g p hg hp).1
  have b5 := hV.b65 (g * 4 + p)
  obtain ⟨m1, m2⟩ := r_mk hg hp (P 2 (P 4 g 0) p - L (18, g, p, 0) 5).toNat L M haL hfL k1 hV k2 (by omega)
  obtain ⟨m3, m4⟩ := zmk_O (P := P) (g := g) (p := p) (P 2 (P 4 g 0) p - L (18, g, p, 0) 5).toNat L
  have m5 : zfr k18 L (zmk P g p (P 2 (P 4 g 0) p - L (18, g, p, 0) 5).toNat L) := zmk_fr rfl _ _
  have m6 : zfr (fun n => n == 65) M (mmk P g p (P 2 (P 4 g 0) p - L (18, g, p, 0) 5).toNat M) := mmk_fr rfl _ _
  have hVm := mmk_W hg hp (P 2 (P 4 g 0) p - L (18, g, p, 0) 5).toNat M hV
  rw [e5]
  generalize zmk P g p (P 2 (P 4 g 0) p - L (18, g, p, 0) 5).toNat L = T at m1 m2 m3 m4 m5 ⊢
  generalize mmk P g p (P 2 (P 4 g 0) p - L (18, g, p, 0) 5).toNat M = N at m1 m6 hVm ⊢
  have f5 := (m1 g p hg hp).1
  have f6 := (m1 g p hg hp).2.1
  rw [f5, f6]
  refine ⟨rF_set m1 hp hVm hg (Or.inr (Or.inl ⟨rfl, rfl⟩)), xh_fr ((m5.mono (fun n h => ?_)).st rfl) ((fr_z m6 (fun k f h => ?_)).st rfl) k1, ⟨fun o ho => ?_, fun q => m2 ?_, ?_⟩, (k4.tr m3).st (Or.inl rfl)⟩
  · simp only [k18, kH, Bool.or_eq_true, beq_iff_eq, Bool.not_eq_true', Bool.or_eq_false_iff, beq_eq_false_iff_ne] at h ⊢
    omega
  · simp only [mH, Bool.or_eq_true, beq_iff_eq, Bool.not_eq_true', Bool.or_eq_false_iff, Bool.and_eq_false_iff, beq_eq_false_iff_ne] at h ⊢
    omega
  · show ¬ (¬ zst T (18, g, p, 0) 6 _ (14, P 4 g 0, p, o) 5 = 0 ∧ (zst T (18, g, p, 0) 6 _ (19, g, p, 0) o = 1 ∨ zst T (18, g, p, 0) 6 _ (19, g, p, 0) o = 2))
    rw [zst_k _ _ _ _ (by simp), zst_k _ _ _ _ (by simp), m5 _ _ rfl, m5 _ _ rfl]
    exact k2 o ho
  · have q1 : zst T (18, g, p, 0) 6 (max (T (18, g, p, 0) 6) (T (18, g, p, 0) 5)) (18, g, p, 0) 5 < P 2 (P 4 g 0) p ∧ (¬ zst T (18, g, p, 0) 6 (max (T (18, g, p, 0) 6) (T (18, g, p, 0) 5)) (14, P 4 g 0, p, zst T (18, g, p, 0) 6 (max (T (18, g, p, 0) 6) (T (18, g, p, 0) 5)) (18, g, p, 0) 5) 5 = 0 ∨ zst T (18, g, p, 0) 6 (max (T (18, g, p, 0) 6) (T (18, g, p, 0) 5)) (14, P 4 g 0, p, zst T (18, g, p, 0) 6 (max (T (18, g, p, 0) 6) (T (18, g, p, 0) 5)) (18, g, p, 0) 5) 4 = 1 ∨ (zst T (18, g, p, 0) 6 (max (T (18, g, p, 0) 6) (T (18, g, p, 0) 5)) (19, g, p, 0) (zst T (18, g, p, 0) 6 (max (T (18, g, p, 0) 6) (T (18, g, p, 0) 5)) (18, g, p, 0) 5) = 3 ∨ zst T (18, g, p, 0) 6 (max (T (18, g, p, 0) 6) (T (18, g, p, 0) 5)) (19, g, p, 0) (zst T (18, g, p, 0) 6 (max (T (18, g, p, 0) 6) (T (18, g, p, 0) 5)) (18, g, p, 0) 5) = 4)) := q
    rw [zst_f _ _ _ (show (5 : Int) ≠ 6 by decide), zst_k _ _ _ _ (by simp), zst_k _ _ _ _ (by simp), zst_k _ _ _ _ (by simp)] at q1
    exact q1
  · rw [zst_s, zst_f _ _ _ (by decide)]
    omega
/-- all go on -/
def xX (P : zP) (S M : zS) : Prop := xa P S M ∧ rF P S M ∧ xh P S M
def k189 (n : Nat) : Bool := n == 18 || (n == 19 || n == 20)
theorem k189_A : ∀ n, k189 n = true → kA n = true := fun n h => by
  simp only [k189, kA, Bool.or_eq_true, beq_iff_eq] at h ⊢
  omega
def m656 (n : Nat) : Bool := n == 65 || n == 66
theorem m656_A : ∀ (k : zK) (f : Int), m656 k.1 = true → mA k f = true := fun k f h => by
  simp only [m656, mA, Bool.or_eq_true, beq_iff_eq, Bool.and_eq_true] at h ⊢
  omega
theorem r_sG (h : xX P S M) (hV : zWM P M) {g : Int} (hg : inG P g) : xX P (zkG P g S) (msg P g M) ∧ (∀ p, inQ P g p → sg P (zkG P g S) g p) ∧ zWM P (msg P g M) ∧ ∀ g' p', ¬ g' = g → sg P S g' p' → sg P (zkG P g S) g' p' := by
  have hq := hV.qt (hV.qg hg)
  have key := lp_ind2 (f := zkf P g) (F := mse P g) (fun o s m => xX P s m ∧ (∀ p, 0 ≤ p → p < o → sg P s g p) ∧ zWM P m ∧ ∀ g' p', ¬ g' = g → sg P S g' p' → sg P s g' p') _ 0 (P 1 (P 4 g 0) 0) S M (by omega) rfl ⟨h, fun p h1 h2 => by omega, hV, fun _ _ _ hs => hs⟩ (fun p s m h1 h2 hs => ?_)
  · exact ⟨key.1, fun p hp => key.2.1 p hp.1 hp.2, key.2.2⟩
  · obtain ⟨⟨i1, i2, i3⟩, i4, i5, i6⟩ := hs
    have hp : inQ P g p := ⟨h1, h2⟩
    obtain ⟨j1, j2, j3, j4⟩ := r_ku i1 i2 i3 i5 hg hp
    refine ⟨⟨xa_fr ((zku_fr (K := k189) rfl rfl rfl).mono k189_A) (fr_z (mse_fr (K := m656) rfl rfl) m656_A) i1, j1, j2⟩, fun p' g1 g2 => ?_, mse_W i5 hg hp, fun g' p' g1 g2 => ?_⟩
    · by_cases hpp : p' = p
      · subst hpp; exact j3
      · exact sg_off j4 (fun q => hpp q.2) (i4 p' g1 (by omega))
    · exact sg_off j4 (fun q => g1 q.1) (i6 g' p' g1 g2)
theorem r_sa (h : xX P S M) (hV : zWM P M) : xX P (zkA P S) (msa P M) ∧ (∀ g p, inG P g → inQ P g p → sg P (zkA P S) g p) ∧ zWM P (msa P M) := by
  have hq := hV.q
  have key := lp_ind2 (f := zkG P) (F := msg P) (fun o s m => xX P s m ∧ (∀ g p, 0 ≤ g → g < o → inQ P g p → sg P s g p) ∧ zWM P m) _ 0 (P 3 0 0) S M (by omega) rfl ⟨h, fun g p h1 h2 => by omega, hV⟩ (fun g s m h1 h2 hs => ?_)
  · exact ⟨key.1, fun g p hg hp => key.2.1 g p hg.1 hg.2 hp, key.2.2⟩
  · obtain ⟨i1, i4, i5⟩ := hs
    obtain ⟨j1, j2, j3, j4⟩ := r_sG i1 i5 (g := g) ⟨h1, h2⟩
    refine ⟨j1, fun g' p' g1 g2 hp' => ?_, j3⟩
    by_cases hgg : g' = g
    · subst hgg; exact j2 p' hp'
    · exact j4 g' p' hgg (i4 g' p' g1 (by omega) hp')
/-- where nothing is to go on, nothing changes -/
theorem zku_id {g p : Int} (h : sg P S g p) : zku P S g p = S := by
  obtain ⟨h1, h2, h3⟩ := h
  have e1 : lp (zk1 P g p) 0 (P 2 (P 4 g 0) p) S = S := lp_id _ _ _ _ rfl (fun o g1 g2 => if_neg (h1 o ⟨g1, g2⟩))
  unfold zku
  rw [e1, zmk_stop _ h2]
  exact zst_id (by omega)
theorem zkG_id {g : Int} (h : ∀ p, inQ P g p → sg P S g p) : zkG P g S = S := lp_id _ _ _ _ rfl (fun p g1 g2 => zku_id (h p ⟨g1, g2⟩))
theorem zkA_id (h : ∀ g p, inG P g → inQ P g p → sg P S g p) : zkA P S = S := lp_id _ _ _ _ rfl (fun g g1 g2 => zkG_id (fun p hp => h g p ⟨g1, g2⟩ hp))
/-- where one alone is to go on -/
theorem zkA_one {g p : Int} (hg : inG P g) (hp : inQ P g p) (h : ∀ g' p', inG P g' → inQ P g' p' → ¬ (g' = g ∧ p' = p) → sg P S g' p') (hs : sg P (zku P S g p) g p) (hO : cO g p S (zku P S g p)) : zkA P S = zku P S g p := by
  have h' : ∀ g' p', inG P g' → inQ P g' p' → sg P (zku P S g p) g' p' := fun g' p' hg' hp' => by
    by_cases hc : g' = g ∧ p' = p
    · rw [hc.1, hc.2]; exact hs
    · exact sg_off hO hc (h g' p' hg' hp' hc)
  have e : zkG P g S = zku P S g p := lp_only (f := zkf P g) hp.1 hp.2 (fun o g1 g2 => zku_id (h g o hg ⟨g1, by have := hp.2; omega⟩ (fun q => by omega))) (fun o g1 g2 => zku_id (h' g o hg ⟨by have := hp.1; omega, g2⟩))
  have e2 := lp_only (f := zkG P) (a := 0) (c := g) (n := P 3 0 0) (s := S) hg.1 hg.2 (fun o g1 g2 => zkG_id (fun p' hp' => h o p' ⟨g1, by have := hg.2; omega⟩ hp' (fun q => by omega))) (fun o g1 g2 => by
    rw [e]
    exact zkG_id (fun p' hp' => h' o p' ⟨by have := hg.1; omega, g2⟩ hp'))
  exact e2.trans e
end SETT
