/-! ===== clean, wouldDrop: class and model act alike ===== -/
section CLEAN
variable {P : zP} {S M : zS}
theorem zlt_iff {t p o e : Int} (ho : o < e) : zlt S t p o e ↔ ∃ q, (o + 1 ≤ q ∧ q < e) ∧ S (14, t, p, q) 4 = 0 ∧ S (14, t, p, q) 0 = S (14, t, p, o) 0 := by
  obtain ⟨f1, f2, f3, f4⟩ := fi_spec (Q := fun q => S (14, t, p, q) 4 = 0 ∧ S (14, t, p, q) 0 = S (14, t, p, o) 0) _ (o + 1) e (by omega) rfl
  constructor
  · intro h
    exact ⟨_, ⟨f1, h⟩, f4 h⟩
  · rintro ⟨q, ⟨q1, q2⟩, q3⟩
    exact Classical.byContradiction fun hn => f3 q q1 (by
      have h9 : ¬ fi (fun q => S (14, t, p, q) 4 = 0 ∧ S (14, t, p, q) 0 = S (14, t, p, o) 0) (o + 1) e < e := hn
      omega) q3
theorem zod_cg {S' : zS} {t p o e : Int} (ho : o < e) (h4 : ∀ q f, f ≠ 5 → S' (14, t, p, q) f = S (14, t, p, q) f) (h5 : S' (14, t, p, o) 5 = S (14, t, p, o) 5) : zod S' t p o e ↔ zod S t p o e := by
  show ((S' (14, t, p, o) 4 = 0 ∧ S' (14, t, p, o) 5 = 0) ∧ ¬ S' (14, t, p, o) 0 = -1 ∧ zlt S' t p o e) ↔ ((S (14, t, p, o) 4 = 0 ∧ S (14, t, p, o) 5 = 0) ∧ ¬ S (14, t, p, o) 0 = -1 ∧ zlt S t p o e)
  have hz : zlt S' t p o e ↔ zlt S t p o e := by
    rw [zlt_iff ho, zlt_iff ho]
    constructor
    · rintro ⟨q, q1, q2, q3⟩
      rw [h4 _ 4 (by decide)] at q2
      rw [h4 _ 0 (by decide), h4 _ 0 (by decide)] at q3
      exact ⟨q, q1, q2, q3⟩
    · rintro ⟨q, q1, q2, q3⟩
      refine ⟨q, q1, ?_, ?_⟩
      · rw [h4 _ 4 (by decide)]; exact q2
      · rw [h4 _ 0 (by decide), h4 _ 0 (by decide)]; exact q3
  rw [h4 _ 4 (by decide), h4 _ 0 (by decide), h5, hz]
/-- those of V that are outdated are dropped -/
noncomputable def dV (S : zS) (t p e : Int) (V : Int → Prop) : zS := by
  classical
  exact fun k f => if k = (14, t, p, k.2.2.2) ∧ V k.2.2.2 ∧ f = 5 ∧ zod S t p k.2.2.2 e then 1 else S k f
theorem dV_n {t p e : Int} {V : Int → Prop} {k : zK} {f : Int} (h : ¬ (k = (14, t, p, k.2.2.2) ∧ V k.2.2.2 ∧ f = 5)) : dV S t p e V k f = S k f := by
  unfold dV
  rw [if_neg (fun q => h ⟨q.1, q.2.1, q.2.2.1⟩)]
theorem dV_at {t p e o : Int} {V : Int → Prop} (hv : V o) : dV S t p e V (14, t, p, o) 5 = if zod S t p o e then 1 else S (14, t, p, o) 5 := by
  unfold dV
  by_cases hc : zod S t p o e
  · rw [if_pos ⟨rfl, hv, rfl, hc⟩, if_pos hc]
  · rw [if_neg (fun q => hc q.2.2.2), if_neg hc]
theorem dV_cg {t p e : Int} {V V' : Int → Prop} (h : ∀ o, zod S t p o e → (V o ↔ V' o)) : dV S t p e V = dV S t p e V' := by
  funext k f
  unfold dV
  by_cases hc : k = (14, t, p, k.2.2.2) ∧ V k.2.2.2 ∧ f = 5 ∧ zod S t p k.2.2.2 e
  · rw [if_pos hc, if_pos ⟨hc.1, (h _ hc.2.2.2).mp hc.2.1, hc.2.2⟩]
  · rw [if_neg hc, if_neg (fun q => hc ⟨q.1, (h _ q.2.2.2).mpr q.2.1, q.2.2⟩)]
theorem dV_st {t p e o : Int} {V V' : Int → Prop} (hc : zod S t p o e) (h : ∀ q, V' q ↔ V q ∨ q = o) : zst (dV S t p e V) (14, t, p, o) 5 1 = dV S t p e V' := by
  funext k f
  by_cases hk : k = (14, t, p, o) ∧ f = 5
  · obtain ⟨rfl, rfl⟩ := hk
    rw [zst_s, dV_at ((h o).mpr (Or.inr rfl)), if_pos hc]
  · rw [zst_at, if_neg hk]
    unfold dV
    by_cases h1 : k = (14, t, p, k.2.2.2) ∧ V k.2.2.2 ∧ f = 5 ∧ zod S t p k.2.2.2 e
    · rw [if_pos h1, if_pos ⟨h1.1, (h _).mpr (Or.inl h1.2.1), h1.2.2⟩]
    · rw [if_neg h1, if_neg (fun q => by
        rcases (h _).mp q.2.1 with g | g
        · exact h1 ⟨q.1, g, q.2.2⟩
        · exact hk ⟨by rw [q.1, g], q.2.2.1⟩)]
def dC (S : zS) (t p e o : Int) : Int := if zod S t p o e then 1 else 0
/-- the class drops upwards -/
theorem dV_up {t p e : Int} (he : 0 ≤ e) : lp (zdr t p e) 0 e (S, 0) = (dV S t p e (fun o => 0 ≤ o ∧ o < e), sm (dC S t p e) 0 e) := by
  have key := lp_ind2 (f := zdr t p e) (F := fun o (s : Int) => s + dC S t p e o) (fun o (s : zS × Int) d => s = (dV S t p e (fun q => 0 ≤ q ∧ q < o), d)) _ 0 e (S, 0) 0 he rfl (by
    congr 1
    funext k f
    rw [dV_n (fun q => by have := q.2.1; omega)]) (fun o s d h1 h2 hs => by
    have hz : zod (dV S t p e (fun q => 0 ≤ q ∧ q < o)) t p o e ↔ zod S t p o e := zod_cg h2 (fun q f hf => dV_n (fun g => hf g.2.2)) (dV_n (fun g => by have g1 : 0 ≤ o ∧ o < o := g.2.1; omega))
    rw [hs]
    unfold zdr dC
    dsimp only
    by_cases hc : zod S t p o e
    · rw [if_pos (hz.mpr hc), if_pos hc, dV_st hc (V' := fun q => 0 ≤ q ∧ q < o + 1) (fun q => by omega)]
    · rw [if_neg (fun q => hc (hz.mp q)), if_neg hc, show d + 0 = d by omega]
      congr 1
      exact dV_cg (fun q hq => ⟨fun g => by omega, fun g => ⟨g.1, by
        by_cases hqo : q = o
        · subst hqo; exact absurd hq hc
        · omega⟩⟩))
  rw [key, lp_sm _ _ _ _ rfl, show (0 : Int) + sm (dC S t p e) 0 e = sm (dC S t p e) 0 e by omega]
/-- the model drops downwards -/
theorem r_cN (hX : xX P S M) (hV : zWM P M) {b t p e c : Int} (ht : inT P t) (hp : inP P t p) (he : e ≤ P 2 t p) : ∀ (n : Nat) (s : zS × (Int → Int) × Int), (n : Int) ≤ e → ((¬ b = 0 → xX P (dV S t p e (fun o => (n : Int) ≤ o ∧ o < e)) s.1 ∧ zWM P s.1 ∧ fr dM M s.1) ∧ (b = 0 → s.1 = M) ∧ (∀ k, ¬ k = -1 → (¬ s.2.1 k = 0 ↔ ∃ q, ((n : Int) ≤ q ∧ q < e) ∧ S (14, t, p, q) 4 = 0 ∧ S (14, t, p, q) 0 = k)) ∧ s.2.2 = c + sm (dC S t p e) n e) →
    (¬ b = 0 → xX P (dV S t p e (fun o => 0 ≤ o ∧ o < e)) (mcN P b (t * 4 + p) n s).1 ∧ zWM P (mcN P b (t * 4 + p) n s).1 ∧ fr dM M (mcN P b (t * 4 + p) n s).1) ∧ (b = 0 → (mcN P b (t * 4 + p) n s).1 = M) ∧ (mcN P b (t * 4 + p) n s).2.2 = c + sm (dC S t p e) 0 e := by
  intro n
  induction n with
  | zero =>
    intro s hn hi
    exact ⟨hi.1, hi.2.1, hi.2.2.2⟩
  | succ n ih =>
    intro s hn hi
    obtain ⟨i1, i2, i3, i4⟩ := hi
    have ho : inM P t p (n : Int) := ⟨by omega, by omega⟩
    have hcast : ((n + 1 : Nat) : Int) = (n : Int) + 1 := by omega
    rw [hcast] at i1 i3 i4
    have e5 : dV S t p e (fun o => (n : Int) + 1 ≤ o ∧ o < e) (14, t, p, (n : Int)) 5 = S (14, t, p, (n : Int)) 5 := dV_n (fun g => by have := g.2.1.1; simp only at this; omega)
    have en : ∀ f, f ≠ 5 → dV S t p e (fun o => (n : Int) + 1 ≤ o ∧ o < e) (14, t, p, (n : Int)) f = S (14, t, p, (n : Int)) f := fun f hf => dV_n (fun g => hf g.2.2)
    have hfacts : mS s.1 (mi s.1 t p n) = S (14, t, p, n) 4 ∧ s.1 (54, 0, 0, 0) (mi s.1 t p n) = S (14, t, p, n) 0 ∧ s.1 (58, 0, 0, 0) (mi s.1 t p n) = S (14, t, p, n) 5 := by
      by_cases hb : b = 0
      · rw [i2 hb]
        obtain ⟨c1, c2, c3, c4, c5, c6, c7, c8⟩ := hX.1.C t p n ht hp ho
        exact ⟨c7, c4, c8⟩
      · obtain ⟨c1, c2, c3, c4, c5, c6, c7, c8⟩ := (i1 hb).1.1.C t p n ht hp ho
        rw [en 4 (by decide)] at c7
        rw [en 0 (by decide)] at c4
        rw [e5] at c8
        exact ⟨c7, c4, c8⟩
    obtain ⟨h4, h0, h5⟩ := hfacts
    have hsum : sm (dC S t p e) n e = dC S t p e n + sm (dC S t p e) (n + 1) e := sm_step (by omega)
    refine ih (mc1 P b (t * 4 + p) n s) (by omega) ?_
    unfold mc1
    rw [show s.1 (59, 0, 0, 0) ((t * 4 + p) * 80 + (n : Int)) = mi s.1 t p n from rfl, h4, h0, h5]
    by_cases hA : ¬ S (14, t, p, n) 4 = 0 ∨ S (14, t, p, n) 0 = -1
    · rw [if_pos hA]
      have hD : ¬ zod S t p n e := fun q => hA.elim (fun g => g q.1.1) (fun g => q.2.1 g)
      refine ⟨fun hb => ?_, i2, fun k hk => ?_, ?_⟩
      · rw [dV_cg (V' := fun o => (n : Int) + 1 ≤ o ∧ o < e) (fun q hq => ⟨fun g => ⟨by
          by_cases hqn : q = n
          · subst hqn; exact absurd hq hD
          · omega, g.2⟩, fun g => ⟨by omega, g.2⟩⟩)]
        exact i1 hb
      · rw [i3 k hk]
        constructor
        · rintro ⟨q, q1, q2⟩
          exact ⟨q, ⟨by omega, q1.2⟩, q2⟩
        · rintro ⟨q, q1, q2, q3⟩
          refine ⟨q, ⟨?_, q1.2⟩, q2, q3⟩
          by_cases hqn : q = n
          · subst hqn
            exact absurd hA (fun g => g.elim (fun g => g q2) (fun g => hk (by rw [← q3, g])))
          · omega
      · rw [i4, hsum]
        unfold dC
        rw [if_neg hD]
        omega
    · rw [if_neg hA]
      have hs4 : S (14, t, p, n) 4 = 0 := Classical.byContradiction fun g => hA (Or.inl g)
      have hk0 : ¬ S (14, t, p, n) 0 = -1 := fun g => hA (Or.inr g)
      have hzl : ¬ s.2.1 (S (14, t, p, n) 0) = 0 ↔ zlt S t p n e := by
        rw [i3 _ hk0, zlt_iff (by omega)]
      have hF : ∀ k, ¬ k = -1 → (¬ zup s.2.1 (S (14, t, p, n) 0) 1 k = 0 ↔ ∃ q, ((n : Int) ≤ q ∧ q < e) ∧ S (14, t, p, q) 4 = 0 ∧ S (14, t, p, q) 0 = k) := fun k hk => by
        show ¬ (if k = S (14, t, p, n) 0 then 1 else s.2.1 k) = 0 ↔ _
        by_cases hkk : k = S (14, t, p, n) 0
        · rw [if_pos hkk]
          exact ⟨fun _ => ⟨n, ⟨by omega, by omega⟩, hs4, hkk.symm⟩, fun _ => by omega⟩
        · rw [if_neg hkk, i3 k hk]
          constructor
          · rintro ⟨q, q1, q2⟩
            exact ⟨q, ⟨by omega, q1.2⟩, q2⟩
          · rintro ⟨q, q1, q2, q3⟩
            refine ⟨q, ⟨?_, q1.2⟩, q2, q3⟩
            by_cases hqn : q = n
            · subst hqn
              exact absurd q3.symm hkk
            · omega
      by_cases hB : ¬ s.2.1 (S (14, t, p, n) 0) = 0 ∧ S (14, t, p, n) 5 = 0
      · rw [if_pos hB]
        have hD : zod S t p n e := ⟨⟨hs4, hB.2⟩, hk0, hzl.mp hB.1⟩
        refine ⟨fun hb => ?_, fun hb => ?_, hF, ?_⟩
        · dsimp only
          rw [if_neg hb]
          obtain ⟨j1, j2, j3⟩ := i1 hb
          refine ⟨?_, mdr_W j2, j3.tr (mdr_at j2.q.1.2.1).2.1⟩
          rw [← dV_st hD (V := fun o => (n : Int) + 1 ≤ o ∧ o < e) (V' := fun o => (n : Int) ≤ o ∧ o < e) (fun q => by omega)]
          exact r_dr j1 j2 ht hp ho rfl
        · dsimp only
          rw [if_pos hb]
          exact i2 hb
        · dsimp only
          rw [i4, hsum]
          unfold dC
          rw [if_pos hD]
          omega
      · rw [if_neg hB]
        have hD : ¬ zod S t p n e := fun q => hB ⟨hzl.mpr q.2.2, q.1.2⟩
        refine ⟨fun hb => ?_, i2, hF, ?_⟩
        · rw [dV_cg (V' := fun o => (n : Int) + 1 ≤ o ∧ o < e) (fun q hq => ⟨fun g => ⟨by
            by_cases hqn : q = n
            · subst hqn; exact absurd hq hD
            · omega, g.2⟩, fun g => ⟨by omega, g.2⟩⟩)]
          exact i1 hb
        · dsimp only
          rw [i4, hsum]
          unfold dC
          rw [if_neg hD]
          omega
theorem r_cw (hX : xX P S M) (hV : zWM P M) {b t p c : Int} (ht : inT P t) (hp : inP P t p) : (¬ b = 0 → xX P (lp (zdr t p (zse P S t p)) 0 (zse P S t p) (S, 0)).1 (mcw P b (t * 4 + p) (M, c)).1 ∧ zWM P (mcw P b (t * 4 + p) (M, c)).1 ∧ fr dM M (mcw P b (t * 4 + p) (M, c)).1) ∧ (b = 0 → (mcw P b (t * 4 + p) (M, c)).1 = M) ∧ (mcw P b (t * 4 + p) (M, c)).2 = c + sm (dC S t p (zse P S t p)) 0 (zse P S t p) ∧ (lp (zdr t p (zse P S t p)) 0 (zse P S t p) (S, 0)).2 = sm (dC S t p (zse P S t p)) 0 (zse P S t p) ∧ fr dS S (lp (zdr t p (zse P S t p)) 0 (zse P S t p) (S, 0)).1 := by
  have hm := hV.qm ht hp
  have hle : 0 ≤ zse P S t p ∧ zse P S t p ≤ P 2 t p := fi_le hm.1
  have e1 : mEn M (t * 4 + p) = zse P S t p := r_se hX.1.C hV ht hp
  rw [dV_up hle.1]
  have key := r_cN hX hV (b := b) (c := c) ht hp hle.2 (zse P S t p).toNat (M, fun _ => 0, c) (by omega) ⟨fun _ => ⟨?_, hV, fr.rf⟩, fun _ => rfl, fun k hk => ⟨fun q => absurd rfl q, fun q => ?_⟩, ?_⟩
  · unfold mcw
    dsimp only
    rw [e1]
    refine ⟨key.1, key.2.1, key.2.2, rfl, fun k f hk => dV_n (fun q => ?_)⟩
    rw [q.1, q.2.2] at hk
    exact Bool.noConfusion (show true = false from hk)
  · have : dV S t p (zse P S t p) (fun o => ((zse P S t p).toNat : Int) ≤ o ∧ o < zse P S t p) = S := by
      funext k f
      exact dV_n (fun q => by have q1 : ((zse P S t p).toNat : Int) ≤ k.2.2.2 ∧ k.2.2.2 < zse P S t p := q.2.1; omega)
    rw [this]
    exact hX
  · obtain ⟨q1, q2, -⟩ := q
    omega
  · dsimp only
    rw [sm_end (by omega)]
    omega
theorem dS_se {S' : zS} (h : fr dS S S') {t p : Int} : zse P S' t p = zse P S t p := by
  have e : (fun o => S' (14, t, p, o) 4 = 2) = fun o => S (14, t, p, o) 4 = 2 := by
    funext o
    rw [h (14, t, p, o) 4 rfl]
  unfold zse
  by_cases hn : 0 ≤ P 2 t p
  · exact fi_congr hn (fun o _ _ => by rw [h (14, t, p, o) 4 rfl])
  · rw [fi_end (by omega), fi_end (by omega)]
theorem r_cl (hX : xX P S M) (hV : zWM P M) {b t : Int} (ht : inT P t) : (¬ b = 0 → xX P (lp (ztr P t) 0 (P 1 t 0) (S, 0)).1 (mcl P b t (M, 0)).1 ∧ zWM P (mcl P b t (M, 0)).1 ∧ fr dM M (mcl P b t (M, 0)).1 ∧ fr dS S (lp (ztr P t) 0 (P 1 t 0) (S, 0)).1 ∧ (mcl P b t (M, 0)).2 = (lp (ztr P t) 0 (P 1 t 0) (S, 0)).2) ∧ (b = 0 → (mcl P b t (M, 0)).2 = sm (fun p => ztc P S t p) 0 (P 1 t 0)) := by
  have hN := hV.qt ht
  unfold mcl
  rw [lp_sh0]
  refine ⟨fun hb => ?_, fun hb => ?_⟩
  · exact lp_ind2 (f := ztr P t) (F := fun p => mcw P b (t * 4 + p)) (fun _ (s : zS × Int) (m : zS × Int) => xX P s.1 m.1 ∧ zWM P m.1 ∧ fr dM M m.1 ∧ fr dS S s.1 ∧ m.2 = s.2) _ 0 (P 1 t 0) (S, 0) (M, 0) (by omega) rfl ⟨hX, hV, fr.rf, fr.rf, rfl⟩ (fun p s m h1 h2 hs => by
      obtain ⟨i1, i2, i3, i4, i5⟩ := hs
      obtain ⟨k1, k2, k3, k4, k5⟩ := r_cw i1 i2 (b := b) (c := m.2) ht ⟨h1, h2⟩
      obtain ⟨k6, k7, k8⟩ := k1 hb
      unfold ztr
      refine ⟨k6, k7, i3.tr k8, i4.tr k5, ?_⟩
      show (mcw P b (t * 4 + p) (m.1, m.2)).2 = s.2 + _
      rw [k3, k4, i5])
  · have key := lp_ind2 (f := fun p (s : Int) => s + ztc P S t p) (F := fun p => mcw P b (t * 4 + p)) (fun _ (s : Int) (m : zS × Int) => m = (M, s)) _ 0 (P 1 t 0) 0 (M, 0) (by omega) rfl rfl (fun p s m h1 h2 hs => by
      subst hs
      obtain ⟨k1, k2, k3, k4, k5⟩ := r_cw hX hV (b := b) (c := s) ht ⟨h1, h2⟩
      show mcw P b (t * 4 + p) (M, s) = (M, s + ztc P S t p)
      have e1 := k2 hb
      have e2 : (mcw P b (t * 4 + p) (M, s)).2 = s + ztc P S t p := k3
      exact Prod.ext e1 e2)
    rw [key, lp_sm _ _ _ _ rfl]
    exact Int.zero_add _
theorem o_clean (h : xJ P S M) {t : Int} (ht : inT P t) : xJ P (zkA P (lp (ztr P t) 0 (P 1 t 0) (S, 0)).1) (msa P (mcl P 1 t (M, 0)).1) ∧ (mcl P 1 t (M, 0)).2 = (lp (ztr P t) 0 (P 1 t 0) (S, 0)).2 := by
  obtain ⟨hX, hL, hZ, hY, hW, hV, hP⟩ := id h
  obtain ⟨k1, k2, k3, k4, k5⟩ := (r_cl hX hV (b := 1) ht).1 (by decide)
  have hW1 := ztr_W hP ht (m := 0) hW
  refine ⟨?_, k5⟩
  generalize (lp (ztr P t) 0 (P 1 t 0) (S, 0)).1 = T at k1 k4 hW1 ⊢
  generalize (mcl P 1 t (M, 0)).1 = N at k1 k2 k3 ⊢
  have zk : zfr (fun n => n == 14) S T := fun k f hk => k4 k f (by
    show (k.1 == 14 && f == 5) = false
    have hk' : (k.1 == 14) = false := hk
    rw [hk']
    rfl)
  obtain ⟨j1, j2, j3⟩ := r_sa k1 k2
  have L1 : rL T N := rL_fr (fun k f hk => zk _ _ (by rcases hk with e | e <;> rw [e] <;> rfl)) (k3 _ _ rfl) (fun f => k3 _ _ rfl) hL
  have Y1 : xY P T := xY_fr5 (zk _ _ rfl) (fun t f => zk _ _ rfl) (fun g f => zk _ _ rfl) (fun g p => zk _ _ rfl) (fun g p o hg hp => by rw [zk _ _ rfl, zk (20, g, p, 0) _ rfl]; exact hY.2.1 g p o hg hp) hY
  exact ⟨j1, rL_kA L1, j2, xY_kA k2 Y1, zkA_W hP hW1, j3, hP⟩
end CLEAN
