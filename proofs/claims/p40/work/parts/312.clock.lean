/-! ===== setClock: class and model act alike ===== -/
theorem lp_sh {σ : Type} {F : Int → σ → σ} {d n : Int} : ∀ (k : Nat) (a : Int) (s : σ), (n - a).toNat = k → lp F (d + a) (d + n) s = lp (fun o => F (d + o)) a n s := by
  intro k
  induction k with
  | zero => intro a s hk; rw [lp_end (by omega), lp_end (by omega)]
  | succ k ih =>
    intro a s hk
    rw [lp_step (by omega), lp_step (f := fun o => F (d + o)) (by omega), show d + a + 1 = d + (a + 1) by omega]
    exact ih (a + 1) _ (by omega)
theorem lp_sh0 {σ : Type} {F : Int → σ → σ} {d n : Int} {s : σ} : lp F d (d + n) s = lp (fun o => F (d + o)) 0 n s := by
  have h := lp_sh (F := F) (d := d) (n := n) _ 0 s rfl
  rw [show d + 0 = d by omega] at h
  exact h
def nM (k : zK) (f : Int) : Bool := k.1 == 40 && (f == 0 || (f == 1 || (f == 2 || f == 3)))
def k0 (n : Nat) : Bool := n == 0
section CLOCK
variable {P : zP} {S M : zS}
/-- numbers of the whole change -/
theorem xX_num {S' M' : zS} (hS : zfr k0 S S') (hM : fr nM M M') (hA : rA S' M') (h : xX P S M) : xX P S' M' := by
  obtain ⟨⟨⟨a1, a2, a3, a4⟩, a5, a6, a7, a8⟩, a9, b1, b2, b3, b4, b5⟩ := h
  refine ⟨⟨⟨hA, ?_, ?_, ?_⟩, ?_, ?_, ?_, ?_⟩, ?_, ?_, ?_, ?_, ?_, ?_⟩
  · show rB P (rq k0 S') (rz nM M')
    rw [rq_eq hS, rz_eq hM]
    exact a2
  · show rC P (rq k0 S') (rz nM M')
    rw [rq_eq hS, rz_eq hM]
    exact a3
  · show rT P (rq k0 S') (rz nM M')
    rw [rq_eq hS, rz_eq hM]
    exact a4
  · show rD (rq k0 S') (rz nM M')
    rw [rq_eq hS, rz_eq hM]
    exact a5
  · show rE P (rz nM M')
    rw [rz_eq hM]
    exact a6
  · show rG P (rq k0 S') (rz nM M')
    rw [rq_eq hS, rz_eq hM]
    exact a7
  · show rJa P (rz nM M')
    rw [rz_eq hM]
    exact a8
  · show rF P (rq k0 S') (rz nM M')
    rw [rq_eq hS, rz_eq hM]
    exact a9
  · show rH P (rq k0 S') (rz nM M')
    rw [rq_eq hS, rz_eq hM]
    exact b1
  · show rI P (rz nM M')
    rw [rz_eq hM]
    exact b2
  · show rJh P (rz nM M')
    rw [rz_eq hM]
    exact b3
  · show rK P (rq k0 S')
    rw [rq_eq hS]
    exact b4
  · show rN (rz nM M')
    rw [rz_eq hM]
    exact b5
theorem xY_fr5 {S' : zS} (h0 : S' (0, 0, 0, 0) 5 = S (0, 0, 0, 0) 5) (h10 : ∀ t f, S' (10, t, 0, 0) f = S (10, t, 0, 0) f) (h17 : ∀ g f, S' (17, g, 0, 0) f = S (17, g, 0, 0) f) (h18 : ∀ g p, S' (18, g, p, 0) 4 = S (18, g, p, 0) 4) (h5 : s5 P S') (h : xY P S) : xY P S' := by
  obtain ⟨h1, -, h3⟩ := h
  refine ⟨fun g p hg hp => ?_, h5, fun t x ht hx1 hx2 => by rw [h0, h10]; exact h3 t x ht hx1 hx2⟩
  rw [h18, h1 g p hg hp]
  exact zsr_cg rfl (fun r _ _ => by
    show ¬ S (17, g, 0, 0) r = _ ↔ ¬ S' (17, g, 0, 0) r = _
    rw [h17])
theorem xY_kA (hV : zWM P M) (h : xY P S) : xY P (zkA P S) := by
  have hq := hV.q
  refine lp_ind (f := zkG P) (fun _ s => xY P s) _ 0 (P 3 0 0) S hq.1.2.1 rfl h (fun g s h1 h2 hs => ?_)
  have hg : inG P g := ⟨h1, h2⟩
  have hN := hV.qt (hV.qg hg)
  exact lp_ind (f := zkf P g) (fun _ s => xY P s) _ 0 (P 1 (P 4 g 0) 0) s (by omega) rfl hs (fun p s h3 h4 hs => xY_ku (hV.qm (hV.qg hg) ⟨h3, h4⟩).1 hs)
theorem rL_kA (h : rL S M) : rL (zkA P S) (msa P M) := rL_fr (fun k f hk => zkA_fr (K := k189) rfl rfl rfl _ _ (by rcases hk with e | e <;> rw [e] <;> rfl)) msa_40 (fun _ => msa_73) h
theorem zB_19n {g p o g' p' o' : Int} (h : ¬ (g' = g ∧ p' = p ∧ o' = o)) : zB S g p o (19, g', p', 0) o' = S (19, g', p', 0) o' := by
  have hl : ∀ (T : zS) (a b c d e : Int), zlw T a b c d e (19, g', p', 0) o' = T (19, g', p', 0) o' := fun T a b c d e => zlw_fr (K := fun n => n == 1 || n == 2) rfl rfl _ _ rfl
  have hz : ∀ v, zst S (19, g, p, 0) o v (19, g', p', 0) o' = S (19, g', p', 0) o' := fun v => by
    rw [zst_at, if_neg (fun q => h (by obtain ⟨q1, q2⟩ := q; cases q1; exact ⟨rfl, rfl, q2⟩))]
  unfold zB zgb
  split
  · rw [hl, hl, hz]
  · rw [hl, zst_k _ _ _ _ (by simp), hz]
/-- what holds as those overdue are nacked -/
def cI (P : zP) (S0 : zS) (s m : zS) : Prop := xX P s m ∧ rL s m ∧ zWS P s ∧ zWM P m ∧ s1 P s ∧ s5 P s ∧ zfr kB S0 s
theorem r_v1 {S0 : zS} {g p o c : Int} {s : zS × Int} {m : zS × Int} (hi : cI P S0 s.1 m.1 ∧ m.2 = c + s.2) (hg : inG P g) (hp : inQ P g p) (ho : inM P (P 4 g 0) p o) : cI P S0 (zv1 g p o s).1 (mv1 g (P 4 g 0 * 4 + p) o m).1 ∧ (mv1 g (P 4 g 0 * 4 + p) o m).2 = c + (zv1 g p o s).2 := by
  obtain ⟨⟨i1, i2, i3, i4, i5, i6, i7⟩, i8⟩ := hi
  have hn := i5 g p o hg hp ho
  obtain ⟨d1, d2, d3⟩ := cell_eq i1.2.2 hg hp ho hn
  have hA := i1.1.A
  have hiff : mov m.1 (g * 80 + mi m.1 (P 4 g 0) p o) ↔ zov s.1 g p o := by
    show (m.1 (69, 0, 0, 0) (g * 80 + mi m.1 (P 4 g 0) p o) = 1 ∧ ¬ m.1 (40, 0, 0, 0) 1 < m.1 (71, 0, 0, 0) (g * 80 + mi m.1 (P 4 g 0) p o) + m.1 (40, 0, 0, 0) 3) ↔ (s.1 (19, g, p, 0) o = 1 ∧ s.1 (0, 0, 0, 0) 8 ≤ s.1 (0, 0, 0, 0) 6 - s.1 (21, g, p, 0) o)
    rw [d1, d3, hA.1, hA.2.2.1]
    exact ⟨fun q => ⟨q.1, by have := q.2; omega⟩, fun q => ⟨q.1, by have := q.2; omega⟩⟩
  unfold zv1 mv1
  by_cases hc : zov s.1 g p o
  · rw [if_pos hc, if_pos (hiff.mpr hc)]
    have hd : s.1 (14, P 4 g 0, p, o) 5 = 0 := Classical.byContradiction fun q => hn ⟨q, Or.inl hc.1⟩
    obtain ⟨n1, n2, -⟩ := r_nk i1 i2 i3 i4 hg hp ho rfl hd
    have hq := i4.q
    have hT := i4.qg hg
    have hN := i4.qt hT
    have hmm := i4.qm hT hp
    refine ⟨⟨n1, n2, zB_W ⟨by omega, by omega⟩ ⟨by omega, by omega⟩ ⟨by omega, by omega⟩ i3, mnk_W i4 ⟨by omega, by omega⟩, fun g' p' o' hg' hp' ho' q => ?_, zB_5 (i3.c g p o).1.2 hc.1 i6, i7.tr (zB_fr rfl rfl rfl rfl)⟩, ?_⟩
    · have q1 : ¬ zB s.1 g p o (14, P 4 g' 0, p', o') 5 = 0 ∧ (zB s.1 g p o (19, g', p', 0) o' = 1 ∨ zB s.1 g p o (19, g', p', 0) o' = 2) := q
      rw [zB_k (k := (14, P 4 g' 0, p', o')) rfl] at q1
      by_cases hcc : g' = g ∧ p' = p ∧ o' = o
      · obtain ⟨rfl, rfl, rfl⟩ := hcc
        exact q1.1 hd
      · rw [zB_19n hcc] at q1
        exact i5 g' p' o' hg' hp' ho' q1
    · show m.2 + 1 = c + (s.2 + 1)
      omega
  · rw [if_neg hc, if_neg (fun q => hc (hiff.mp q))]
    exact ⟨⟨i1, i2, i3, i4, i5, i6, i7⟩, i8⟩
theorem r_v3 {S0 : zS} {g : Int} {s : zS × Int} {m : zS × Int} (hi : cI P S0 s.1 m.1 ∧ m.2 = s.2) (hg : inG P g) : cI P S0 (zv3 P g s).1 (mv3 P g m).1 ∧ (mv3 P g m).2 = (zv3 P g s).2 := by
  have hV := hi.1.2.2.2.1
  have hT := hV.qg hg
  have hN := hV.qt hT
  unfold zv3 mv3
  rw [lp_sh0]
  have key := lp_ind2 (f := zv2 P g) (F := fun p => mv2 P g (P 4 g 0 * 4 + p)) (fun _ (s' : zS × Int) (m' : zS × Int) => cI P S0 s'.1 m'.1 ∧ m'.2 = s.2 + s'.2) _ 0 (P 1 (P 4 g 0) 0) (s.1, 0) m (by omega) rfl ⟨hi.1, by show m.2 = s.2 + 0; rw [hi.2]; omega⟩ (fun p s' m' h1 h2 hs => ?_)
  · exact key
  · have hp : inQ P g p := ⟨h1, h2⟩
    have hmm := hV.qm hT hp
    show cI P S0 (lp (zv1 g p) 0 (P 2 (P 4 g 0) p) s').1 (lp (mv1 g (P 4 g 0 * 4 + p)) 0 (P 2 (P 4 g 0) (P 4 g 0 * 4 + p - P 4 g 0 * 4)) m').1 ∧ (lp (mv1 g (P 4 g 0 * 4 + p)) 0 (P 2 (P 4 g 0) (P 4 g 0 * 4 + p - P 4 g 0 * 4)) m').2 = s.2 + (lp (zv1 g p) 0 (P 2 (P 4 g 0) p) s').2
    rw [show P 4 g 0 * 4 + p - P 4 g 0 * 4 = p by omega]
    exact lp_ind2 (f := zv1 g p) (F := mv1 g (P 4 g 0 * 4 + p)) (fun _ (s' : zS × Int) (m' : zS × Int) => cI P S0 s'.1 m'.1 ∧ m'.2 = s.2 + s'.2) _ 0 (P 2 (P 4 g 0) p) s' m' hmm.1 rfl hs (fun o s'' m'' h3 h4 hs' => r_v1 hs' hg hp ⟨h3, h4⟩)
def kD (n : Nat) : Bool := kB n || (n == 11 || n == 14)
/-- what holds as old ones are dropped -/
def cJ (P : zP) (S0 : zS) (s m : zS) : Prop := xX P s m ∧ rL s m ∧ zWS P s ∧ zWM P m ∧ s5 P s ∧ zfr kD S0 s
theorem r_v4 {S0 : zS} {t x : Int} {s m : zS} (hi : cJ P S0 s m) (hP' : zWP P) (ht : inT P t) (hx : S0 (0, 0, 0, 0) 6 = x) : cJ P S0 (zv4 P x t s) (mv5 P t m) := by
  obtain ⟨i1, i2, i3, i4, i5, i6⟩ := id hi
  have hN := i4.qt ht
  have hP : ∀ p, inP P t p → 0 ≤ P 2 t p := fun p hp => (i4.qm ht hp).1
  have e46 := (i1.1.B t ht).1
  unfold zv4 mv5
  by_cases hc : s (8, t, 0, 0) 3 = 0
  · rw [if_pos hc, lp_id _ _ _ _ rfl (fun p h1 h2 => by
      unfold mv4
      exact mdo_stop _ (fun q => by have := q.1.1; omega))]
    exact hi
  · rw [if_neg hc]
    have b46 := i4.b46 t
    have key := lp_ind2 (f := ztd P t x (s (8, t, 0, 0) 3)) (F := mv4 P t) (fun _ s' m' => cJ P S0 s' m' ∧ s' (8, t, 0, 0) 3 = s (8, t, 0, 0) 3) _ 0 (P 1 t 0) s m (by omega) rfl ⟨hi, rfl⟩ (fun p s' m' h1 h2 hs => ?_)
    · exact key.1
    · obtain ⟨⟨j1, j2, j3, j4, j5, j6⟩, j7⟩ := hs
      have hp : inP P t p := ⟨h1, h2⟩
      have f46 := (j1.1.B t ht).1
      have f47 := (j1.1.B t ht).2.2.2 p hp
      have hs' := j3.s ht hp
      unfold ztd mv4
      rw [f46, f47, j7]
      have hx' : s' (0, 0, 0, 0) 6 = x := by rw [j6 _ _ rfl]; exact hx
      have g1 := r_do ht hp (x := x) (y := s (8, t, 0, 0) 3) (by omega) (P 2 t p - s' (11, t, p, 0) 1).toNat s' m' j1 j4 j3 hx'
      have fS : zfr (fun n => n == 11 || n == 14) s' (zdo P t p x (s (8, t, 0, 0) 3) (P 2 t p - s' (11, t, p, 0) 1).toNat s') := zdo_fr rfl rfl _ _
      have fM : zfr (fun n => n == 47 || (n == 58 || (n == 69 || n == 70))) m' (mdo P t p (s (8, t, 0, 0) 3) (P 2 t p - s' (11, t, p, 0) 1).toNat m') := mdo_fr rfl rfl rfl rfl _ _
      have hWP : zWS P (zdo P t p x (s (8, t, 0, 0) 3) (P 2 t p - s' (11, t, p, 0) 1).toNat s') := zdo_W hP' ht hp _ _ j3
      refine ⟨⟨g1, rL_fr (fun k f hk => fS _ _ (by rcases hk with e | e <;> rw [e] <;> rfl)) (fM _ _ rfl) (fun f => fM _ _ rfl) j2, hWP, mdo_W _ _ j4 ht hp, fun g' p' o' hg' hp' => ?_, j6.tr (fS.mono (fun n h => ?_))⟩, ?_⟩
      · rw [fS _ _ rfl, fS (20, g', p', 0) _ rfl]
        exact j5 g' p' o' hg' hp'
      · simp only [kD, Bool.or_eq_true, beq_iff_eq] at h ⊢
        omega
      · rw [fS _ _ rfl]
        exact j7
theorem o_clock (h : xJ P S M) {x : Int} (hx : S (0, 0, 0, 0) 6 < x ∧ x ≤ 9999) : xJ P (zkA P (lp (zv4 P x) 0 (P 0 0 0) (lp (zv3 P) 0 (P 3 0 0) (zst S (0, 0, 0, 0) 6 x, 0)).1)) (msa P (lp (mv5 P) 0 (P 0 0 0) (lp (mv3 P) 0 (P 3 0 0) (zst M (40, 0, 0, 0) 1 x, 0)).1)) ∧ (lp (zv3 P) 0 (P 3 0 0) (zst S (0, 0, 0, 0) 6 x, 0)).2 = (lp (mv3 P) 0 (P 3 0 0) (zst M (40, 0, 0, 0) 1 x, 0)).2 := by
  obtain ⟨hX, hL, hZ, hY, hW, hV, hP⟩ := id h
  have hq := hV.q
  have hk := hW.k
  have hA := hX.1.A
  have hX0 : xX P (zst S (0, 0, 0, 0) 6 x) (zst M (40, 0, 0, 0) 1 x) := xX_num (zfr.rf.st rfl) (fr.rf.st rfl) (by
    refine ⟨by rw [zst_s, zst_s], ?_, ?_, ?_, ?_⟩
    · rw [zst_f _ _ _ (by decide), zst_f _ _ _ (by decide)]; exact hA.2.1
    · rw [zst_f _ _ _ (by decide), zst_f _ _ _ (by decide)]; exact hA.2.2.1
    · rw [zst_f _ _ _ (by decide), zst_f _ _ _ (by decide)]; exact hA.2.2.2.1
    · rw [zst_f _ _ _ (by decide), zst_f _ _ _ (by decide)]; exact hA.2.2.2.2) hX
  have hW0 : zWS P (zst S (0, 0, 0, 0) 6 x) := hW.s0 ⟨by omega, by omega⟩ ⟨fun _ => ⟨by omega, by omega⟩, fun q => by omega, fun q => by omega⟩
  have hV0 : zWM P (zst M (40, 0, 0, 0) 1 x) := hV.s40_1 ⟨by omega, by omega⟩
  have hL0 : rL (zst S (0, 0, 0, 0) 6 x) (zst M (40, 0, 0, 0) 1 x) := rL_fr (fun k f hk => zst_k _ _ _ _ (fun q => by rw [q] at hk; rcases hk with e | e <;> cases e)) (zst_f _ _ _ (by decide)) (fun f => zst_k _ _ _ _ (by simp)) hL
  have f0 : zfr k0 S (zst S (0, 0, 0, 0) 6 x) := zfr.rf.st rfl
  have hs1 : s1 P (zst S (0, 0, 0, 0) 6 x) := fun g p o hg hp ho q => h.s1 g p o hg hp ho (by
    have q1 : ¬ zst S (0, 0, 0, 0) 6 x (14, P 4 g 0, p, o) 5 = 0 ∧ (zst S (0, 0, 0, 0) 6 x (19, g, p, 0) o = 1 ∨ zst S (0, 0, 0, 0) 6 x (19, g, p, 0) o = 2) := q
    rw [f0 _ _ rfl, f0 (19, g, p, 0) _ rfl] at q1
    exact q1)
  have hs5 : s5 P (zst S (0, 0, 0, 0) 6 x) := fun g p o hg hp => by
    rw [f0 _ _ rfl, f0 (20, g, p, 0) _ rfl]
    exact hY.2.1 g p o hg hp
  have e6 : zst S (0, 0, 0, 0) 6 x (0, 0, 0, 0) 6 = x := zst_s _ _ _ _
  have e5 : zst S (0, 0, 0, 0) 6 x (0, 0, 0, 0) 5 = S (0, 0, 0, 0) 5 := zst_f _ _ _ (by decide)
  generalize zst S (0, 0, 0, 0) 6 x = S0 at hX0 hW0 hL0 f0 hs1 hs5 e6 e5 ⊢
  generalize zst M (40, 0, 0, 0) 1 x = M0 at hX0 hV0 hL0 ⊢
  have k1 := lp_ind2 (f := zv3 P) (F := mv3 P) (fun _ (s : zS × Int) (m : zS × Int) => cI P S0 s.1 m.1 ∧ m.2 = s.2) _ 0 (P 3 0 0) (S0, 0) (M0, 0) hq.1.2.1 rfl ⟨⟨hX0, hL0, hW0, hV0, hs1, hs5, zfr.rf⟩, rfl⟩ (fun g s m h1 h2 hs => r_v3 hs ⟨h1, h2⟩)
  obtain ⟨⟨i1, i2, i3, i4, i5, i6, i7⟩, i8⟩ := k1
  have k2 := lp_ind2 (f := zv4 P x) (F := mv5 P) (fun _ s m => cJ P S0 s m) _ 0 (P 0 0 0) (lp (zv3 P) 0 (P 3 0 0) (S0, 0)).1 (lp (mv3 P) 0 (P 3 0 0) (M0, 0)).1 hq.1.1.1 rfl ⟨i1, i2, i3, i4, i6, i7.mono (fun n h => by simp only [kD, Bool.or_eq_true]; exact Or.inl h)⟩ (fun t s m h1 h2 hs => r_v4 hs hP ⟨h1, h2⟩ e6)
  refine ⟨?_, i8.symm⟩
  generalize lp (zv4 P x) 0 (P 0 0 0) (lp (zv3 P) 0 (P 3 0 0) (S0, 0)).1 = T at k2 ⊢
  generalize lp (mv5 P) 0 (P 0 0 0) (lp (mv3 P) 0 (P 3 0 0) (M0, 0)).1 = N at k2 ⊢
  obtain ⟨j1, j2, j3, j4, j5, j6⟩ := k2
  obtain ⟨l1, l2, l3⟩ := r_sa j1 j4
  have hYT : xY P T := xY_fr5 (by rw [j6 _ _ rfl]; exact e5) (fun t f => by rw [j6 _ _ rfl, f0 _ _ rfl]) (fun g f => by rw [j6 _ _ rfl, f0 _ _ rfl]) (fun g p => by rw [j6 _ _ rfl, f0 _ _ rfl]) j5 hY
  exact ⟨l1, rL_kA j2, l2, xY_kA j4 hYT, zkA_W hP j3, l3, hP⟩
end CLOCK
