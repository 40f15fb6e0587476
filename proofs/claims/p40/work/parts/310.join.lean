/-! ===== who has which partition: class and model share alike; join ===== -/
theorem lp_cg {σ : Type} {f f' : Int → σ → σ} : ∀ (k : Nat) (a n : Int) (s : σ), (n - a).toNat = k → (∀ o s, a ≤ o → o < n → f o s = f' o s) → lp f a n s = lp f' a n s := by
  intro k
  induction k with
  | zero => intro a n s hk _; rw [lp_end (by omega), lp_end (by omega)]
  | succ k ih =>
    intro a n s hk h
    rw [lp_step (f := f) (by omega), lp_step (f := f') (by omega), h a s (by omega) (by omega)]
    exact ih (a + 1) n _ (by omega) (fun o s g1 g2 => h o s (by omega) g2)
def shT (b0 b1 b2 b3 b4 b5 : Bool) : zS := fun _ f => if f = 0 then (if b0 = true then 1 else 0) else if f = 1 then (if b1 = true then 1 else 0) else if f = 2 then (if b2 = true then 1 else 0) else if f = 3 then (if b3 = true then 1 else 0) else if f = 4 then (if b4 = true then 1 else 0) else (if b5 = true then 1 else 0)
def shP (N : Int) : zP := fun _ _ _ => N
def shA : Bool := [false, true].all fun b0 => [false, true].all fun b1 => [false, true].all fun b2 => [false, true].all fun b3 => [false, true].all fun b4 => [false, true].all fun b5 => [1, 2, 3, 4].all fun N => [0, 1, 2, 3].all fun p => decide (N ≤ p) || decide (msh (shP N) (shT b0 b1 b2 b3 b4 b5) 0 p = zsr (shP N) (shT b0 b1 b2 b3 b4 b5) 0 p (-1))
set_option maxRecDepth 100000 in
theorem shA_t : shA = true := by decide +kernel
theorem bool_mem (b : Bool) : b ∈ [false, true] := by cases b <;> simp
theorem sh_all (b0 b1 b2 b3 b4 b5 : Bool) {N p : Int} (hN : 1 ≤ N ∧ N ≤ 4) (hp : 0 ≤ p ∧ p < N) : msh (shP N) (shT b0 b1 b2 b3 b4 b5) 0 p = zsr (shP N) (shT b0 b1 b2 b3 b4 b5) 0 p (-1) := by
  have h0 := shA_t
  unfold shA at h0
  have h1 := List.all_eq_true.mp h0 b0 (bool_mem b0)
  have h2 := List.all_eq_true.mp h1 b1 (bool_mem b1)
  have h3 := List.all_eq_true.mp h2 b2 (bool_mem b2)
  have h4 := List.all_eq_true.mp h3 b3 (bool_mem b3)
  have h5 := List.all_eq_true.mp h4 b4 (bool_mem b4)
  have h6 := List.all_eq_true.mp h5 b5 (bool_mem b5)
  have h7 := List.all_eq_true.mp h6 N (by
    have : N = 1 ∨ N = 2 ∨ N = 3 ∨ N = 4 := by omega
    simpa using this)
  have h8 := List.all_eq_true.mp h7 p (by
    have : p = 0 ∨ p = 1 ∨ p = 2 ∨ p = 3 := by omega
    simpa using this)
  rcases Bool.or_eq_true _ _ ▸ h8 with h9 | h9
  · have := of_decide_eq_true h9
    omega
  · exact of_decide_eq_true h9
theorem shT_at {b : Int → Bool} {k : zK} {r : Int} (hr : 0 ≤ r ∧ r < 6) : shT (b 0) (b 1) (b 2) (b 3) (b 4) (b 5) k r = if b r = true then 1 else 0 := by
  have : r = 0 ∨ r = 1 ∨ r = 2 ∨ r = 3 ∨ r = 4 ∨ r = 5 := by omega
  rcases this with rfl | rfl | rfl | rfl | rfl | rfl <;> rfl
theorem zsr_cg {P P' : zP} {S S' : zS} {g g' p c c' : Int} (hN : P' 1 (P' 4 g' 0) 0 = P 1 (P 4 g 0) 0) (hin : ∀ r, 0 ≤ r → r < 6 → (zin S' g' r c' ↔ zin S g r c)) : zsr P' S' g' p c' = zsr P S g p c := by
  have hc : zcr S' g' c' = zcr S g c := sm_congr _ _ _ rfl (fun r h1 h2 => by
    show (if zin S' g' r c' then (1 : Int) else 0) = if zin S g r c then 1 else 0
    by_cases hz : zin S g r c
    · rw [if_pos hz, if_pos ((hin r h1 h2).mpr hz)]
    · rw [if_neg hz, if_neg (fun q => hz ((hin r h1 h2).mp q))])
  have hN2 : ∀ (n : Nat) (a b r s k : Int), 0 ≤ r → r + n ≤ 6 → zsN S' g' c' p a b n r s k = zsN S g c p a b n r s k := by
    intro n
    induction n with
    | zero => intro a b r s k _ _; rfl
    | succ n ih =>
      intro a b r s k h1 h2
      by_cases hz : zin S g r c
      · rw [zsN_in n hz rfl, zsN_in n ((hin r h1 (by omega)).mpr hz) rfl, ih _ _ _ _ _ (by omega) (by omega)]
      · rw [zsN_out n hz, zsN_out n (fun q => hz ((hin r h1 (by omega)).mp q)), ih _ _ _ _ _ (by omega) (by omega)]
  unfold zsr
  rw [hc, hN, hN2 _ _ _ _ _ _ (by omega) (by omega)]
theorem msh_cg {P P' : zP} {M M' : zS} {g g' : Int} (hN : P' 1 (P' 4 g' 0) 0 = P 1 (P 4 g 0) 0) (h : ∀ r, 0 ≤ r → r < 6 → (M' (68, 0, 0, 0) (g' * 6 + r) = 0 ↔ M (68, 0, 0, 0) (g * 6 + r) = 0)) : msh P' M' g' = msh P M g := by
  have hn : msn M' g' = msn M g := sm_congr _ _ _ rfl (fun r h1 h2 => by
    show (if M' (68, 0, 0, 0) (g' * 6 + r) = 0 then (0 : Int) else 1) = if M (68, 0, 0, 0) (g * 6 + r) = 0 then 0 else 1
    by_cases hz : M (68, 0, 0, 0) (g * 6 + r) = 0
    · rw [if_pos hz, if_pos ((h r h1 h2).mpr hz)]
    · rw [if_neg hz, if_neg (fun q => hz ((h r h1 h2).mp q))])
  unfold msh
  rw [hn, hN, lp_cg (f := ms1 M' g' (P 1 (P 4 g 0) 0 / msn M g) (P 1 (P 4 g 0) 0 % msn M g)) (f' := ms1 M g (P 1 (P 4 g 0) 0 / msn M g) (P 1 (P 4 g 0) 0 % msn M g)) _ 0 6 _ rfl (fun r s h1 h2 => by
    unfold ms1
    by_cases hz : M (68, 0, 0, 0) (g * 6 + r) = 0
    · rw [if_pos hz, if_pos ((h r h1 h2).mpr hz)]
    · rw [if_neg hz, if_neg (fun q => hz ((h r h1 h2).mp q))])]
theorem r_sh {P : zP} {S M : zS} {g p c : Int} (hN : 1 ≤ P 1 (P 4 g 0) 0 ∧ P 1 (P 4 g 0) 0 ≤ 4) (hp : inQ P g p) (hz : ∀ r, 0 ≤ r → r < 6 → (M (68, 0, 0, 0) (g * 6 + r) = 0 ↔ ¬ zin S g r c)) : msh P M g p = zsr P S g p c := by
  have hb : ∀ (r : Int) (k : zK), 0 ≤ r → r < 6 → shT (decide (zin S g 0 c)) (decide (zin S g 1 c)) (decide (zin S g 2 c)) (decide (zin S g 3 c)) (decide (zin S g 4 c)) (decide (zin S g 5 c)) k r = if zin S g r c then 1 else 0 := fun r k h1 h2 => by
    rw [shT_at (b := fun r => decide (zin S g r c)) ⟨h1, h2⟩]
    by_cases hz : zin S g r c
    · rw [if_pos hz, if_pos (decide_eq_true hz)]
    · rw [if_neg hz, if_neg (fun q => hz (of_decide_eq_true q))]
  rw [← zsr_cg (P := P) (P' := shP (P 1 (P 4 g 0) 0)) (S := S) (S' := shT (decide (zin S g 0 c)) (decide (zin S g 1 c)) (decide (zin S g 2 c)) (decide (zin S g 3 c)) (decide (zin S g 4 c)) (decide (zin S g 5 c))) (g := g) (g' := 0) (c := c) (c' := -1) rfl (fun r h1 h2 => ?_),
    ← msh_cg (P := P) (P' := shP (P 1 (P 4 g 0) 0)) (M := M) (M' := shT (decide (zin S g 0 c)) (decide (zin S g 1 c)) (decide (zin S g 2 c)) (decide (zin S g 3 c)) (decide (zin S g 4 c)) (decide (zin S g 5 c))) (g := g) (g' := 0) rfl (fun r h1 h2 => ?_)]
  · exact sh_all _ _ _ _ _ _ hN hp
  · rw [show (0 : Int) * 6 + r = r by omega, hb r _ h1 h2, hz r h1 h2]
    by_cases hq : zin S g r c
    · rw [if_pos hq]
      exact ⟨fun q => by omega, fun q => absurd hq q⟩
    · rw [if_neg hq]
      exact ⟨fun _ => hq, fun _ => rfl⟩
  · show (¬ shT _ _ _ _ _ _ (17, 0, 0, 0) r = (if r = -1 then 1 else 0)) ↔ _
    rw [hb r _ h1 h2, if_neg (show ¬ r = -1 by omega)]
    by_cases hq : zin S g r c
    · rw [if_pos hq]
      exact ⟨fun _ => hq, fun _ => by omega⟩
    · rw [if_neg hq]
      exact ⟨fun q => absurd rfl q, fun q => absurd q hq⟩
section JOIN
variable {P : zP} {S M : zS}
theorem rG_sh (hG : rG P S M) (hV : zWM P M) {g p : Int} (hg : inG P g) (hp : inQ P g p) : msh P M g p = zsr P S g p (-1) := by
  refine r_sh (hV.qt (hV.qg hg)) hp (fun r h1 h2 => ?_)
  show _ ↔ ¬ ¬ S (17, g, 0, 0) r = (if r = -1 then 1 else 0)
  rw [(hG g r hg h1 h2).1, if_neg (show ¬ r = -1 by omega)]
  exact ⟨fun q q2 => q2 q, fun q => Classical.byContradiction q⟩
theorem zht_O {g p x : Int} : cO g p S (zht P S g p x) ∧ zht P S g p x (18, g, p, 0) 4 = x := by
  unfold zht
  by_cases hc : x = S (18, g, p, 0) 4
  · rw [if_pos hc]
    exact ⟨cO.rf, hc.symm⟩
  · rw [if_neg hc]
    have hl : ∀ s : zS, cO g p s (lp (zh1 g p) 0 (P 2 (P 4 g 0) p) s) ∧ zfr k19 s (lp (zh1 g p) 0 (P 2 (P 4 g 0) p) s) := fun s => by
      by_cases hn : 0 ≤ P 2 (P 4 g 0) p
      · exact lp_ind (f := zh1 g p) (fun _ t => cO g p s t ∧ zfr k19 s t) _ 0 _ s hn rfl ⟨cO.rf, zfr.rf⟩ (fun o t _ _ ht => by
          unfold zh1
          split
          · exact ⟨ht.1.tr zfg_c.O, ht.2.tr (zfg_fr rfl rfl)⟩
          · exact ht)
      · rw [lp_end (by omega)]
        exact ⟨cO.rf, zfr.rf⟩
    refine ⟨((cO.rf.st (Or.inl rfl)).tr (hl _).1).st (Or.inl rfl), ?_⟩
    rw [zst_f _ _ _ (by decide), (hl _).2 _ _ rfl, zst_s]
/-- one partition changes hands -/
theorem r_ht (hX : xX P S M) (hL : rL S M) (hV : zWM P M) (hZ : xZ P S) (h5 : s5 P S) {g p x : Int} (hg : inG P g) (hp : inQ P g p) (hx : -1 ≤ x ∧ x ≤ 5) : xX P (zht P S g p x) (if M (67, 0, 0, 0) (g * 4 + p) = x then M else mj2 P g p x M) ∧ rL (zht P S g p x) (if M (67, 0, 0, 0) (g * 4 + p) = x then M else mj2 P g p x M) ∧ zWM P (if M (67, 0, 0, 0) (g * 4 + p) = x then M else mj2 P g p x M) ∧ xZ P (zht P S g p x) ∧ s5 P (zht P S g p x) := by
  have hO := (zht_O (P := P) (S := S) (g := g) (p := p) (x := x)).1
  have e7 := (hX.2.1 g p hg hp).2.2
  have hT := hV.qg hg
  have hmm := hV.qm hT hp
  obtain ⟨t1, t2, t3⟩ := hZ g p hg hp
  unfold zht at hO ⊢
  by_cases hc : x = S (18, g, p, 0) 4
  · rw [if_pos hc, if_pos (by omega)]
    exact ⟨hX, hL, hV, hZ, h5⟩
  · rw [if_neg hc] at hO ⊢
    rw [if_neg (by omega)]
    unfold mj2
    let I : Int → zS → zS → Prop := fun o s m => xX P s m ∧ rL s m ∧ zWM P m ∧ s5 P s ∧ zfr k19 (zst S (18, g, p, 0) 4 x) s ∧ (∀ o', inM P (P 4 g 0) p o' → ¬ (¬ s (14, P 4 g 0, p, o') 5 = 0 ∧ ju s g p o')) ∧ (∀ o', jt s g p o' → jt S g p o')
    have X1 : xX P (zst S (18, g, p, 0) 4 x) (zst M (67, 0, 0, 0) (g * 4 + p) x) := ⟨xa_fr (zfr.rf.st rfl) (fr.rf.st rfl) hX.1, rF_set hX.2.1 hp hV hg (Or.inr (Or.inr ⟨rfl, rfl⟩)), xh_fr (zfr.rf.st rfl) (fr.rf.st rfl) hX.2.2⟩
    have L1 : rL (zst S (18, g, p, 0) 4 x) (zst M (67, 0, 0, 0) (g * 4 + p) x) := rL_fr (fun k f hk => zst_k _ _ _ _ (fun q => by rw [q] at hk; rcases hk with e | e <;> cases e)) (zst_k _ _ _ _ (by simp)) (fun f => zst_k _ _ _ _ (by simp)) hL
    have h1 : I (P 2 (P 4 g 0) p) (lp (zh1 g p) 0 (P 2 (P 4 g 0) p) (zst S (18, g, p, 0) 4 x)) (lp (mj1 P g p) 0 (P 2 (P 4 g 0) p) (zst M (67, 0, 0, 0) (g * 4 + p) x)) := lp_ind2 (f := zh1 g p) (F := mj1 P g p) I _ 0 _ _ _ hmm.1 rfl ⟨X1, L1, hV.s67 hx, s5_fr (zfr.rf.st rfl) h5, zfr.rf, fun o' ho' q => t1 o' ho' (by
        rw [zst_k _ _ _ _ (by simp)] at q
        have q2 : zst S (18, g, p, 0) 4 x (19, g, p, 0) o' = 1 ∨ zst S (18, g, p, 0) 4 x (19, g, p, 0) o' = 2 := q.2
        rw [zst_k _ _ _ _ (by simp)] at q2
        exact ⟨q.1, q2⟩), fun o' q => by
        have q2 : zst S (18, g, p, 0) 4 x (19, g, p, 0) o' = 3 ∨ zst S (18, g, p, 0) 4 x (19, g, p, 0) o' = 4 := q
        rw [zst_k _ _ _ _ (by simp)] at q2
        exact q2⟩ (fun o s m g1 g2 hi => by
      obtain ⟨i1, i2, i3, i4, i5, i6, i7⟩ := hi
      have ho : inM P (P 4 g 0) p o := ⟨g1, g2⟩
      have ce := (cell_eq i1.2.2 hg hp ho (i6 o ho)).1
      unfold zh1 mj1
      rw [show m (69, 0, 0, 0) (g * 80 + m (59, 0, 0, 0) ((P 4 g 0 * 4 + p) * 80 + o)) = s (19, g, p, 0) o from ce]
      by_cases hq : s (19, g, p, 0) o = 1
      · rw [if_pos hq, if_pos hq]
        refine ⟨xX_fg i1 i3 hg hp ho rfl, cM_L i2 zfg_c (mfg_c rfl), mfg_W i3, zfg_5 i4, i5.tr (zfg_fr rfl rfl), fun o' ho' q => ?_, fun o' q => ?_⟩
        · have e14 : zfg s g p o (14, P 4 g 0, p, o') 5 = s (14, P 4 g 0, p, o') 5 := zfg_c _ _ (by rintro ⟨q | q | q, -⟩ <;> cases q)
          rw [e14] at q
          have q2 : zfg s g p o (19, g, p, 0) o' = 1 ∨ zfg s g p o (19, g, p, 0) o' = 2 := q.2
          by_cases hoo : o' = o
          · subst hoo
            rw [zfg_19] at q2
            omega
          · rw [zfg_c _ _ (fun q3 => hoo q3.2)] at q2
            exact i6 o' ho' ⟨q.1, q2⟩
        · have q2 : zfg s g p o (19, g, p, 0) o' = 3 ∨ zfg s g p o (19, g, p, 0) o' = 4 := q
          by_cases hoo : o' = o
          · subst hoo
            rw [zfg_19] at q2
            omega
          · rw [zfg_c _ _ (fun q3 => hoo q3.2)] at q2
            exact i7 o' q2
      · rw [if_neg hq, if_neg hq]
        exact ⟨i1, i2, i3, i4, i5, i6, i7⟩)
    generalize lp (zh1 g p) 0 (P 2 (P 4 g 0) p) (zst S (18, g, p, 0) 4 x) = T at h1 hO ⊢
    generalize lp (mj1 P g p) 0 (P 2 (P 4 g 0) p) (zst M (67, 0, 0, 0) (g * 4 + p) x) = N at h1 ⊢
    obtain ⟨i1, i2, i3, i4, i5, i6, i7⟩ := h1
    have e5 := (i1.2.1 g p hg hp).1
    have b5 := i3.b65 (g * 4 + p)
    have z18 : ∀ k f, k18 k.1 = false → zst T (18, g, p, 0) 6 (T (18, g, p, 0) 5) k f = T k f := fun k f hk => (zfr.rf.st rfl : zfr k18 T _) _ _ hk
    rw [e5]
    refine ⟨⟨xa_fr (zfr.rf.st rfl) (fr.rf.st rfl) i1.1, rF_set i1.2.1 hp i3 hg (Or.inr (Or.inl ⟨rfl, rfl⟩)), xh_fr (zfr.rf.st rfl) (fr.rf.st rfl) i1.2.2⟩, rL_fr (fun k f hk => z18 k f (by rcases hk with e | e <;> rw [e] <;> rfl)) (zst_k _ _ _ _ (by simp)) (fun f => zst_k _ _ _ _ (by simp)) i2, i3.s66 ⟨by omega, by omega⟩, fun g' p' hg' hp' => ?_, s5_fr (zfr.rf.st rfl) i4⟩
    by_cases hcc : g' = g ∧ p' = p
    · obtain ⟨rfl, rfl⟩ := hcc
      have T5 : T (18, g', p', 0) 5 = S (18, g', p', 0) 5 := (i5 _ _ rfl).trans (zst_f _ _ _ (by decide))
      have T14 : ∀ o f, T (14, P 4 g' 0, p', o) f = S (14, P 4 g' 0, p', o) f := fun o f => (i5 _ _ rfl).trans (zst_k _ _ _ _ (by simp))
      refine ⟨fun o' ho' q => ?_, fun q => t2 ?_, ?_⟩
      · rw [z18 (14, P 4 g' 0, p', o') 5 rfl] at q
        have q2 : zst T (18, g', p', 0) 6 (T (18, g', p', 0) 5) (19, g', p', 0) o' = 1 ∨ zst T (18, g', p', 0) 6 (T (18, g', p', 0) 5) (19, g', p', 0) o' = 2 := q.2
        rw [z18 (19, g', p', 0) o' rfl] at q2
        exact i6 o' ho' ⟨q.1, q2⟩
      · have q1 : zst T (18, g', p', 0) 6 (T (18, g', p', 0) 5) (18, g', p', 0) 5 < P 2 (P 4 g' 0) p' ∧ (¬ zst T (18, g', p', 0) 6 (T (18, g', p', 0) 5) (14, P 4 g' 0, p', zst T (18, g', p', 0) 6 (T (18, g', p', 0) 5) (18, g', p', 0) 5) 5 = 0 ∨ zst T (18, g', p', 0) 6 (T (18, g', p', 0) 5) (14, P 4 g' 0, p', zst T (18, g', p', 0) 6 (T (18, g', p', 0) 5) (18, g', p', 0) 5) 4 = 1 ∨ (zst T (18, g', p', 0) 6 (T (18, g', p', 0) 5) (19, g', p', 0) (zst T (18, g', p', 0) 6 (T (18, g', p', 0) 5) (18, g', p', 0) 5) = 3 ∨ zst T (18, g', p', 0) 6 (T (18, g', p', 0) 5) (19, g', p', 0) (zst T (18, g', p', 0) 6 (T (18, g', p', 0) 5) (18, g', p', 0) 5) = 4)) := q
        rw [zst_f _ _ _ (show (5 : Int) ≠ 6 by decide), z18 (14, P 4 g' 0, p', T (18, g', p', 0) 5) 5 rfl, z18 (14, P 4 g' 0, p', T (18, g', p', 0) 5) 4 rfl, z18 (19, g', p', 0) (T (18, g', p', 0) 5) rfl, T14, T14] at q1
        obtain ⟨a1, a2⟩ := q1
        rw [T5] at a1 a2
        refine ⟨a1, ?_⟩
        rcases a2 with a | a | a
        · exact Or.inl a
        · exact Or.inr (Or.inl a)
        · exact Or.inr (Or.inr (i7 _ a))
      · rw [zst_s, zst_f _ _ _ (by decide)]
        omega
    · exact sg_off hO hcc (hZ g' p' hg' hp')
theorem o_join (h : xJ P S M) {g r b : Int} (hg : inG P g) (hr : 0 ≤ r ∧ r < 6) (hb : b = 0 ∨ b = 1) : xJ P (lp (zsf P g) 0 (P 1 (P 4 g 0) 0) (zst S (17, g, 0, 0) r b)) (msa P (lp (mj3 P (msh P (zst M (68, 0, 0, 0) (g * 6 + r) b) g) g) 0 (P 1 (P 4 g 0) 0) (zst M (68, 0, 0, 0) (g * 6 + r) b))) := by
  obtain ⟨hX, hL, hZ, hY, hW, hV, hP⟩ := id h
  have hq0 := hV.q
  have hN := hV.qt (hV.qg hg)
  have hV1 : zWM P (zst M (68, 0, 0, 0) (g * 6 + r) b) := hV.s68 ⟨by omega, by omega⟩
  have hG1 : rG P (zst S (17, g, 0, 0) r b) (zst M (68, 0, 0, 0) (g * 6 + r) b) := fun g' r' hg' h1 h2 => by
    obtain ⟨a1, a2⟩ := hX.1.G g' r' hg' h1 h2
    by_cases hc : g' = g ∧ r' = r
    · obtain ⟨rfl, rfl⟩ := hc
      rw [zst_s, zst_s]
      exact ⟨rfl, hb⟩
    · rw [zst_at, if_neg (fun q => hc ⟨by omega, by omega⟩), zst_at, if_neg (fun q => hc (by obtain ⟨q1, q2⟩ := q; cases q1; exact ⟨rfl, q2⟩))]
      exact ⟨a1, a2⟩
  have X1 : xX P (zst S (17, g, 0, 0) r b) (zst M (68, 0, 0, 0) (g * 6 + r) b) := by
    obtain ⟨⟨⟨a1, a2, a3, a4⟩, a5, a6, a7, a8⟩, a9, a10⟩ := hX
    refine ⟨⟨⟨a1, a2, a3, a4⟩, a5, a6, hG1, ?_⟩, xf_fr (zfr.rf.st rfl) (zfr.rf.st rfl) a9, xh_fr (zfr.rf.st rfl) (fr.rf.st rfl) a10⟩
    obtain ⟨b1, b2, b3⟩ := a8
    refine ⟨b1, fun g' r' c1 c2 c3 c4 => ?_, b3⟩
    have hg2 := hg.2
    rw [zst_at, if_neg (fun q => by omega)]
    exact b2 g' r' c1 c2 c3 c4
  have L1 : rL (zst S (17, g, 0, 0) r b) (zst M (68, 0, 0, 0) (g * 6 + r) b) := rL_fr (fun k f hk => zst_k _ _ _ _ (fun q => by rw [q] at hk; rcases hk with e | e <;> cases e)) (zst_k _ _ _ _ (by simp)) (fun f => zst_k _ _ _ _ (by simp)) hL
  have Z1 : xZ P (zst S (17, g, 0, 0) r b) := xZ_fr (K := fun n => n == 17) (zfr.rf.st rfl) rfl rfl rfl hZ
  have W1 : zWS P (zst S (17, g, 0, 0) r b) := hW.sf ⟨by omega, by omega⟩ (by decide)
  have h51 : s5 P (zst S (17, g, 0, 0) r b) := fun g' p' o' hg' hp' => by
    rw [zst_k _ _ _ _ (by simp), zst_k _ _ _ _ (by simp)]
    exact hY.2.1 g' p' o' hg' hp'
  have hF : ∀ p, inQ P g p → msh P (zst M (68, 0, 0, 0) (g * 6 + r) b) g p = zsr P (zst S (17, g, 0, 0) r b) g p (-1) := fun p hp => rG_sh hG1 hV1 hg hp
  generalize hS1 : zst S (17, g, 0, 0) r b = S1 at hG1 X1 L1 Z1 W1 h51 hF ⊢
  generalize zst M (68, 0, 0, 0) (g * 6 + r) b = M1 at hV1 hG1 X1 L1 hF ⊢
  have key := lp_ind2 (f := zsf P g) (F := mj3 P (msh P M1 g) g) (fun p s m => xX P s m ∧ rL s m ∧ zWM P m ∧ xZ P s ∧ s5 P s ∧ zWS P s ∧ zfr k189 S1 s ∧ (∀ g' p', ¬ g' = g → s (18, g', p', 0) 4 = S1 (18, g', p', 0) 4) ∧ ∀ p', 0 ≤ p' → p' < p → s (18, g, p', 0) 4 = zsr P S1 g p' (-1)) _ 0 (P 1 (P 4 g 0) 0) S1 M1 (by omega) rfl ⟨X1, L1, hV1, Z1, h51, W1, zfr.rf, fun _ _ _ => rfl, fun p' h1 h2 => by omega⟩ (fun p s m g1 g2 hi => by
    obtain ⟨i1, i2, i3, i4, i5, i6, i7, i8, i9⟩ := hi
    have hp : inQ P g p := ⟨g1, g2⟩
    have hx : zsr P s g p (-1) = zsr P S1 g p (-1) := zsr_cg rfl (fun r _ _ => by
      show ¬ s (17, g, 0, 0) r = _ ↔ ¬ S1 (17, g, 0, 0) r = _
      rw [i7 _ _ rfl])
    obtain ⟨j1, j2, j3, j4, j5⟩ := r_ht i1 i2 i3 i4 i5 hg hp (zsr_le (P := P) (S := S1) (g := g) (p := p) (c := -1))
    obtain ⟨o1, o2⟩ := zht_O (P := P) (S := s) (g := g) (p := p) (x := zsr P S1 g p (-1))
    have hle := zsr_le (P := P) (S := S1) (g := g) (p := p) (c := -1)
    unfold zsf mj3
    rw [hx, hF p hp]
    refine ⟨j1, j2, j3, j4, j5, zht_W hP hg hp ⟨by omega, by omega⟩ i6, i7.tr (zht_fr rfl rfl rfl), fun g' p' hne => ?_, fun p' c1 c2 => ?_⟩
    · rw [o1 _ _ (by rintro (q | q | q | q) <;> cases q; exact hne rfl)]
      exact i8 g' p' hne
    · by_cases hpp : p' = p
      · subst hpp; exact o2
      · rw [o1 _ _ (by rintro (q | q | q | q) <;> cases q; exact hpp rfl)]
        exact i9 p' c1 (by omega))
  obtain ⟨i1, i2, i3, i4, i5, i6, i7, i8, i9⟩ := key
  obtain ⟨n1, n2⟩ := r_none i1 i3 i4
  generalize lp (zsf P g) 0 (P 1 (P 4 g 0) 0) S1 = T at i1 i2 i4 i5 i6 i7 i8 i9 n1 ⊢
  refine ⟨n1, rL_fr (fun _ _ _ => rfl) msa_40 (fun _ => msa_73) i2, i4, ⟨fun g' p' hg' hp' => ?_, i5, fun t x ht h1 h2 => ?_⟩, i6, n2, hP⟩
  · by_cases hgg : g' = g
    · subst hgg
      rw [i9 p' hp'.1 hp'.2]
      exact zsr_cg rfl (fun r _ _ => by
        show ¬ S1 (17, g', 0, 0) r = _ ↔ ¬ T (17, g', 0, 0) r = _
        rw [i7 _ _ rfl])
    · rw [i8 g' p' hgg, ← hS1, zst_k _ _ _ _ (by simp), hY.1 g' p' hg' hp']
      exact zsr_cg rfl (fun r' _ _ => by
        show ¬ S (17, g', 0, 0) r' = _ ↔ ¬ T (17, g', 0, 0) r' = _
        rw [i7 _ _ rfl, ← hS1, zst_k _ _ _ _ (fun q => hgg (by cases q; rfl))])
  · rw [i7 _ _ rfl, i7 (0, 0, 0, 0) _ rfl, ← hS1, zst_k _ _ _ _ (by simp), zst_k _ _ _ _ (by simp)]
    exact hY.2.2 t x ht h1 h2
/-- joining where one is, going where one isn't: nothing changes -/
theorem o_join_s (h : xJ P S M) {g r : Int} (hg : inG P g) : lp (zsf P g) 0 (P 1 (P 4 g 0) 0) (zst S (17, g, 0, 0) r (S (17, g, 0, 0) r)) = S := by
  rw [zst_id rfl]
  refine lp_id _ _ _ _ rfl (fun p g1 g2 => ?_)
  unfold zsf zht
  rw [if_pos (h.2.2.2.1.1 g p hg ⟨g1, g2⟩).symm]
end JOIN
