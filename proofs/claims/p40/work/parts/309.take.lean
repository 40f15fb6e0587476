/-! ===== take, seek: class and model act alike ===== -/
section TAKE
variable {P : zP} {S M : zS}
theorem zno_sp {g p x : Int} (h0 : 0 ≤ S (18, g, p, 0) 5) (h1 : 0 ≤ S (18, g, p, 0) 6) (hz : ¬ zno P S g p x = -1) (h5 : S (18, g, p, 0) 5 ≤ P 2 (P 4 g 0) p) (h3 : S (18, g, p, 0) 5 ≤ S (18, g, p, 0) 6) : (S (19, g, p, 0) (zno P S g p x) = 2 ∨ S (19, g, p, 0) (zno P S g p x) = 0 ∧ zkp S (P 4 g 0) p (zno P S g p x)) ∧ S (18, g, p, 0) 5 ≤ zno P S g p x := by
  unfold zno at hz ⊢
  by_cases hc : fi (fun o => S (19, g, p, 0) o = 2 ∧ S (21, g, p, 0) o ≤ x) (S (18, g, p, 0) 5) (P 2 (P 4 g 0) p) < P 2 (P 4 g 0) p
  · rw [if_pos hc]
    obtain ⟨f1, f2, f3, f4⟩ := fi_spec (Q := fun o => S (19, g, p, 0) o = 2 ∧ S (21, g, p, 0) o ≤ x) _ (S (18, g, p, 0) 5) (P 2 (P 4 g 0) p) h5 rfl
    exact ⟨Or.inl (f4 hc).1, f1⟩
  · rw [if_neg hc] at hz ⊢
    by_cases hy : fi (fun o => S (19, g, p, 0) o = 0 ∧ zkp S (P 4 g 0) p o) (S (18, g, p, 0) 6) (zse P S (P 4 g 0) p) < zse P S (P 4 g 0) p
    · rw [if_pos hy]
      by_cases hle : S (18, g, p, 0) 6 ≤ zse P S (P 4 g 0) p
      · obtain ⟨f1, f2, f3, f4⟩ := fi_spec (Q := fun o => S (19, g, p, 0) o = 0 ∧ zkp S (P 4 g 0) p o) _ (S (18, g, p, 0) 6) (zse P S (P 4 g 0) p) hle rfl
        exact ⟨Or.inr (f4 hy), by omega⟩
      · rw [fi_end (by omega)] at hy
        omega
    · rw [if_neg hy] at hz
      exact absurd rfl hz
theorem r_gt (h : xJ P S M) {g r : Int} (hg : inG P g) : (znp P S g r (S (0, 0, 0, 0) 6) = -1 → mgt P M g r = -1) ∧ ∀ p o, inQ P g p → inM P (P 4 g 0) p o → znp P S g r (S (0, 0, 0, 0) 6) = 100 * p + o → mgt P M g r = mi M (P 4 g 0) p o ∧ o = zno P S g p (S (0, 0, 0, 0) 6) := by
  obtain ⟨hX, hL, hZ, hY, hW, hV, hP⟩ := id h
  have hq := hV.q
  have hT := hV.qg hg
  have hn := hV.qt hT
  have hgv := fun p hp => r_gv hX.1.A hX.1.C hX.2.1 hX.2.2.1 h.s1 hV hW hP (p := p) hg hp
  have hzl := fun p (hp : inQ P g p) => zno_le hP hW hg hp (x := S (0, 0, 0, 0) 6)
  have e0 : ∀ p, inQ P g p → (mgv P M g p = -1 ↔ zno P S g p (S (0, 0, 0, 0) 6) = -1) := fun p hp => by
    rw [hgv p hp]
    by_cases hz : zno P S g p (S (0, 0, 0, 0) 6) = -1
    · rw [if_pos hz]; exact ⟨fun _ => hz, fun _ => rfl⟩
    · rw [if_neg hz]
      have h9 := hzl p hp
      have hc := (hX.1.C (P 4 g 0) p (zno P S g p (S (0, 0, 0, 0) 6)) hT hp ⟨by omega, by omega⟩).1
      exact ⟨fun q => by omega, fun q => absurd q hz⟩
  have e1 : fi (mgq P M g r) 0 (P 1 (P 4 g 0) 0) = fi (fun p => S (18, g, p, 0) 4 = r ∧ ¬ zno P S g p (S (0, 0, 0, 0) 6) = -1) 0 (P 1 (P 4 g 0) 0) := by
    refine fi_congr (by omega) (fun p g1 g2 => ?_)
    show M (67, 0, 0, 0) (g * 4 + p) = r ∧ ¬ mgv P M g p = -1 ↔ _
    rw [(hX.2.1 g p hg ⟨g1, g2⟩).2.2, e0 p ⟨g1, g2⟩]
  obtain ⟨f1, f2, f3, f4⟩ := fi_spec (Q := fun p => S (18, g, p, 0) 4 = r ∧ ¬ zno P S g p (S (0, 0, 0, 0) 6) = -1) _ 0 (P 1 (P 4 g 0) 0) (by omega) rfl
  unfold mgt znp
  rw [e1]
  by_cases hc : fi (fun p => S (18, g, p, 0) 4 = r ∧ ¬ zno P S g p (S (0, 0, 0, 0) 6) = -1) 0 (P 1 (P 4 g 0) 0) < P 1 (P 4 g 0) 0
  · rw [if_pos hc, if_pos hc]
    generalize fi (fun p => S (18, g, p, 0) 4 = r ∧ ¬ zno P S g p (S (0, 0, 0, 0) 6) = -1) 0 (P 1 (P 4 g 0) 0) = p at f1 f2 f3 f4 hc ⊢
    obtain ⟨k1, k2⟩ := f4 hc
    have hp : inQ P g p := ⟨f1, hc⟩
    have h9 := hzl p hp
    have hm := hV.qm hT hp
    refine ⟨fun q => by omega, fun p' o hp' ho hz => ?_⟩
    have hm' := hV.qm hT hp'
    obtain rfl : p' = p := by omega
    obtain rfl : o = zno P S g p' (S (0, 0, 0, 0) 6) := by omega
    rw [hgv p' hp, if_neg k2]
    exact ⟨rfl, rfl⟩
  · rw [if_neg hc, if_neg hc]
    exact ⟨fun _ => rfl, fun p o hp ho hz => by omega⟩
theorem zgv_19 {g p o x : Int} : zgv S g p o x (19, g, p, 0) o = 1 := by
  unfold zgv
  rw [zst_k _ _ _ _ (by simp), zst_k _ _ _ _ (by simp), zst_s]
theorem zg0_k {g p o : Int} {k : zK} {f : Int} (h : k18 k.1 = false) : zg0 S g p o k f = S k f := by
  unfold zg0
  split
  · rw [zst_k _ _ _ _ (fun q => by rw [q] at h; exact Bool.noConfusion (show true = false from h))]
  · rfl
/-- giving, in both -/
theorem r_give (hX : xX P S M) (hL : rL S M) (hV : zWM P M) (hW : zWS P S) {g p o m : Int} (hg : inG P g) (hp : inQ P g p) (ho : inM P (P 4 g 0) p o) (hm : m = mi M (P 4 g 0) p o) (hd : S (14, P 4 g 0, p, o) 5 = 0) : xX P (zgv S g p o (S (0, 0, 0, 0) 6)) (mtk M g m) ∧ rL (zgv S g p o (S (0, 0, 0, 0) 6)) (mtk M g m) := by
  have hT := hV.qg hg
  obtain ⟨c1, c2, c3, -⟩ := hX.1.C (P 4 g 0) p o hT hp ho
  obtain ⟨d1, d2, d3⟩ := cell_eq hX.2.2 hg hp ho (fun q => q.1 hd)
  have hq := hV.qt hT
  have hq0 := hV.q
  have hmm := hV.qm hT hp
  rw [← hm] at c1 c2 c3 d1 d2 d3
  have hA := hX.1.A
  have h0 : xX P (zg0 S g p o) (mt0 M g m) ∧ zWM P (mt0 M g m) ∧ zfr (fun n => n == 66) M (mt0 M g m) := by
    unfold zg0 mt0
    rw [d1]
    by_cases hc : S (19, g, p, 0) o = 0
    · rw [if_pos hc, if_pos hc, c3, show M (52, 0, 0, 0) m % 4 = p by omega]
      exact ⟨⟨xa_fr (zfr.rf.st rfl) (fr.rf.st rfl) hX.1, rF_set hX.2.1 hp hV hg (Or.inr (Or.inl ⟨rfl, rfl⟩)), xh_fr (zfr.rf.st rfl) (fr.rf.st rfl) hX.2.2⟩, hV.s66 ⟨by omega, by omega⟩, zfr.rf.st rfl⟩
    · rw [if_neg hc, if_neg hc]
      exact ⟨hX, hV, zfr.rf⟩
  obtain ⟨i1, i2, i3⟩ := h0
  have cs : cS g p o (zg0 S g p o) (zgv S g p o (S (0, 0, 0, 0) 6)) := ((cS.rf.st (Or.inl rfl)).st (Or.inr (Or.inl rfl))).st (Or.inr (Or.inr rfl))
  have cm : cM (g * 80 + m) (mt0 M g m) (mtk M g m) := ((cM.rf.st (Or.inl rfl)).st (Or.inr (Or.inl rfl))).st (Or.inr (Or.inr rfl))
  have hb := hV.b70 (g * 80 + m)
  have hd' : zg0 S g p o (14, P 4 g 0, p, o) 5 = 0 := by rw [zg0_k rfl]; exact hd
  have hi : m = mi (mt0 M g m) (P 4 g 0) p o := hm.trans (i3 _ _ rfl).symm
  refine ⟨xX_cell i1 i2 hg hp ho (by rw [← hi]) hd' cs cm ?_ ?_ ?_ ?_, rL_fr (fun k f hk => (cs k f (by
    rintro ⟨q | q | q, -⟩ <;> rw [q] at hk <;> rcases hk with e | e <;> cases e)).trans (zg0_k (by rcases hk with e | e <;> rw [e] <;> rfl))) ((cm _ _ (by rintro ⟨q | q | q, -⟩ <;> cases q)).trans (i3 _ _ rfl)) (fun f => (cm _ _ (by rintro ⟨q | q | q, -⟩ <;> cases q)).trans (i3 _ _ rfl)) hL⟩
  · unfold zgv mtk
    rw [zst_k _ _ _ _ (by simp), zst_k _ _ _ _ (by simp), zst_s, zst_k _ _ _ _ (by simp), zst_k _ _ _ _ (by simp), zst_s]
  · unfold zgv mtk
    rw [zst_k _ _ _ _ (by simp), zst_s, zst_k _ _ _ _ (by simp), zst_s, d2]
  · unfold zgv mtk
    rw [zst_s, zst_s]
    exact hA.1
  · intro _
    unfold mtk
    rw [zst_k _ _ _ _ (by simp), zst_s]
    omega
def kG (n : Nat) : Bool := n == 18 || (n == 19 || (n == 20 || n == 21))
theorem zgv_k {g p o x : Int} {k : zK} {f : Int} (h : kG k.1 = false) : zgv S g p o x k f = S k f := zgv_fr (K := kG) rfl rfl rfl rfl _ _ h
theorem zg0_O {g p o : Int} : cO g p S (zg0 S g p o) := by
  unfold zg0
  split
  · exact cO.rf.st (Or.inl rfl)
  · exact cO.rf
theorem zgv_O {g p o x : Int} : cO g p S (zgv S g p o x) := ((zg0_O.st (Or.inr (Or.inl rfl))).st (Or.inr (Or.inr (Or.inl rfl)))).st (Or.inr (Or.inr (Or.inr rfl)))
theorem zgv_18 {g p o x g' p' f : Int} (hf : f ≠ 6) : zgv S g p o x (18, g', p', 0) f = S (18, g', p', 0) f := by
  unfold zgv
  rw [zst_k _ _ _ _ (by simp), zst_k _ _ _ _ (by simp), zst_k _ _ _ _ (by simp)]
  unfold zg0
  split
  · rw [zst_at, if_neg (fun q => hf q.2)]
  · rfl
theorem zgv_6 {g p o x : Int} : zgv S g p o x (18, g, p, 0) 6 = if S (19, g, p, 0) o = 0 then o + 1 else S (18, g, p, 0) 6 := by
  unfold zgv
  rw [zst_k _ _ _ _ (by simp), zst_k _ _ _ _ (by simp), zst_k _ _ _ _ (by simp)]
  unfold zg0
  split
  · rw [zst_s]
  · rfl
theorem zgv_19n {g p o x g' p' o' : Int} (h : ¬ (g' = g ∧ p' = p ∧ o' = o)) : zgv S g p o x (19, g', p', 0) o' = S (19, g', p', 0) o' := by
  unfold zgv
  rw [zst_k _ _ _ _ (by simp), zst_k _ _ _ _ (by simp), zst_at, if_neg (fun q => h (by obtain ⟨q1, q2⟩ := q; cases q1; exact ⟨rfl, rfl, q2⟩)), zg0_k rfl]
theorem zgv_20n {g p o x g' p' o' : Int} (h : ¬ (g' = g ∧ p' = p ∧ o' = o)) : zgv S g p o x (20, g', p', 0) o' = S (20, g', p', 0) o' := by
  unfold zgv
  rw [zst_k _ _ _ _ (by simp), zst_at, if_neg (fun q => h (by obtain ⟨q1, q2⟩ := q; cases q1; exact ⟨rfl, rfl, q2⟩)), zst_k _ _ _ _ (by simp), zg0_k rfl]
theorem o_take (h : xJ P S M) {g r p o : Int} (hg : inG P g) (hp : inQ P g p) (ho : inM P (P 4 g 0) p o) (hz : znp P S g r (S (0, 0, 0, 0) 6) = 100 * p + o) : xJ P (zlw (zgv S g p o (S (0, 0, 0, 0) 6)) 0 g p o (S (0, 0, 0, 0) 6)) (msa P (mwr (mtk M g (mi M (P 4 g 0) p o)) 0 g (mi M (P 4 g 0) p o))) ∧ mgt P M g r = mi M (P 4 g 0) p o ∧ mtd M (mi M (P 4 g 0) p o) = 100 * p + o ∧ S (20, g, p, 0) o ≤ 2 ∧ M (70, 0, 0, 0) (g * 80 + mi M (P 4 g 0) p o) ≤ 2 := by
  obtain ⟨g1, g2⟩ := (r_gt h hg (r := r)).2 p o hp ho hz
  obtain ⟨hX, hL, hZ, hY, hW, hV, hP⟩ := id h
  have hT := hV.qg hg
  obtain ⟨s1', s2', s3'⟩ := hZ g p hg hp
  have hm5 := hW.m hg hp
  have hsp := zno_sp (P := P) (S := S) (g := g) (p := p) (x := S (0, 0, 0, 0) 6) hm5.1.1 hm5.2.1 (by have := ho.1; omega) hm5.1.2 s3'
  rw [← g2] at hsp
  obtain ⟨hst, hmo⟩ := hsp
  have hn := s1' o ho
  have hd : S (14, P 4 g 0, p, o) 5 = 0 := by
    rcases hst with q | q
    · exact Classical.byContradiction fun q2 => hn ⟨q2, Or.inr q⟩
    · exact q.2.2
  obtain ⟨c1, c2, c3, -⟩ := hX.1.C (P 4 g 0) p o hT hp ho
  obtain ⟨d1, d2, d3⟩ := cell_eq hX.2.2 hg hp ho hn
  have hq := hV.qt hT
  have hq0 := hV.q
  have hmm := hV.qm hT hp
  have h5 := hY.2.1 g p o hg hp
  have ht2 : S (20, g, p, 0) o ≤ 2 := by
    rcases hst with q | q
    · exact h5.1 q
    · rw [h5.2 q.1]; omega
  obtain ⟨i1, i2⟩ := r_give hX hL hV hW hg hp ho rfl hd
  generalize hmi : mi M (P 4 g 0) p o = m at c1 c2 c3 d1 d2 d3 g1 i1 i2 ⊢
  have hf := hV.f11
  have hk := hW.k
  have hW1 : zWS P (zgv S g p o (S (0, 0, 0, 0) 6)) := zgv_W hP hg hp ho hk.1 ht2 hW
  have t52 : mtk M g m (52, 0, 0, 0) m = M (52, 0, 0, 0) m := mtk_fr (K := fun n => n == 66 || n == 69 || n == 70 || n == 71) rfl rfl rfl rfl _ _ rfl
  have t53 : mtk M g m (53, 0, 0, 0) m = M (53, 0, 0, 0) m := mtk_fr (K := fun n => n == 66 || n == 69 || n == 70 || n == 71) rfl rfl rfl rfl _ _ rfl
  have t40 : mtk M g m (40, 0, 0, 0) 1 = M (40, 0, 0, 0) 1 := mtk_fr (K := fun n => n == 66 || n == 69 || n == 70 || n == 71) rfl rfl rfl rfl _ _ rfl
  have hVt : zWM P (mtk M g m) := by
    have h0 : zWM P (mt0 M g m) := by
      unfold mt0
      split
      · have := hV.b53 m
        exact hV.s66 ⟨by omega, by omega⟩
      · exact hV
    have b1 := hV.f1
    have b2 := hV.b70 (g * 80 + m)
    exact ((h0.s69 ⟨by omega, by omega⟩).s70 ⟨by omega, by omega⟩).s71 ⟨by omega, by omega⟩
  have hV2 := mwr_W hVt (a := 0) (g := g) (m := m) ⟨by omega, by omega⟩ ⟨by omega, by omega⟩
  have hZ1 : xZ P (zgv S g p o (S (0, 0, 0, 0) 6)) := fun g' p' hg' hp' => by
    by_cases hc : g' = g ∧ p' = p
    · obtain ⟨rfl, rfl⟩ := hc
      refine ⟨fun o' ho' q => ?_, fun q => ?_, ?_⟩
      · rw [zgv_k (k := (14, P 4 g' 0, p', o')) rfl] at q
        by_cases hoo : o' = o
        · subst hoo
          exact q.1 hd
        · have q2 : zgv S g' p' o (S (0, 0, 0, 0) 6) (19, g', p', 0) o' = 1 ∨ zgv S g' p' o (S (0, 0, 0, 0) 6) (19, g', p', 0) o' = 2 := q.2
          rw [zgv_19n (fun q3 => hoo q3.2.2)] at q2
          exact s1' o' ho' ⟨q.1, q2⟩
      · have q1 : zgv S g' p' o (S (0, 0, 0, 0) 6) (18, g', p', 0) 5 < P 2 (P 4 g' 0) p' ∧ (¬ zgv S g' p' o (S (0, 0, 0, 0) 6) (14, P 4 g' 0, p', zgv S g' p' o (S (0, 0, 0, 0) 6) (18, g', p', 0) 5) 5 = 0 ∨ zgv S g' p' o (S (0, 0, 0, 0) 6) (14, P 4 g' 0, p', zgv S g' p' o (S (0, 0, 0, 0) 6) (18, g', p', 0) 5) 4 = 1 ∨ (zgv S g' p' o (S (0, 0, 0, 0) 6) (19, g', p', 0) (zgv S g' p' o (S (0, 0, 0, 0) 6) (18, g', p', 0) 5) = 3 ∨ zgv S g' p' o (S (0, 0, 0, 0) 6) (19, g', p', 0) (zgv S g' p' o (S (0, 0, 0, 0) 6) (18, g', p', 0) 5) = 4)) := q
        rw [zgv_18 (show (5 : Int) ≠ 6 by decide), zgv_k (k := (14, P 4 g' 0, p', S (18, g', p', 0) 5)) rfl, zgv_k (k := (14, P 4 g' 0, p', S (18, g', p', 0) 5)) rfl] at q1
        obtain ⟨a1, a2⟩ := q1
        refine s2' ⟨a1, ?_⟩
        rcases a2 with a | a | a
        · exact Or.inl a
        · exact Or.inr (Or.inl a)
        · by_cases hoo : S (18, g', p', 0) 5 = o
          · rw [hoo, zgv_19] at a
            omega
          · rw [zgv_19n (fun q3 => hoo q3.2.2)] at a
            exact Or.inr (Or.inr a)
      · rw [zgv_18 (show (5 : Int) ≠ 6 by decide), zgv_6]
        split
        · omega
        · exact s3'
    · exact sg_off zgv_O hc (hZ g' p' hg' hp')
  obtain ⟨j1, j2⟩ := r_none (xX_led i1 (a := 0) (g := g) (p := p) (o := o) (e := S (0, 0, 0, 0) 6) (a' := 0) (g' := g) (m := m)) hV2 (xZ_lw hZ1)
  have hY1 : xY P (zgv S g p o (S (0, 0, 0, 0) 6)) := xY_fr (fun f => zgv_k rfl) (fun t f => zgv_k rfl) (fun g f => zgv_k rfl) (fun g p => zgv_18 (by decide)) (fun g' p' o' hg' hp' => by
    by_cases hc : g' = g ∧ p' = p ∧ o' = o
    · obtain ⟨rfl, rfl, rfl⟩ := hc
      rw [zgv_19]
      exact ⟨fun q => by omega, fun q => by omega⟩
    · rw [zgv_19n hc, zgv_20n hc]
      exact hY.2.1 g' p' o' hg' hp') hY
  have hL2 := rL_w i2 hW1.l.2 (a := 0) (g := g) (p := p) (o := o) (e := S (0, 0, 0, 0) 6) (m := m) (by rw [t52]; omega) (by rw [t53]; exact c3) (by rw [t40]; exact hX.1.A.1)
  refine ⟨⟨j1, rL_fr (fun _ _ _ => rfl) msa_40 (fun _ => msa_73) hL2, xZ_lw hZ1, xY_lw hY1, zlw_W ⟨by omega, by omega⟩ ⟨by omega, by omega⟩ ⟨by omega, by omega⟩ ⟨by omega, by omega⟩ ⟨by omega, by omega⟩ hW1, j2, hP⟩, g1, ?_, ht2, by omega⟩
  unfold mtd
  rw [c2, c3]
  omega
/-! seek -/
theorem o_seek (h : xJ P S M) {g p x : Int} (hg : inG P g) (hp : inQ P g p) (hx : 0 ≤ x ∧ x ≤ P 2 (P 4 g 0) p) : xJ P (zku P (zmv P S g p x) g p) (msa P (msk P g p x M)) := by
  obtain ⟨hX, hL, hZ, hY, hW, hV, hP⟩ := id h
  have hT := hV.qg hg
  have hmm := hV.qm hT hp
  have hmi : ∀ (s m : zS) (o : Int), zfr (fun n => n == 69 || n == 70) M m → mi m (P 4 g 0) p o = mi M (P 4 g 0) p o := fun s m o hm => hm _ _ rfl
  let I : Int → zS → zS → Prop := fun o s m => xX P s m ∧ rL s m ∧ zWM P m ∧ zWS P s ∧ s5 P s ∧ cO g p S s ∧ zfr k19 S s ∧ (∀ o', inM P (P 4 g 0) p o' → ¬ (¬ s (14, P 4 g 0, p, o') 5 = 0 ∧ ju s g p o'))
  have step : ∀ o s m, inM P (P 4 g 0) p o → I o s m → I (o + 1) (zfg s g p o) (mfg m g (mi m (P 4 g 0) p o)) := fun o s m ho hi => by
    obtain ⟨i1, i2, i3, i4, i5, i6, i7, i8⟩ := hi
    refine ⟨xX_fg i1 i3 hg hp ho rfl, cM_L i2 zfg_c (mfg_c rfl), mfg_W i3, zfg_W i4, zfg_5 i5, i6.tr zfg_c.O, i7.tr (zfg_fr rfl rfl), fun o' ho' q => ?_⟩
    have e14 : zfg s g p o (14, P 4 g 0, p, o') 5 = s (14, P 4 g 0, p, o') 5 := zfg_c _ _ (by rintro ⟨q | q | q, -⟩ <;> cases q)
    rw [e14] at q
    have q2 : zfg s g p o (19, g, p, 0) o' = 1 ∨ zfg s g p o (19, g, p, 0) o' = 2 := q.2
    by_cases hoo : o' = o
    · subst hoo
      rw [zfg_19] at q2
      omega
    · rw [zfg_c _ _ (fun q3 => hoo q3.2)] at q2
      exact i8 o' ho' ⟨q.1, q2⟩
  have skip : ∀ o s m, I o s m → I (o + 1) s m := fun o s m hi => hi
  have h1 : I x (lp (zm1 g p) 0 x S) (lp (msk1 P g p x) 0 x M) := lp_ind2 (f := zm1 g p) (F := msk1 P g p x) I _ 0 x S M hx.1 rfl ⟨hX, hL, hV, hW, hY.2.1, cO.rf, zfr.rf, fun o' ho' => (hZ g p hg hp).1 o' ho'⟩ (fun o s m g1 g2 hi => by
    have ho : inM P (P 4 g 0) p o := ⟨g1, by omega⟩
    have ce := (cell_eq hi.1.2.2 hg hp ho (hi.2.2.2.2.2.2.2 o ho)).1
    unfold zm1 msk1
    have hiff : (x ≤ o ∨ mu m (g * 80 + m (59, 0, 0, 0) ((P 4 g 0 * 4 + p) * 80 + o))) ↔ ju s g p o := by
      show (x ≤ o ∨ (m (69, 0, 0, 0) (g * 80 + mi m (P 4 g 0) p o) = 1 ∨ m (69, 0, 0, 0) (g * 80 + mi m (P 4 g 0) p o) = 2)) ↔ (s (19, g, p, 0) o = 1 ∨ s (19, g, p, 0) o = 2)
      rw [ce]
      exact ⟨fun q => q.elim (fun q => by omega) id, Or.inr⟩
    by_cases hc : ju s g p o
    · rw [if_pos hc, if_pos (hiff.mpr hc)]
      exact step o s m ho hi
    · rw [if_neg hc, if_neg (fun q => hc (hiff.mp q))]
      exact skip o s m hi)
  have h2 : I (P 2 (P 4 g 0) p) (lp (zm2 g p) x (P 2 (P 4 g 0) p) (lp (zm1 g p) 0 x S)) (lp (msk1 P g p x) x (P 2 (P 4 g 0) p) (lp (msk1 P g p x) 0 x M)) := lp_ind2 (f := zm2 g p) (F := msk1 P g p x) I _ x (P 2 (P 4 g 0) p) _ _ hx.2 rfl h1 (fun o s m g1 g2 hi => by
    unfold zm2 msk1
    rw [if_pos (Or.inl g1)]
    exact step o s m ⟨by omega, g2⟩ hi)
  unfold zmv msk
  rw [lp_split (f := msk1 P g p x) _ 0 x (P 2 (P 4 g 0) p) M hx.1 hx.2 rfl]
  generalize lp (zm2 g p) x (P 2 (P 4 g 0) p) (lp (zm1 g p) 0 x S) = T at h2 ⊢
  generalize lp (msk1 P g p x) x (P 2 (P 4 g 0) p) (lp (msk1 P g p x) 0 x M) = N at h2 ⊢
  obtain ⟨i1, i2, i3, i4, i5, i6, i7, i8⟩ := h2
  have f1 := rF_set i1.2.1 hp i3 hg (x := x) (Or.inl ⟨rfl, rfl⟩)
  have hV1 := i3.s65 (i := g * 4 + p) (v := x) ⟨by omega, by omega⟩
  have f2 := rF_set f1 hp hV1 hg (x := x) (Or.inr (Or.inl ⟨rfl, rfl⟩))
  have hV2 := hV1.s66 (i := g * 4 + p) (v := x) ⟨by omega, by omega⟩
  have X2 : xX P (zst (zst T (18, g, p, 0) 5 x) (18, g, p, 0) 6 x) (zst (zst N (65, 0, 0, 0) (g * 4 + p) x) (66, 0, 0, 0) (g * 4 + p) x) := ⟨xa_fr ((zfr.rf.st rfl).st rfl) ((fr.rf.st rfl).st rfl) i1.1, f2, xh_fr ((zfr.rf.st rfl).st rfl) ((fr.rf.st rfl).st rfl) i1.2.2⟩
  have O2 : cO g p S (zst (zst T (18, g, p, 0) 5 x) (18, g, p, 0) 6 x) := (i6.st (Or.inl rfl)).st (Or.inl rfl)
  obtain ⟨j1, j2, j3⟩ := r_one X2 hV2 hg hp (fun g' p' hg' hp' hne => sg_off O2 hne (hZ g' p' hg' hp'))
  have z18 : ∀ k f, k18 k.1 = false → zst (zst T (18, g, p, 0) 5 x) (18, g, p, 0) 6 x k f = T k f := fun k f hk => ((zfr.rf.st rfl).st rfl : zfr k18 T _) _ _ hk
  have kk : ∀ k f, k189 k.1 = false → zst (zst T (18, g, p, 0) 5 x) (18, g, p, 0) 6 x k f = S k f := fun k f hk => by
    simp only [k189, Bool.or_eq_false_iff, beq_eq_false_iff_ne] at hk
    rw [z18 k f (by simp only [k18, beq_eq_false_iff_ne]; omega), i7 k f (by simp only [k19, Bool.or_eq_false_iff, beq_eq_false_iff_ne]; omega)]
  have L2 : rL (zst (zst T (18, g, p, 0) 5 x) (18, g, p, 0) 6 x) (zst (zst N (65, 0, 0, 0) (g * 4 + p) x) (66, 0, 0, 0) (g * 4 + p) x) := rL_fr (fun k f hk => z18 k f (by rcases hk with e | e <;> rw [e] <;> rfl)) (by rw [zst_k _ _ _ _ (by simp), zst_k _ _ _ _ (by simp)]) (fun f => by rw [zst_k _ _ _ _ (by simp), zst_k _ _ _ _ (by simp)]) i2
  have Y2 : xY P (zst (zst T (18, g, p, 0) 5 x) (18, g, p, 0) 6 x) := xY_fr (fun f => kk _ _ rfl) (fun t f => kk _ _ rfl) (fun g f => kk _ _ rfl) (fun g' p' => by
    rw [zst_at, if_neg (fun q => absurd q.2 (by decide)), zst_at, if_neg (fun q => absurd q.2 (by decide))]
    exact i7 _ _ rfl) (s5_fr ((zfr.rf.st rfl).st rfl) i5) hY
  have W2 : zWS P (zst (zst T (18, g, p, 0) 5 x) (18, g, p, 0) 6 x) := (i4.s18 ⟨by omega, by omega⟩ (fun _ _ _ => hx)).s18 ⟨by omega, by omega⟩ (fun _ _ _ => hx)
  exact ⟨j1, rL_settle L2, j2, xY_ku hmm.1 Y2, zku_W hP hg hp W2, j3, hP⟩
end TAKE
