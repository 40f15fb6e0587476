/-! ===== class and model answer alike ===== -/
theorem lp_five {σ : Type} {G : Int → σ → σ} {n : Int} : ∀ (k : Nat) (a : Int) (d : σ), (n - a).toNat = k → lp (fun k d => lp (fun w d => G (5 * k + w) d) 0 5 d) a n d = lp G (5 * a) (5 * n) d := by
  intro k
  induction k with
  | zero => intro a d hk; rw [lp_end (by omega), lp_end (by omega)]
  | succ k ih =>
    intro a d hk
    rw [lp_step (by omega), ih (a + 1) _ (by omega), lp_split _ (5 * a) (5 * (a + 1)) (5 * n) d (by omega) (by omega) rfl, show 5 * (a + 1) = 5 * a + 5 by omega, lp_sh0 (d := 5 * a) (n := 5)]
section ANSW
variable {P : zP} {S M : zS}
theorem a_msg (h : xJ P S M) {t p o w : Int} (ht : inT P t) (hp : inP P t p) (ho : inM P t p o) : ztl S t p o w = mom M (mi M t p o) w := by
  obtain ⟨c1, c2, c3, c4, c5, c6, c7, c8⟩ := h.1.1.C t p o ht hp ho
  unfold ztl mom
  rw [c4, c5, c6, c7, c8]
theorem a_start (h : xJ P S M) {t p : Int} (ht : inT P t) (hp : inP P t p) : S (11, t, p, 0) 1 = M (47, 0, 0, 0) (t * 4 + p) := ((h.1.1.B t ht).2.2.2 p hp).symm
theorem a_end (h : xJ P S M) {t p : Int} (ht : inT P t) (hp : inP P t p) : P 2 t p = M (48, 0, 0, 0) (t * 4 + p) := (h.2.2.2.2.2.1.en ht hp).symm
theorem a_stable (h : xJ P S M) {t p : Int} (ht : inT P t) (hp : inP P t p) : zse P S t p = mEn M (t * 4 + p) := (r_se h.1.1.C h.2.2.2.2.2.1 ht hp).symm
theorem a_kept (h : xJ P S M) {t : Int} (ht : inT P t) : sm (fun p => ztk P S t p) 0 (P 1 t 0) = mkn M t := (r_kn h.1.1.C h.1.1.E h.2.2.2.2.2.1 ht).symm
theorem a_drop (h : xJ P S M) {t : Int} (ht : inT P t) : sm (fun p => ztc P S t p) 0 (P 1 t 0) = (mcl P 0 t (M, 0)).2 := ((r_cl h.1 h.2.2.2.2.2.1 (b := 0) ht).2 rfl).symm
theorem a_aside (h : xJ P S M) {g x : Int} (hg : inG P g) (hx : ¬ x = 0) : sm (fun p => zco P S g x p) 0 (P 1 (P 4 g 0) 0) = mco M g x := (r_co h.1.2.2.1 h.s1 h.1.2.2.2.1 h.1.1.E h.2.2.2.2.2.1 hg hx).symm
theorem a_sum (h : xJ P S M) {g : Int} (hg : inG P g) : sm (fun p => zsu P S g p) 0 (P 1 (P 4 g 0) 0) = msu M g := (r_su h.1.2.2.1 h.s1 h.1.2.2.2.1 h.1.1.E h.2.2.2.2.2.1 hg).symm
theorem a_lag (h : xJ P S M) {g p : Int} (hg : inG P g) (hp : inQ P g p) : sm (fun o => if zkp S (P 4 g 0) p o ∧ ¬ jt S g p o then 1 else 0) (S (18, g, p, 0) 5) (zse P S (P 4 g 0) p) = mlg P M g p := (r_lg h.1.1.C h.1.2.1 h.1.2.2.1 h.s1 h.2.2.2.2.2.1 hg hp).symm
theorem a_would (h : xJ P S M) {g r : Int} (hg : inG P g) (hr : 0 ≤ r ∧ r < 6) : znp P S g r (S (0, 0, 0, 0) 6) = mwn P M g r := (r_wn h.1.1.A h.1.1.C h.1.2.1 h.1.1.G h.1.2.2.1 h.s1 h.2.2.2.1.1 h.2.2.2.2.2.1 h.2.2.2.2.1 h.2.2.2.2.2.2 hg hr).symm
theorem a_next (h : xJ P S M) {g : Int} (hg : inG P g) : lp (zng P S g (S (0, 0, 0, 0) 6) (S (0, 0, 0, 0) 8)) 0 (P 1 (P 4 g 0) 0) (-1) = mnn P M g := (r_nn h.1.1.A h.1.1.C h.1.2.1 h.1.2.2.1 h.s1 h.1.1.E h.2.2.2.2.2.1 h.2.2.2.2.1 hg).symm
theorem a_cell (h : xJ P S M) {g p o : Int} (hg : inG P g) (hp : inQ P g p) (ho : inM P (P 4 g 0) p o) : S (19, g, p, 0) o = M (69, 0, 0, 0) (g * 80 + mi M (P 4 g 0) p o) ∧ S (20, g, p, 0) o = M (70, 0, 0, 0) (g * 80 + mi M (P 4 g 0) p o) := by
  obtain ⟨h1, h2, -⟩ := cell_eq h.1.2.2 hg hp ho ((h.2.2.1 g p hg hp).1 o ho)
  exact ⟨h1.symm, h2.symm⟩
theorem a_share (h : xJ P S M) {g p r v : Int} (hg : inG P g) (hp : inQ P g p) (hr : 0 ≤ r ∧ r < 6) (hv : M (68, 0, 0, 0) (g * 6 + r) = 0 ∧ v = 1 ∨ M (68, 0, 0, 0) (g * 6 + r) = 1 ∧ v = 0) : zsr P S g p r = msh P (zst M (68, 0, 0, 0) (g * 6 + r) v) g p := by
  have hV := h.2.2.2.2.2.1
  refine (r_sh (hV.qt (hV.qg hg)) hp (fun r' h1 h2 => ?_)).symm
  obtain ⟨g1, g2⟩ := h.1.1.G g r' hg h1 h2
  show _ ↔ ¬ ¬ S (17, g, 0, 0) r' = (if r' = r then 1 else 0)
  by_cases hc : r' = r
  · subst hc
    rw [zst_s, if_pos rfl, ← g1]
    rcases hv with ⟨h3, h4⟩ | ⟨h3, h4⟩ <;> rw [h3, h4]
    · exact ⟨fun q => by omega, fun q => absurd (fun q2 => by omega) q⟩
    · exact ⟨fun _ q => q rfl, fun _ => rfl⟩
  · rw [zst_f _ _ _ (fun e => hc (by omega)), if_neg hc, g1]
    exact ⟨fun q q2 => q2 q, fun q => Classical.byContradiction q⟩
theorem a_row (h : xJ P S M) {x w : Int} : S (2, 0, 0, 0) (5 * x + w) = M (73, 0, 0, 0) (x * 5 + w) := by
  rw [h.2.1.2, show x * 5 = 5 * x by omega]
theorem a_digest (h : xJ P S M) : zdg P S = mdg P M := by
  obtain ⟨hX, hL, hZ, hY, hW, hV, hP⟩ := id h
  have hA := hX.1.A
  unfold zdg mdg
  rw [hA.1, hL.1]
  have e1 : ∀ d, lp (zxt P S) 0 (P 0 0 0) d = lp (mxt P M) 0 (P 0 0 0) d := fun d => lp_cg _ _ _ _ rfl (fun t d h1 h2 => by
    have ht : inT P t := ⟨h1, h2⟩
    unfold zxt mxt
    rw [lp_sh0, a_kept h ht, a_drop h ht]
    refine lp_cg _ _ _ _ rfl (fun p d h3 h4 => ?_)
    have hp : inP P t p := ⟨h3, h4⟩
    unfold zxp mxp
    rw [a_start h ht hp, a_stable h ht hp, ← a_end h ht hp]
    refine lp_cg _ _ _ _ rfl (fun o d h5 h6 => ?_)
    unfold zxo mxo
    refine lp_cg _ _ _ _ rfl (fun w d _ _ => ?_)
    unfold zxm mxm
    rw [a_msg h ht hp ⟨h5, h6⟩])
  have e2 : ∀ d, lp (zxg P S) 0 (P 3 0 0) d = lp (mxg P M) 0 (P 3 0 0) d := fun d => lp_cg _ _ _ _ rfl (fun g d h1 h2 => by
    have hg : inG P g := ⟨h1, h2⟩
    unfold zxg mxg
    rw [a_aside h hg (by decide), a_next h hg]
    refine lp_cg _ _ _ _ rfl (fun p d h3 h4 => ?_)
    have hp : inQ P g p := ⟨h3, h4⟩
    obtain ⟨f1, f2, f3⟩ := hX.2.1 g p hg hp
    unfold zxq mxq
    rw [a_lag h hg hp, f1, f2, f3]
    refine lp_cg _ _ _ _ rfl (fun o d h5 h6 => ?_)
    obtain ⟨c1, c2⟩ := a_cell h hg hp ⟨h5, h6⟩
    unfold zxs mxs
    rw [c1, c2])
  have e3 : ∀ d, lp (zxn P S) 0 (P 3 0 0) d = lp (mxn P M) 0 (P 3 0 0) d := fun d => lp_cg _ _ _ _ rfl (fun g d h1 h2 => by
    unfold zxn mxn
    refine lp_cg _ _ _ _ rfl (fun r d h3 h4 => ?_)
    unfold zxr mxr
    rw [a_would h ⟨h1, h2⟩ ⟨h3, h4⟩])
  have e4 : ∀ d, lp (zxl S) 0 (S (1, 0, 0, 0) 1) d = lp (mxl M) 0 (5 * S (1, 0, 0, 0) 1) d := fun d => by
    have h5 := lp_five (G := mxl M) (n := S (1, 0, 0, 0) 1) _ 0 d rfl
    rw [show (5 : Int) * 0 = 0 by omega] at h5
    rw [← h5]
    refine lp_cg _ _ _ _ rfl (fun k d _ _ => ?_)
    unfold zxl
    refine lp_cg _ _ _ _ rfl (fun w d _ _ => ?_)
    unfold zxw mxl
    rw [hL.2]
  rw [e1, e2, e3, e4]
end ANSW
