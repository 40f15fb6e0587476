/-! ===== the Pier's acts: answer ===== -/
section MXK
variable {K : Nat → Bool} {P : zP} {S T : zS}
def mxk (K : Nat → Bool) (S T : zS) : zS := fun k f => if K k.1 = true then S k f else T k f
theorem mxk_at {k : zK} {f : Int} (h : K k.1 = true) : mxk K S T k f = S k f := if_pos h
theorem mxk_st {k : zK} {f v : Int} (h : K k.1 = true) : zst (mxk K S T) k f v = mxk K (zst S k f v) T := by
  funext k' f'
  rw [zst_at]
  unfold mxk
  by_cases hc : k' = k ∧ f' = f
  · rw [if_pos hc, hc.1, hc.2, if_pos h, zst_s]
  · rw [if_neg hc]
    by_cases h4 : K k'.1 = true
    · rw [if_pos h4, if_pos h4, zst_at, if_neg hc]
    · rw [if_neg h4, if_neg h4]
theorem lp_mxk {f : Int → zS → zS} (h : ∀ o S, f o (mxk K S T) = mxk K (f o S) T) : ∀ (k : Nat) (a n : Int) (S : zS), (n - a).toNat = k → lp f a n (mxk K S T) = mxk K (lp f a n S) T := by
  intro k
  induction k with
  | zero => intro a n S hk; rw [lp_end (by omega), lp_end (by omega)]
  | succ k ih => intro a n S hk; rw [lp_step (f := f) (a := a) (n := n) (s := mxk K S T) (by omega), lp_step (f := f) (a := a) (n := n) (s := S) (by omega), h, ih _ _ _ (by omega)]
theorem zfg_mxk (h19 : K 19 = true) (h20 : K 20 = true) {g p o : Int} : zfg (mxk K S T) g p o = mxk K (zfg S g p o) T := by
  unfold zfg
  rw [mxk_st (k := (19, g, p, 0)) h19, mxk_st (k := (20, g, p, 0)) h20]
theorem zku_mxk (h14 : K 14 = true) (h18 : K 18 = true) (h19 : K 19 = true) (h20 : K 20 = true) {g p : Int} : zku P (mxk K S T) g p = mxk K (zku P S g p) T := by
  have hk1 : ∀ o S, zk1 P g p o (mxk K S T) = mxk K (zk1 P g p o S) T := fun o S => by
    have e14 : mxk K S T (14, P 4 g 0, p, o) 5 = S (14, P 4 g 0, p, o) 5 := mxk_at h14
    have e19 : mxk K S T (19, g, p, 0) o = S (19, g, p, 0) o := mxk_at h19
    show (if ¬ mxk K S T (14, P 4 g 0, p, o) 5 = 0 ∧ (mxk K S T (19, g, p, 0) o = 1 ∨ mxk K S T (19, g, p, 0) o = 2) then zfg (mxk K S T) g p o else mxk K S T) = mxk K (if ¬ S (14, P 4 g 0, p, o) 5 = 0 ∧ (S (19, g, p, 0) o = 1 ∨ S (19, g, p, 0) o = 2) then zfg S g p o else S) T
    rw [e14, e19]
    split
    · exact zfg_mxk h19 h20
    · rfl
  have hmk : ∀ (n : Nat) (S : zS), zmk P g p n (mxk K S T) = mxk K (zmk P g p n S) T := by
    intro n
    induction n with
    | zero => intro S; rfl
    | succ n ih =>
      intro S
      have e18 : mxk K S T (18, g, p, 0) 5 = S (18, g, p, 0) 5 := mxk_at h18
      have hiff : zmc P g p (mxk K S T) ↔ zmc P g p S := by
        show (mxk K S T (18, g, p, 0) 5 < P 2 (P 4 g 0) p ∧ (¬ mxk K S T (14, P 4 g 0, p, mxk K S T (18, g, p, 0) 5) 5 = 0 ∨ mxk K S T (14, P 4 g 0, p, mxk K S T (18, g, p, 0) 5) 4 = 1 ∨ (mxk K S T (19, g, p, 0) (mxk K S T (18, g, p, 0) 5) = 3 ∨ mxk K S T (19, g, p, 0) (mxk K S T (18, g, p, 0) 5) = 4))) ↔ _
        rw [e18, mxk_at (k := (14, P 4 g 0, p, S (18, g, p, 0) 5)) h14, mxk_at (k := (14, P 4 g 0, p, S (18, g, p, 0) 5)) h14, mxk_at (k := (19, g, p, 0)) h19]
      by_cases hc : zmc P g p S
      · rw [zmk_go n hc, zmk_go n (hiff.mpr hc), e18, mxk_st (k := (18, g, p, 0)) h18, ih]
      · rw [zmk_stop _ hc, zmk_stop _ (fun q => hc (hiff.mp q))]
  unfold zku
  rw [lp_mxk hk1 _ _ _ _ rfl]
  generalize lp (zk1 P g p) 0 (P 2 (P 4 g 0) p) S = U
  rw [mxk_at (k := (18, g, p, 0)) h18, hmk]
  generalize zmk P g p _ U = W
  rw [mxk_at (k := (18, g, p, 0)) h18, mxk_at (k := (18, g, p, 0)) h18, mxk_st (k := (18, g, p, 0)) h18]
def kl (n : Nat) : Bool := !(n == 1 || n == 2)
theorem zku_lw {g p a b c d e : Int} : zku P (zlw S a b c d e) g p = zlw (zku P S g p) a b c d e := by
  have e1 : zlw S a b c d e = mxk kl S (zlw S a b c d e) := by
    funext k f
    unfold mxk
    split
    · next h => exact zlw_k (by unfold kl at h; simp at h; exact h)
    · rfl
  have hz : zfr k189 S (zku P S g p) := zku_fr rfl rfl rfl
  rw [e1, zku_mxk rfl rfl rfl rfl]
  funext k f
  unfold mxk
  split
  · next h => exact (zlw_k (by unfold kl at h; simp at h; exact h)).symm
  · next h =>
    have hk : k.1 = 1 ∨ k.1 = 2 := by unfold kl at h; simp at h; omega
    refine congrFun (zlw_cg (hz _ _ rfl).symm (funext fun f => (hz k f (by rcases hk with q | q <;> rw [q] <;> rfl)).symm)) f
end MXK
theorem zku_O {P : zP} {S : zS} {g p : Int} : cO g p S (zku P S g p) := by
  have h1 : cO g p S (lp (zk1 P g p) 0 (P 2 (P 4 g 0) p) S) := by
    have key : ∀ (k : Nat) (a n : Int) (s : zS), (n - a).toNat = k → cO g p s (lp (zk1 P g p) a n s) := by
      intro k
      induction k with
      | zero => intro a n s hk; rw [lp_end (by omega)]; exact cO.rf
      | succ k ih =>
        intro a n s hk
        rw [lp_step (by omega)]
        refine cO.tr ?_ (ih _ _ _ (by omega))
        unfold zk1
        split
        · exact (cO.rf.st (Or.inr (Or.inl rfl))).st (Or.inr (Or.inr (Or.inl rfl)))
        · exact cO.rf
    exact key _ _ _ _ rfl
  unfold zku
  exact (h1.tr (zmk_O _ _).1).st (Or.inl rfl)
theorem zB_l {V : zS} {g p o : Int} : V (1, 0, 0, 0) 1 ≤ zB V g p o (1, 0, 0, 0) 1 := by
  by_cases h : 3 ≤ V (20, g, p, 0) o
  · rw [zB_3 h]
    refine Int.le_trans ?_ zlw_l
    rw [zst_k _ _ _ _ (by simp)]
    exact zlw_l
  · rw [zB_lt h, zst_k _ _ _ _ (by simp), zst_k _ _ _ _ (by simp)]
    exact zlw_l
section ZANS
variable {P : zP} {V : zS} {g p o : Int}
theorem zJ_nack (h : zJ P V) (hg : inG P g) (hp : inQ P g p) (ho : inM P (P 4 g 0) p o) (h1 : V (19, g, p, 0) o = 1) : zkA P (zB V g p o) = zku P (zB V g p o) g p ∧ zJ P (zku P (zB V g p o) g p) ∧ zSet P (zB V g p o) := by
  have hP := h.wp
  have hq := hP.n
  have hM := hP.m (hP.g hg) hp
  have hN := hP.t (hP.g hg)
  have hg2 := hg.2
  have hd0 := h.st g p o hg hp ho
  have hc := h.wv.W.c g p o
  have hK := (h.k0.nk hg hp ho h1 ⟨by omega, by omega⟩).ku hP hg hp
  have hV := zku_V hP hg hp (zB_V h.wv (g := g) (p := p) (o := o) ⟨by omega, by omega⟩ ⟨by omega, by omega⟩ ⟨by omega, by omega⟩)
  have hfz : zfr (fun n => n == 1 || (n == 2 || (n == 18 || (n == 19 || (n == 20 || n == 21))))) V (zku P (zB V g p o) g p) := (zB_fr rfl rfl rfl rfl).tr (zku_fr rfl rfl rfl)
  have hz := h.xz
  have hT := zTr_k hfz ⟨rfl, rfl, rfl, rfl, rfl⟩ h.tr
  have hH := zHD_k hfz ⟨rfl, rfl, rfl, rfl⟩ h.hd
  obtain ⟨-, ⟨M, hxM⟩, -⟩ := h
  have hx := (o_nack hxM hg hp ho h1).1
  refine ⟨zkA_one hg hp (fun g' p' hg' hp' hne => sg_fr (fun o f => zB_k rfl) (fun f _ => zB_k rfl) (fun f => zB_O g' p' hne f) (hz g' p' hg' hp')) (hx.2.2.1 g p hg hp) zku_O, ⟨hV, ⟨_, hx⟩, hT, hH, hK⟩, fun g' p' o' hg' hp' ho' q => ?_⟩
  obtain ⟨q1, q2⟩ := q
  rw [zB_k rfl] at q1
  have q3 : zB V g p o (19, g', p', 0) o' = 1 ∨ zB V g p o (19, g', p', 0) o' = 2 := q2
  by_cases hc1 : g' = g ∧ p' = p ∧ o' = o
  · obtain ⟨rfl, rfl, rfl⟩ := hc1
    exact hd0 ⟨q1, Or.inl h1⟩
  · have e : zB V g p o (19, g', p', 0) o' = V (19, g', p', 0) o' := by
      have hne : ¬ (((19 : Nat), g', p', (0 : Int)) = (19, g, p, (0 : Int)) ∧ o' = o) := fun q => hc1 (by have := q.1; simp at this; exact ⟨this.1, this.2, q.2⟩)
      by_cases h3 : 3 ≤ V (20, g, p, 0) o
      · rw [zB_3 h3, zlw_k ⟨by simp, by simp⟩, zst_at, if_neg hne, zlw_k ⟨by simp, by simp⟩]
      · rw [zB_lt h3, zst_k _ _ _ _ (by simp), zst_at, if_neg hne, zlw_k ⟨by simp, by simp⟩]
    rw [e] at q3
    exact hxM.s1 g' p' o' hg' hp' ho' ⟨q1, q3⟩
theorem zJ_ack (h : zJ P V) (hg : inG P g) (hp : inQ P g p) (ho : inM P (P 4 g 0) p o) (h1 : V (19, g, p, 0) o = 1) : zkA P (zlw (zst V (19, g, p, 0) o 3) 1 g p o (V (0, 0, 0, 0) 6)) = zlw (zku P (zst V (19, g, p, 0) o 3) g p) 1 g p o (V (0, 0, 0, 0) 6) ∧ zJ P (zlw (zku P (zst V (19, g, p, 0) o 3) g p) 1 g p o (V (0, 0, 0, 0) 6)) ∧ zSet P (zlw (zst V (19, g, p, 0) o 3) 1 g p o (V (0, 0, 0, 0) 6)) := by
  have hP := h.wp
  have hq := hP.n
  have hM := hP.m (hP.g hg) hp
  have hN := hP.t (hP.g hg)
  have hg2 := hg.2
  have hk := h.wv.W.k
  have hc := h.wv.W.c g p o
  have hK := (h.k0.ak hg hp ho h1 (by omega)).ku hP hg hp
  rw [zku_lw] at hK
  have hV := (zku_V hP hg hp (h.wv.s19 (g := g) (p := p) (f := o) (v := 3) ⟨by omega, by omega⟩ (fun q => by omega))).lw (a := 1) (b := g) (c := p) (d := o) (e := V (0, 0, 0, 0) 6) ⟨by omega, by omega⟩ ⟨by omega, by omega⟩ ⟨by omega, by omega⟩ ⟨by omega, by omega⟩ ⟨by omega, by omega⟩
  have hfz : zfr (fun n => n == 1 || (n == 2 || (n == 18 || (n == 19 || n == 20)))) V (zlw (zku P (zst V (19, g, p, 0) o 3) g p) 1 g p o (V (0, 0, 0, 0) 6)) := ((zfr.rf.st rfl).tr (zku_fr rfl rfl rfl)).tr (zlw_fr rfl rfl)
  have hz := h.xz
  have hT := zTr_k hfz ⟨rfl, rfl, rfl, rfl, rfl⟩ h.tr
  have hH := zHD_k hfz ⟨rfl, rfl, rfl, rfl⟩ h.hd
  have hst := h.st
  obtain ⟨-, ⟨M, hxM⟩, -⟩ := h
  have hx := (o_ack hxM hg hp ho h1).1
  have n19 : ∀ g' p' f, ¬ (g' = g ∧ p' = p ∧ f = o) → zlw (zst V (19, g, p, 0) o 3) 1 g p o (V (0, 0, 0, 0) 6) (19, g', p', 0) f = V (19, g', p', 0) f := fun g' p' f hne => by
    rw [zlw_k ⟨by simp, by simp⟩, zst_at, if_neg (fun q => hne (by have := q.1; simp at this; exact ⟨this.1, this.2, q.2⟩))]
  refine ⟨?_, ⟨hV, ⟨_, hx⟩, hT, hH, hK⟩, fun g' p' o' hg' hp' ho' q => ?_⟩
  · rw [← zku_lw]
    refine zkA_one hg hp (fun g' p' hg' hp' hne => sg_fr (fun o f => by rw [zlw_k ⟨by simp, by simp⟩, zst_k _ _ _ _ (by simp)]) (fun f _ => by rw [zlw_k ⟨by simp, by simp⟩, zst_k _ _ _ _ (by simp)]) (fun f => n19 _ _ _ (fun q => hne ⟨q.1, q.2.1⟩)) (hz g' p' hg' hp')) ?_ zku_O
    rw [zku_lw]
    exact hx.2.2.1 g p hg hp
  · obtain ⟨q1, q2⟩ := q
    rw [zlw_k ⟨by simp, by simp⟩, zst_k _ _ _ _ (by simp)] at q1
    have q3 : zlw (zst V (19, g, p, 0) o 3) 1 g p o (V (0, 0, 0, 0) 6) (19, g', p', 0) o' = 1 ∨ zlw (zst V (19, g, p, 0) o 3) 1 g p o (V (0, 0, 0, 0) 6) (19, g', p', 0) o' = 2 := q2
    by_cases hc1 : g' = g ∧ p' = p ∧ o' = o
    · obtain ⟨rfl, rfl, rfl⟩ := hc1
      rw [zlw_k ⟨by simp, by simp⟩, zst_s] at q3
      omega
    · rw [n19 _ _ _ hc1] at q3
      exact hst g' p' o' hg' hp' ho' ⟨q1, q3⟩
end ZANS
set_option maxHeartbeats 4000000 in
set_option maxRecDepth 100000 in
theorem c_X7_answer {l : Launch} {Δ : zDl} {ad : zK → Nat} {Q : zP} {V : zS} {X : zMem}  (hJ : zJ Q V) (hX : X = mm Δ ad Q V z00) (hL : Δ.2.2.2.2.1 ≤ 3072) (hD : V (200, 0, 0, 0) 2 ≤ 930000) (h4 : V (0, 0, 0, 0) 4 ≤ 190) (h3 : 1 ≤ Q 3 0 0) : zMn l Δ yX7_answer cX7_answer 9 (some .boolean) 10 4 412 [.ref (ad (200, 0, 0, 0))] ad (pm Δ ad Q V X) (zAct Δ ad Q V 1000) := by
  refine zMn_of (by decide) (Nat.le_of_ble_eq_true rfl) (fun Γ hl hΔ hF => ?_)
  subst hl hΔ
  show G Γ _ _ _ RX7 _ _ _ _ _ [(0, .ref (ad (200, 0, 0, 0)))] []
  have hP := hJ.wp
  have hV := hJ.wv
  have hq := hP.n
  have hdw := hV.dw
  have hX2 : X (230, 0, 0, 0) = none ∧ X (231, 0, 0, 0) = none := by rw [hX]; exact ⟨rfl, rfl⟩
  refine G_aload_n (pc := 0) 0 0 dX7_answer_0 rfl rfl ?_
  refine G_aload_n (pc := 1) 0 0 dX7_answer_1 rfl rfl ?_
  refine G_getfV (pc := 2) (w := Q 3 0 0) fl_X7_105 dX7_answer_2 pg_200 rfl (congrArg (fun z => Value.int (zI z)) hV.gn) ?_
  refine G_callV (pc := 5) gk_X7_94 dX7_answer_5 pg_200 rfl (c_X7_draw (n := (Q 3 0 0)) hV (by assumption) ⟨by omega, by omega⟩) rfl rfl (Nat.le_of_ble_eq_true rfl) ⟨⟨Nat.le_of_ble_eq_true rfl, Nat.le_of_ble_eq_true rfl⟩, Nat.le_of_ble_eq_true rfl, Nat.le_of_ble_eq_true rfl⟩ (fun vx adx Mx hpo => ?_)
  obtain ⟨r5, hr5, rfl, hadx, rfl⟩ := hpo
  rw [hadx]
  show G Γ _ _ _ _ _ _ (0) (0) 8 [(0, .ref (ad (200, 0, 0, 0)))] [.int (zI r5)]
  refine G_nameV (fun V1_5 hV1_5 => ?_)
  have hVV1_5 : zWV Q V1_5 := by rw [hV1_5]; exact hV.s200_2 ⟨by omega, by omega⟩
  have hdV1_5 : V1_5 (200, 0, 0, 0) 2 = V (200, 0, 0, 0) 2 + 1 := by rw [hV1_5, zst_s]
  have hfV1_5 : ∀ k f, k ≠ (200, 0, 0, 0) → V1_5 k f = V k f := fun k f hk => by rw [hV1_5, zst_k _ _ _ _ hk]
  have hJV1_5 : zJ Q V1_5 := by rw [hV1_5]; exact zJ_dr hJ ⟨by omega, by omega⟩
  have hXV1_5 : X = mm (z_d Γ) ad Q V1_5 z00 := by rw [hV1_5, mm_st (by decide)]; exact hX
  refine G_istore_n (pc := 8) 1 [(1, .int (zI r5)), (0, .ref (ad (200, 0, 0, 0)))] dX7_answer_8 rfl (by decide) rfl ?_
  have hg : inG Q r5 := ⟨by omega, by omega⟩
  have hG := hP.g hg
  have hN := hP.t hG
  refine G_aload_n (pc := 9) 0 1 dX7_answer_9 rfl rfl ?_
  refine G_aload_n (pc := 10) 0 1 dX7_answer_10 rfl rfl ?_
  refine G_getf (pc := 11) fl_X7_25 dX7_answer_11 pg_200 rfl ?_
  refine G_aload_n (pc := 14) 0 1 dX7_answer_14 rfl rfl ?_
  refine G_getf (pc := 15) fl_X7_51 dX7_answer_15 pg_200 rfl ?_
  refine G_iload_n (pc := 18) 1 0 dX7_answer_18 rfl rfl ?_
  refine G_ialdV (pc := 19) (Q 4 r5 0) dX7_answer_19 pg_213 ⟨by omega, by omega, by omega, by omega⟩ (hVV1_5.of (by first | assumption | omega | exact ⟨by omega, by omega⟩ | exact ⟨⟨by omega, by omega⟩, by omega⟩ | exact zWV.R (by assumption) _ _)) ?_
  refine G_aldA (pc := 20) (t := 7) rfl dX7_answer_20 pg_201 ⟨by omega, by omega, by omega, by omega⟩ rfl ?_
  refine G_alenV (pc := 21) (t := 6) (Q 1 (Q 4 r5 0) 0) rfl dX7_answer_21 (pg_202 (by first | assumption | omega | exact ⟨by omega, by omega⟩ | exact ⟨⟨by omega, by omega⟩, by omega⟩ | exact zWV.R (by assumption) _ _)) (by omega) ?_
  refine G_callV (pc := 22) gk_X7_94 dX7_answer_22 pg_200 rfl (c_X7_draw (n := (Q 1 (Q 4 r5 0) 0)) hVV1_5 (by assumption) ⟨by omega, by omega⟩) rfl rfl (Nat.le_of_ble_eq_true rfl) ⟨⟨Nat.le_of_ble_eq_true rfl, Nat.le_of_ble_eq_true rfl⟩, Nat.le_of_ble_eq_true rfl, Nat.le_of_ble_eq_true rfl⟩ (fun vx adx Mx hpo => ?_)
  obtain ⟨r22, hr22, rfl, hadx, rfl⟩ := hpo
  rw [hadx]
  show G Γ _ _ _ _ _ _ (0) (0) 25 [(1, .int (zI r5)), (0, .ref (ad (200, 0, 0, 0)))] [.int (zI r22)]
  refine G_nameV (fun V2_22 hV2_22 => ?_)
  have hVV2_22 : zWV Q V2_22 := by rw [hV2_22]; exact hVV1_5.s200_2 ⟨by omega, by omega⟩
  have hdV2_22 : V2_22 (200, 0, 0, 0) 2 = V1_5 (200, 0, 0, 0) 2 + 1 := by rw [hV2_22, zst_s]
  have hfV2_22 : ∀ k f, k ≠ (200, 0, 0, 0) → V2_22 k f = V1_5 k f := fun k f hk => by rw [hV2_22, zst_k _ _ _ _ hk]
  have hJV2_22 : zJ Q V2_22 := by rw [hV2_22]; exact zJ_dr hJV1_5 ⟨by omega, by omega⟩
  have hXV2_22 : X = mm (z_d Γ) ad Q V2_22 z00 := by rw [hV2_22, mm_st (by decide)]; exact hXV1_5
  refine G_istore_n (pc := 25) 2 [(2, .int (zI r22)), (1, .int (zI r5)), (0, .ref (ad (200, 0, 0, 0)))] dX7_answer_25 rfl (by decide) rfl ?_
  refine G_aload_n (pc := 26) 0 2 dX7_answer_26 rfl rfl ?_
  refine G_iconst (pc := 27) dX7_answer_27 ?_
  refine G_callV (pc := 28) gk_X7_94 dX7_answer_28 pg_200 rfl (c_X7_draw (n := 3) hVV2_22 (by assumption) ⟨by omega, by omega⟩) rfl rfl (Nat.le_of_ble_eq_true rfl) ⟨⟨Nat.le_of_ble_eq_true rfl, Nat.le_of_ble_eq_true rfl⟩, Nat.le_of_ble_eq_true rfl, Nat.le_of_ble_eq_true rfl⟩ (fun vx adx Mx hpo => ?_)
  obtain ⟨r28, hr28, rfl, hadx, rfl⟩ := hpo
  rw [hadx]
  show G Γ _ _ _ _ _ _ (0) (0) 31 [(2, .int (zI r22)), (1, .int (zI r5)), (0, .ref (ad (200, 0, 0, 0)))] [.int (zI r28)]
  refine G_nameV (fun V3_28 hV3_28 => ?_)
  have hVV3_28 : zWV Q V3_28 := by rw [hV3_28]; exact hVV2_22.s200_2 ⟨by omega, by omega⟩
  have hdV3_28 : V3_28 (200, 0, 0, 0) 2 = V2_22 (200, 0, 0, 0) 2 + 1 := by rw [hV3_28, zst_s]
  have hfV3_28 : ∀ k f, k ≠ (200, 0, 0, 0) → V3_28 k f = V2_22 k f := fun k f hk => by rw [hV3_28, zst_k _ _ _ _ hk]
  have hJV3_28 : zJ Q V3_28 := by rw [hV3_28]; exact zJ_dr hJV2_22 ⟨by omega, by omega⟩
  have hXV3_28 : X = mm (z_d Γ) ad Q V3_28 z00 := by rw [hV3_28, mm_st (by decide)]; exact hXV2_22
  refine G_if_le (pc := 31) 38 dX7_answer_31 (by decide) (by first | exact zWV.R (by assumption) _ _ | exact ⟨by omega, by omega⟩ | assumption | (subst_vars; first | exact zWV.R (by assumption) _ _ | exact ⟨by omega, by omega⟩)) (fun c31 => ?_) (fun c31 => ?_)
  · refine G_iconst (pc := 38) dX7_answer_38 ?_
    refine G_istore_ne (pc := 39) 3 (fun zw => [(3, .int (zI zw)), (2, .int (zI r22)), (1, .int (zI r5)), (0, .ref (ad (200, 0, 0, 0)))]) dX7_answer_39 rfl (by decide) (fun _ => rfl) (fun v39 e39 => ?_)
    refine G_iconst (pc := 40) dX7_answer_40 ?_
    refine G_istore_e (pc := 41) (fun zw => [(4, .int (zI zw)), (3, .int (zI v39)), (2, .int (zI r22)), (1, .int (zI r5)), (0, .ref (ad (200, 0, 0, 0)))]) dX7_answer_41 (by decide) (fun _ => rfl) (fun v41 e41 => ?_)
    have L43 : ∀ (n : Nat) (k : Int) (T : zS), ((0 ≤ k ∧ k ≤ Q 1 (Q 4 r5 0) 0) ∧ zJ Q T ∧ X = mm (z_d Γ) ad Q T z00 ∧ T (200, 0, 0, 0) 2 ≤ V (200, 0, 0, 0) 2 + 3 + 80 * k ∧ T (0, 0, 0, 0) 4 = V (0, 0, 0, 0) 4 ∧ T (0, 0, 0, 0) 6 = V (0, 0, 0, 0) 6 ∧ T (1, 0, 0, 0) 1 = V (1, 0, 0, 0) 1) → (Q 1 (Q 4 r5 0) 0 - k).toNat < n → G Γ (zRm 10 4 412) cX7_answer 9 RX7 ad (pm (z_d Γ) ad Q T X) 0 0 43 [(0, .ref (ad (200, 0, 0, 0))), (1, .int (zI r5)), (2, .int (zI r22)), (3, .int (zI v39)), (4, .int (zI k))] [] := by
      intro n
      induction n with
      | zero => intro k T _ hn; omega
      | succ n ih43 =>
        intro k T hi43 hn43
        obtain ⟨hk0, hJT, hXT, hTd, hT4, hT6, hT1⟩ := hi43
        have hVT := hJT.wv
        have hdT := hVT.dw
        refine G_iload (pc := 43) 4 dX7_answer_43 rfl ?_
        refine G_aload_n (pc := 45) 0 0 dX7_answer_45 rfl rfl ?_
        refine G_getf (pc := 46) fl_X7_25 dX7_answer_46 pg_200 rfl ?_
        refine G_aload_n (pc := 49) 0 0 dX7_answer_49 rfl rfl ?_
        refine G_getf (pc := 50) fl_X7_51 dX7_answer_50 pg_200 rfl ?_
        refine G_iload_n (pc := 53) 1 1 dX7_answer_53 rfl rfl ?_
        refine G_ialdV (pc := 54) (Q 4 r5 0) dX7_answer_54 pg_213 ⟨by omega, by omega, by omega, by omega⟩ (hVT.of (by first | assumption | omega | exact ⟨by omega, by omega⟩ | exact ⟨⟨by omega, by omega⟩, by omega⟩ | exact zWV.R (by assumption) _ _)) ?_
        refine G_aldA (pc := 55) (t := 7) rfl dX7_answer_55 pg_201 ⟨by omega, by omega, by omega, by omega⟩ rfl ?_
        refine G_alenV (pc := 56) (t := 6) (Q 1 (Q 4 r5 0) 0) rfl dX7_answer_56 (pg_202 (by first | assumption | omega | exact ⟨by omega, by omega⟩ | exact ⟨⟨by omega, by omega⟩, by omega⟩ | exact zWV.R (by assumption) _ _)) (by omega) ?_
        refine G_icmp_ge (pc := 57) 251 dX7_answer_57 (by decide) (by first | exact zWV.R (by assumption) _ _ | exact ⟨by omega, by omega⟩ | assumption | (subst_vars; first | exact zWV.R (by assumption) _ _ | exact ⟨by omega, by omega⟩)) (by first | exact zWV.R (by assumption) _ _ | exact ⟨by omega, by omega⟩ | assumption | (subst_vars; first | exact zWV.R (by assumption) _ _ | exact ⟨by omega, by omega⟩)) (fun c57 => ?_) (fun c57 => ?_)
        · refine G_iconst (pc := 251) dX7_answer_251 ?_
          exact G_zret (pc := 252) hF dX7_answer_252 ⟨Nat.le_of_ble_eq_true rfl, Nat.le_of_ble_eq_true rfl⟩ (by first | exact zb_ite | omega) ⟨rfl, Q, T, ⟨rfl, rfl⟩, by rw [hXT]; rfl, hJT, by omega, by omega, by omega, by omega, by omega, by omega⟩
        · refine G_iload_n (pc := 60) 2 2 dX7_answer_60 rfl rfl ?_
          refine G_iload (pc := 61) 4 dX7_answer_61 rfl ?_
          refine G_iadd (pc := 63) dX7_answer_63 ?_
          refine G_aload_n (pc := 64) 0 0 dX7_answer_64 rfl rfl ?_
          refine G_getf (pc := 65) fl_X7_25 dX7_answer_65 pg_200 rfl ?_
          refine G_aload_n (pc := 68) 0 0 dX7_answer_68 rfl rfl ?_
          refine G_getf (pc := 69) fl_X7_51 dX7_answer_69 pg_200 rfl ?_
          refine G_iload_n (pc := 72) 1 1 dX7_answer_72 rfl rfl ?_
          refine G_ialdV (pc := 73) (Q 4 r5 0) dX7_answer_73 pg_213 ⟨by omega, by omega, by omega, by omega⟩ (hVT.of (by first | assumption | omega | exact ⟨by omega, by omega⟩ | exact ⟨⟨by omega, by omega⟩, by omega⟩ | exact zWV.R (by assumption) _ _)) ?_
          refine G_aldA (pc := 74) (t := 7) rfl dX7_answer_74 pg_201 ⟨by omega, by omega, by omega, by omega⟩ rfl ?_
          refine G_alenV (pc := 75) (t := 6) (Q 1 (Q 4 r5 0) 0) rfl dX7_answer_75 (pg_202 (by first | assumption | omega | exact ⟨by omega, by omega⟩ | exact ⟨⟨by omega, by omega⟩, by omega⟩ | exact zWV.R (by assumption) _ _)) (by omega) ?_
          refine G_irem (pc := 76) dX7_answer_76 ⟨by omega, by omega, by omega⟩ ⟨by omega, by omega, by omega⟩ ?_
          refine G_istore_e (pc := 77) (fun zw => [(5, .int (zI zw)), (0, .ref (ad (200, 0, 0, 0))), (1, .int (zI r5)), (2, .int (zI r22)), (3, .int (zI v39)), (4, .int (zI k))]) dX7_answer_77 (by decide) (fun _ => rfl) (fun v77 e77 => ?_)
          have hp : inQ Q r5 v77 := by rw [e77]; exact ⟨Int.emod_nonneg _ (by omega), Int.emod_lt_of_pos _ (by omega)⟩
          have hM := hP.m hG hp
          refine G_iconst (pc := 79) dX7_answer_79 ?_
          refine G_istore_e (pc := 80) (fun zw => [(6, .int (zI zw)), (5, .int (zI v77)), (0, .ref (ad (200, 0, 0, 0))), (1, .int (zI r5)), (2, .int (zI r22)), (3, .int (zI v39)), (4, .int (zI k))]) dX7_answer_80 (by decide) (fun _ => rfl) (fun v80 e80 => ?_)
          have L82 : ∀ (n : Nat) (o : Int) (T2 : zS), ((0 ≤ o ∧ o ≤ Q 2 (Q 4 r5 0) v77) ∧ zJ Q T2 ∧ X = mm (z_d Γ) ad Q T2 z00 ∧ T2 (200, 0, 0, 0) 2 ≤ V (200, 0, 0, 0) 2 + 3 + 80 * k + o ∧ T2 (0, 0, 0, 0) 4 = V (0, 0, 0, 0) 4 ∧ T2 (0, 0, 0, 0) 6 = V (0, 0, 0, 0) 6 ∧ T2 (1, 0, 0, 0) 1 = V (1, 0, 0, 0) 1) → (Q 2 (Q 4 r5 0) v77 - o).toNat < n → G Γ (zRm 10 4 412) cX7_answer 9 RX7 ad (pm (z_d Γ) ad Q T2 X) 0 0 82 [(0, .ref (ad (200, 0, 0, 0))), (1, .int (zI r5)), (2, .int (zI r22)), (3, .int (zI v39)), (4, .int (zI k)), (5, .int (zI v77)), (6, .int (zI o))] [] := by
            intro n
            induction n with
            | zero => intro o T2 _ hn; omega
            | succ n ih82 =>
              intro o T2 hi82 hn82
              obtain ⟨ho0, hJT2, hXT2, hTd2, hT24, hT26, hT21⟩ := hi82
              have hVT2 := hJT2.wv
              have hdT2 := hVT2.dw
              refine G_iload (pc := 82) 6 dX7_answer_82 rfl ?_
              refine G_aload_n (pc := 84) 0 0 dX7_answer_84 rfl rfl ?_
              refine G_getf (pc := 85) fl_X7_25 dX7_answer_85 pg_200 rfl ?_
              refine G_aload_n (pc := 88) 0 0 dX7_answer_88 rfl rfl ?_
              refine G_getf (pc := 89) fl_X7_51 dX7_answer_89 pg_200 rfl ?_
              refine G_iload_n (pc := 92) 1 1 dX7_answer_92 rfl rfl ?_
              refine G_ialdV (pc := 93) (Q 4 r5 0) dX7_answer_93 pg_213 ⟨by omega, by omega, by omega, by omega⟩ (hVT2.of (by first | assumption | omega | exact ⟨by omega, by omega⟩ | exact ⟨⟨by omega, by omega⟩, by omega⟩ | exact zWV.R (by assumption) _ _)) ?_
              refine G_aldA (pc := 94) (t := 7) rfl dX7_answer_94 pg_201 ⟨by omega, by omega, by omega, by omega⟩ rfl ?_
              refine G_iload (pc := 95) 5 dX7_answer_95 rfl ?_
              refine G_aldA (pc := 97) (t := 6) rfl dX7_answer_97 (pg_202 (by first | assumption | omega | exact ⟨by omega, by omega⟩ | exact ⟨⟨by omega, by omega⟩, by omega⟩ | exact zWV.R (by assumption) _ _)) ⟨by omega, by omega, by omega, by omega⟩ rfl ?_
              refine G_alenV (pc := 98) (t := 5) (Q 2 (Q 4 r5 0) v77) rfl dX7_answer_98 (pg_203 (by first | assumption | omega | exact ⟨by omega, by omega⟩ | exact ⟨⟨by omega, by omega⟩, by omega⟩ | exact zWV.R (by assumption) _ _)) (by omega) ?_
              refine G_icmp_ge (pc := 99) 245 dX7_answer_99 (by decide) (by first | exact zWV.R (by assumption) _ _ | exact ⟨by omega, by omega⟩ | assumption | (subst_vars; first | exact zWV.R (by assumption) _ _ | exact ⟨by omega, by omega⟩)) (by first | exact zWV.R (by assumption) _ _ | exact ⟨by omega, by omega⟩ | assumption | (subst_vars; first | exact zWV.R (by assumption) _ _ | exact ⟨by omega, by omega⟩)) (fun c99 => ?_) (fun c99 => ?_)
              · refine G_iinc_e (pc := 245) 4 (fun zw => [(4, .int (zI zw)), (0, .ref (ad (200, 0, 0, 0))), (1, .int (zI r5)), (2, .int (zI r22)), (3, .int (zI v39)), (5, .int (zI v77)), (6, .int (zI o))]) dX7_answer_245 rfl (by decide) (fun _ => rfl) (fun v245 e245 => ?_)
                refine G_goto (pc := 248) 43 dX7_answer_248 (by decide) ?_
                refine G_perm (lv' := [(0, .ref (ad (200, 0, 0, 0))), (1, .int (zI r5)), (2, .int (zI r22)), (3, .int (zI v39)), (4, .int (zI v245))]) [1, 2, 3, 4, 0] rfl ?_
                exact ih43 v245 T2 ⟨by omega, hJT2, hXT2, by omega, hT24, hT26, hT21⟩ (by omega)
              · refine G_aload_n (pc := 102) 0 0 dX7_answer_102 rfl rfl ?_
                refine G_getf (pc := 103) fl_X7_25 dX7_answer_103 pg_200 rfl ?_
                refine G_aload_n (pc := 106) 0 0 dX7_answer_106 rfl rfl ?_
                refine G_getf (pc := 107) fl_X7_51 dX7_answer_107 pg_200 rfl ?_
                refine G_iload_n (pc := 110) 1 1 dX7_answer_110 rfl rfl ?_
                refine G_ialdV (pc := 111) (Q 4 r5 0) dX7_answer_111 pg_213 ⟨by omega, by omega, by omega, by omega⟩ (hVT2.of (by first | assumption | omega | exact ⟨by omega, by omega⟩ | exact ⟨⟨by omega, by omega⟩, by omega⟩ | exact zWV.R (by assumption) _ _)) ?_
                refine G_aldA (pc := 112) (t := 7) rfl dX7_answer_112 pg_201 ⟨by omega, by omega, by omega, by omega⟩ rfl ?_
                refine G_iload (pc := 113) 5 dX7_answer_113 rfl ?_
                refine G_aldA (pc := 115) (t := 6) rfl dX7_answer_115 (pg_202 (by first | assumption | omega | exact ⟨by omega, by omega⟩ | exact ⟨⟨by omega, by omega⟩, by omega⟩ | exact zWV.R (by assumption) _ _)) ⟨by omega, by omega, by omega, by omega⟩ rfl ?_
                refine G_iload (pc := 116) 6 dX7_answer_116 rfl ?_
                refine G_aldA (pc := 118) (t := 5) rfl dX7_answer_118 (pg_203 (by first | assumption | omega | exact ⟨by omega, by omega⟩ | exact ⟨⟨by omega, by omega⟩, by omega⟩ | exact zWV.R (by assumption) _ _)) ⟨by omega, by omega, by omega, by omega⟩ rfl ?_
                refine G_astore (pc := 119) [(7, .ref (ad (204, Q 4 r5 0, v77, o))), (0, .ref (ad (200, 0, 0, 0))), (1, .int (zI r5)), (2, .int (zI r22)), (3, .int (zI v39)), (4, .int (zI k)), (5, .int (zI v77)), (6, .int (zI o))] dX7_answer_119 (by decide) rfl ?_
                have ho : inM Q (Q 4 r5 0) v77 o := ⟨by omega, by omega⟩
                refine G_aload (pc := 121) 0 dX7_answer_121 rfl ?_
                refine G_iconst (pc := 123) dX7_answer_123 ?_
                refine G_iconst (pc := 124) dX7_answer_124 ?_
                refine G_iload_n (pc := 125) 1 2 dX7_answer_125 rfl rfl ?_
                refine G_imul (pc := 126) dX7_answer_126 ?_
                refine G_iadd (pc := 127) dX7_answer_127 ?_
                refine G_ialdV (pc := 128) (T2 (19, r5, v77, 0) o) dX7_answer_128 (pg_204 (by first | assumption | omega | exact ⟨by omega, by omega⟩ | exact ⟨⟨by omega, by omega⟩, by omega⟩ | exact zWV.R (by assumption) _ _)) ⟨by omega, by omega, by omega, by omega⟩ (zpr_5 (by first | assumption | omega | exact ⟨by omega, by omega⟩ | exact ⟨⟨by omega, by omega⟩, by omega⟩ | exact zWV.R (by assumption) _ _) rfl) ?_
                refine G_iconst (pc := 129) dX7_answer_129 ?_
                refine G_icmp_ne (pc := 130) 239 dX7_answer_130 (by decide) (by first | exact zWV.R (by assumption) _ _ | exact ⟨by omega, by omega⟩ | assumption | (subst_vars; first | exact zWV.R (by assumption) _ _ | exact ⟨by omega, by omega⟩)) (by first | exact zWV.R (by assumption) _ _ | exact ⟨by omega, by omega⟩ | assumption | (subst_vars; first | exact zWV.R (by assumption) _ _ | exact ⟨by omega, by omega⟩)) (fun c130 => ?_) (fun c130 => ?_)
                · refine G_iinc_e (pc := 239) 7 (fun zw => [(6, .int (zI zw)), (7, .ref (ad (204, Q 4 r5 0, v77, o))), (0, .ref (ad (200, 0, 0, 0))), (1, .int (zI r5)), (2, .int (zI r22)), (3, .int (zI v39)), (4, .int (zI k)), (5, .int (zI v77))]) dX7_answer_239 rfl (by decide) (fun _ => rfl) (fun v239 e239 => ?_)
                  refine G_goto (pc := 242) 82 dX7_answer_242 (by decide) ?_
                  refine G_perm (lv' := [(0, .ref (ad (200, 0, 0, 0))), (1, .int (zI r5)), (2, .int (zI r22)), (3, .int (zI v39)), (4, .int (zI k)), (5, .int (zI v77)), (6, .int (zI v239))]) [2, 3, 4, 5, 6, 7, 0] rfl ?_
                  exact ih82 v239 T2 ⟨by omega, hJT2, hXT2, by omega, by first | exact hT24 | (rw [hfT2 _ _ (by decide)]; exact hT24), by first | exact hT26 | (rw [hfT2 _ _ (by decide)]; exact hT26), by first | exact hT21 | (rw [hfT2 _ _ (by decide)]; exact hT21)⟩ (by omega)
                · refine G_aload_n (pc := 133) 0 1 dX7_answer_133 rfl rfl ?_
                  refine G_iconst (pc := 134) dX7_answer_134 ?_
                  refine G_callV (pc := 135) gk_X7_94 dX7_answer_135 pg_200 rfl (c_X7_draw (n := 3) hVT2 (by assumption) ⟨by omega, by omega⟩) rfl rfl (Nat.le_of_ble_eq_true rfl) ⟨⟨Nat.le_of_ble_eq_true rfl, Nat.le_of_ble_eq_true rfl⟩, Nat.le_of_ble_eq_true rfl, Nat.le_of_ble_eq_true rfl⟩ (fun vx adx Mx hpo => ?_)
                  obtain ⟨r135, hr135, rfl, hadx, rfl⟩ := hpo
                  rw [hadx]
                  show G Γ _ _ _ _ _ _ (0) (0) 138 [(7, .ref (ad (204, Q 4 r5 0, v77, o))), (0, .ref (ad (200, 0, 0, 0))), (1, .int (zI r5)), (2, .int (zI r22)), (3, .int (zI v39)), (4, .int (zI k)), (5, .int (zI v77)), (6, .int (zI o))] [.int (zI r135)]
                  refine G_nameV (fun V4_135 hV4_135 => ?_)
                  have hVV4_135 : zWV Q V4_135 := by rw [hV4_135]; exact hVT2.s200_2 ⟨by omega, by omega⟩
                  have hdV4_135 : V4_135 (200, 0, 0, 0) 2 = T2 (200, 0, 0, 0) 2 + 1 := by rw [hV4_135, zst_s]
                  have hfV4_135 : ∀ k f, k ≠ (200, 0, 0, 0) → V4_135 k f = T2 k f := fun k f hk => by rw [hV4_135, zst_k _ _ _ _ hk]
                  have hJV4_135 : zJ Q V4_135 := by rw [hV4_135]; exact zJ_dr hJT2 ⟨by omega, by omega⟩
                  have hXV4_135 : X = mm (z_d Γ) ad Q V4_135 z00 := by rw [hV4_135, mm_st (by decide)]; exact hXT2
                  refine G_if_ne (pc := 138) 144 dX7_answer_138 (by decide) (by first | exact zWV.R (by assumption) _ _ | exact ⟨by omega, by omega⟩ | assumption | (subst_vars; first | exact zWV.R (by assumption) _ _ | exact ⟨by omega, by omega⟩)) (fun c138 => ?_) (fun c138 => ?_)
                  · obtain ⟨D, hD0⟩ : ∃ D, D = V4_135 := ⟨_, rfl⟩
                    have hJD : zJ Q D := by rw [hD0]; exact hJV4_135
                    have hXD : X = mm (z_d Γ) ad Q D z00 := by rw [hD0]; exact hXV4_135
                    have h1D : D (19, r5, v77, 0) o = 1 := by rw [hD0, hfV4_135 _ _ (by simp)]; omega
                    have hDd : D (200, 0, 0, 0) 2 ≤ V (200, 0, 0, 0) 2 + 1000 := by rw [hD0]; omega
                    have hD4 : D (0, 0, 0, 0) 4 = V (0, 0, 0, 0) 4 := by rw [hD0, hfV4_135 _ _ (by decide)]; exact hT24
                    have hD6 : D (0, 0, 0, 0) 6 = V (0, 0, 0, 0) 6 := by rw [hD0, hfV4_135 _ _ (by decide)]; exact hT26
                    have hD1 : D (1, 0, 0, 0) 1 = V (1, 0, 0, 0) 1 := by rw [hD0, hfV4_135 _ _ (by decide)]; exact hT21
                    have hcD := hJD.wv.W.c r5 v77 o
                    have hkD := hJD.wv.W.k
                    have h20 : 1 ≤ V4_135 (20, r5, v77, 0) o := by rw [← hD0]; omega
                    refine G_iload_n (pc := 144) 3 4 dX7_answer_144 rfl rfl ?_
                    refine G_if_ne (pc := 145) 186 dX7_answer_145 (by decide) (by first | exact zWV.R (by assumption) _ _ | exact ⟨by omega, by omega⟩ | assumption | (subst_vars; first | exact zWV.R (by assumption) _ _ | exact ⟨by omega, by omega⟩)) (fun c145 => ?_) (fun c145 => ?_)
                    · refine G_aload (pc := 186) 0 dX7_answer_186 rfl ?_
                      refine G_iconst (pc := 188) dX7_answer_188 ?_
                      refine G_iconst (pc := 189) dX7_answer_189 ?_
                      refine G_iload_n (pc := 190) 1 2 dX7_answer_190 rfl rfl ?_
                      refine G_imul (pc := 191) dX7_answer_191 ?_
                      refine G_iadd (pc := 192) dX7_answer_192 ?_
                      refine G_iconst (pc := 193) dX7_answer_193 ?_
                      refine G_iast (pc := 194) dX7_answer_194 (pg_204 (by first | assumption | omega | exact ⟨by omega, by omega⟩ | exact ⟨⟨by omega, by omega⟩, by omega⟩ | exact zWV.R (by assumption) _ _)) ⟨by omega, by omega, by omega, by omega⟩ (pp_204_5 (by first | assumption | omega | exact ⟨by omega, by omega⟩ | exact ⟨⟨by omega, by omega⟩, by omega⟩ | exact zWV.R (by assumption) _ _) (by first | assumption | omega | exact ⟨by omega, by omega⟩ | exact ⟨⟨by omega, by omega⟩, by omega⟩ | exact zWV.R (by assumption) _ _) rfl) ?_
                      refine G_nameV (fun V5_194 hV5_194 => ?_)
                      have hVV5_194 : zWV Q V5_194 := by rw [hV5_194]; exact hVV4_135.s19 ⟨by omega, by omega⟩ (by first | assumption | omega | exact fun q => by omega)
                      refine G_aload_n (pc := 195) 0 1 dX7_answer_195 rfl rfl ?_
                      refine G_iconst (pc := 196) dX7_answer_196 ?_
                      refine G_iload_n (pc := 197) 1 2 dX7_answer_197 rfl rfl ?_
                      refine G_iload (pc := 198) 6 dX7_answer_198 rfl ?_
                      refine G_iload (pc := 200) 7 dX7_answer_200 rfl ?_
                      refine G_callV (pc := 202) gk_X7_168 dX7_answer_202 pg_200 rfl (c_X7_write (s := 1) (g := r5) (p := v77) (o := o) hVV5_194 (by assumption)) rfl rfl (Nat.le_of_ble_eq_true rfl) ⟨⟨(by exact Nat.le_of_ble_eq_true rfl), (by exact Nat.le_of_ble_eq_true rfl)⟩, (by exact Nat.le_of_ble_eq_true rfl), (by exact Nat.le_of_ble_eq_true rfl)⟩ (fun vx ad1 Mx hpo => ?_)
                      obtain ⟨rfl, had1, rfl⟩ := hpo
                      show G Γ _ _ _ _ _ _ (2) (206) 205 [(7, .ref (ad (204, Q 4 r5 0, v77, o))), (0, .ref (ad (200, 0, 0, 0))), (1, .int (zI r5)), (2, .int (zI r22)), (3, .int (zI v39)), (4, .int (zI k)), (5, .int (zI v77)), (6, .int (zI o))] []
                      rw [← had1 (204, Q 4 r5 0, v77, o) (by simp) (by simp) (by simp) (by simp)]
                      rw [← had1 (200, 0, 0, 0) (by simp) (by simp) (by simp) (by simp)]
                      refine G_nameV (fun V6_202 hV6_202 => ?_)
                      have hVV6_202 : zWV Q V6_202 := by rw [hV6_202]; exact hVV5_194.lw (by first | assumption | exact ⟨by omega, by omega⟩ | exact zWV.R (by assumption) _ _) (by first | assumption | exact ⟨by omega, by omega⟩ | exact zWV.R (by assumption) _ _) (by first | assumption | exact ⟨by omega, by omega⟩ | exact zWV.R (by assumption) _ _) (by first | assumption | exact ⟨by omega, by omega⟩ | exact zWV.R (by assumption) _ _) (by first | assumption | exact ⟨by omega, by omega⟩ | exact zWV.R (by assumption) _ _)
                      obtain ⟨hn1, hn2, hn3⟩ := zJ_ack hJD hg hp ho h1D
                      have hsn : zSet Q V6_202 := by rw [hV6_202, hV5_194, ← hD0, zst_k _ _ _ _ (by simp)]; exact hn3
                      have hXa : X = mm (z_d Γ) ad1 Q D z00 := by rw [hXD]; exact (mm_ad (fun k hk => had1 k (by omega) (by omega) (by omega) (by omega))).symm
                      have hA : ad1 (0, 0, 0, 0) = ad (0, 0, 0, 0) ∧ ad1 (200, 0, 0, 0) = ad (200, 0, 0, 0) := ⟨had1 _ (by decide) (by decide) (by decide) (by decide), had1 _ (by decide) (by decide) (by decide) (by decide)⟩
                      refine G_aload_n (pc := 205) 0 1 dX7_answer_205 rfl rfl ?_
                      refine G_callVv (pc := 206) gk_X7_126 dX7_answer_206 pg_200 rfl (c_X7_settle (by first | assumption | omega | exact ⟨by omega, by omega⟩ | exact ⟨⟨by omega, by omega⟩, by omega⟩ | exact zWV.R (by assumption) _ _) (by first | assumption | omega | exact ⟨by omega, by omega⟩ | exact ⟨⟨by omega, by omega⟩, by omega⟩ | exact zWV.R (by assumption) _ _) hsn) rfl rfl (Nat.le_of_ble_eq_true rfl) ⟨⟨Nat.le_of_ble_eq_true rfl, Nat.le_of_ble_eq_true rfl⟩, Nat.le_of_ble_eq_true rfl, Nat.le_of_ble_eq_true rfl⟩ ?_
                      refine G_nameV (fun V7_206 hV7_206 => ?_)
                      have hVV7_206 : zWV Q V7_206 := by rw [hV7_206]; exact zkA_V hP hVV6_202
                      have hSa : V7_206 = zlw (zku Q (zst D (19, r5, v77, 0) o 3) r5 v77) 1 r5 v77 o (D (0, 0, 0, 0) 6) := by rw [hV7_206, hV6_202, hV5_194, ← hD0, zst_k _ _ _ _ (by simp)]; exact hn1
                      refine G_aload_n (pc := 209) 0 1 dX7_answer_209 rfl rfl ?_
                      refine G_getf (pc := 210) fl_X7_10 dX7_answer_210 pg_200 rfl ?_
                      refine G_iload_n (pc := 213) 1 2 dX7_answer_213 rfl rfl ?_
                      refine G_iload (pc := 214) 6 dX7_answer_214 rfl ?_
                      refine G_iload (pc := 216) 7 dX7_answer_216 rfl ?_
                      rw [hXa, pm_mm]
                      refine G_callV (pc := 218) gk_X7_209 dX7_answer_218 mg_0 rfl (c_X6_ack (g := r5) (p := v77) (o := o) hP hg hp hJD.wv.W ⟨ho, h1D⟩) rfl rfl (Nat.le_of_ble_eq_true rfl) ⟨⟨Nat.le_of_ble_eq_true rfl, Nat.le_of_ble_eq_true rfl⟩, Nat.le_of_ble_eq_true rfl, Nat.le_of_ble_eq_true rfl⟩ (fun vx adx Mx hpo => ?_)
                      obtain ⟨rfl, hadx, rfl⟩ := hpo
                      rw [hadx]
                      rw [← hSa]
                      show G Γ _ _ _ _ _ _ (2) (206) 221 [(7, .ref (ad1 (204, Q 4 r5 0, v77, o))), (0, .ref (ad1 (200, 0, 0, 0))), (1, .int (zI r5)), (2, .int (zI r22)), (3, .int (zI v39)), (4, .int (zI k)), (5, .int (zI v77)), (6, .int (zI o))] [.int (zI (V7_206 (18, r5, v77, 0) 5))]
                      rw [← pm_mm]
                      refine G_aload_n (pc := 221) 0 1 dX7_answer_221 rfl rfl ?_
                      refine G_getf (pc := 222) fl_X7_54 dX7_answer_222 pg_200 rfl ?_
                      refine G_iload_n (pc := 225) 1 2 dX7_answer_225 rfl rfl ?_
                      refine G_aldA (pc := 226) (t := 5) rfl dX7_answer_226 pg_214 ⟨by omega, by omega, by omega, by omega⟩ rfl ?_
                      refine G_iload (pc := 227) 6 dX7_answer_227 rfl ?_
                      refine G_ialdV (pc := 229) (V7_206 (18, r5, v77, 0) 5) dX7_answer_229 (pg_215 (by first | assumption | omega | exact ⟨by omega, by omega⟩ | exact ⟨⟨by omega, by omega⟩, by omega⟩ | exact zWV.R (by assumption) _ _)) ⟨by omega, by omega, by omega, by omega⟩ rfl ?_
                      refine G_icmp_ne (pc := 230) 237 dX7_answer_230 (by decide) (by first | exact zWV.R (by assumption) _ _ | exact ⟨by omega, by omega⟩ | assumption | (subst_vars; first | exact zWV.R (by assumption) _ _ | exact ⟨by omega, by omega⟩)) (by first | exact zWV.R (by assumption) _ _ | exact ⟨by omega, by omega⟩ | assumption | (subst_vars; first | exact zWV.R (by assumption) _ _ | exact ⟨by omega, by omega⟩)) (fun c230 => ?_) (fun c230 => ?_)
                      · exfalso
                        exact c230 rfl
                      · refine G_iconst (pc := 233) dX7_answer_233 ?_
                        refine G_goto (pc := 234) 238 dX7_answer_234 (by decide) ?_
                        exact G_zret (pc := 238) hF dX7_answer_238 ⟨Nat.le_of_ble_eq_true rfl, Nat.le_of_ble_eq_true rfl⟩ (by first | exact zb_ite | omega) ⟨rfl, Q, V7_206, hA, by rw [hSa]; rfl, by rw [hSa]; exact hn2, by rw [hSa, zlw_k ⟨by simp, by simp⟩, zku_k rfl, zst_k _ _ _ _ (by simp)]; exact hDd, by rw [hSa, zlw_k ⟨by simp, by simp⟩, zku_k rfl, zst_k _ _ _ _ (by simp)]; omega, by rw [hSa, zlw_k ⟨by simp, by simp⟩, zku_k rfl, zst_k _ _ _ _ (by simp)]; omega, by rw [hSa, ← hD1]; exact Int.le_trans (by rw [zku_k rfl, zst_k _ _ _ _ (by simp)]; exact Int.le_refl _) (zlw_l (V := zku Q (zst D (19, r5, v77, 0) o 3) r5 v77)), by omega, by omega⟩
                    · refine G_aload_n (pc := 148) 0 1 dX7_answer_148 rfl rfl ?_
                      refine G_iload_n (pc := 149) 1 2 dX7_answer_149 rfl rfl ?_
                      refine G_iload (pc := 150) 6 dX7_answer_150 rfl ?_
                      refine G_iload (pc := 152) 7 dX7_answer_152 rfl ?_
                      refine G_callV (pc := 154) gk_X7_172 dX7_answer_154 pg_200 rfl (c_X7_nack (g := r5) (p := v77) (o := o) hP hVV4_135 hg hp ho h20 (by first | assumption | omega | exact ⟨by omega, by omega⟩ | exact ⟨⟨by omega, by omega⟩, by omega⟩ | exact zWV.R (by assumption) _ _)) rfl rfl (Nat.le_of_ble_eq_true rfl) ⟨⟨(by exact Nat.le_of_ble_eq_true rfl), (by exact Nat.le_of_ble_eq_true rfl)⟩, (by exact Nat.le_of_ble_eq_true rfl), (by exact Nat.le_of_ble_eq_true rfl)⟩ (fun vx ad2 Mx hpo => ?_)
                      obtain ⟨rfl, had2, rfl⟩ := hpo
                      show G Γ _ _ _ _ _ _ (4) (412) 157 [(7, .ref (ad (204, Q 4 r5 0, v77, o))), (0, .ref (ad (200, 0, 0, 0))), (1, .int (zI r5)), (2, .int (zI r22)), (3, .int (zI v39)), (4, .int (zI k)), (5, .int (zI v77)), (6, .int (zI o))] [.int (zI (zgbr V4_135 r5 v77 o (V4_135 (0, 0, 0, 0) 6) (V4_135 (0, 0, 0, 0) 7)))]
                      rw [← had2 (204, Q 4 r5 0, v77, o) (by simp) (by simp) (by simp) (by simp)]
                      rw [← had2 (200, 0, 0, 0) (by simp) (by simp) (by simp) (by simp)]
                      refine G_nameV (fun V8_154 hV8_154 => ?_)
                      have hVV8_154 : zWV Q V8_154 := by rw [hV8_154]; exact zB_V hVV4_135 (by first | assumption | omega | exact ⟨by omega, by omega⟩ | exact ⟨⟨by omega, by omega⟩, by omega⟩ | exact zWV.R (by assumption) _ _) (by first | assumption | omega | exact ⟨by omega, by omega⟩ | exact ⟨⟨by omega, by omega⟩, by omega⟩ | exact zWV.R (by assumption) _ _) (by first | assumption | omega | exact ⟨by omega, by omega⟩ | exact ⟨⟨by omega, by omega⟩, by omega⟩ | exact zWV.R (by assumption) _ _)
                      refine G_istore_e (pc := 157) (fun zw => [(8, .int (zI zw)), (7, .ref (ad2 (204, Q 4 r5 0, v77, o))), (0, .ref (ad2 (200, 0, 0, 0))), (1, .int (zI r5)), (2, .int (zI r22)), (3, .int (zI v39)), (4, .int (zI k)), (5, .int (zI v77)), (6, .int (zI o))]) dX7_answer_157 (by decide) (fun _ => rfl) (fun v157 e157 => ?_)
                      obtain ⟨hn1, hn2, hn3⟩ := zJ_nack hJD hg hp ho h1D
                      have hsn : zSet Q V8_154 := by rw [hV8_154, ← hD0]; exact hn3
                      have hXa : X = mm (z_d Γ) ad2 Q D z00 := by rw [hXD]; exact (mm_ad (fun k hk => had2 k (by omega) (by omega) (by omega) (by omega))).symm
                      have hA : ad2 (0, 0, 0, 0) = ad (0, 0, 0, 0) ∧ ad2 (200, 0, 0, 0) = ad (200, 0, 0, 0) := ⟨had2 _ (by decide) (by decide) (by decide) (by decide), had2 _ (by decide) (by decide) (by decide) (by decide)⟩
                      rw [← hD0] at e157
                      have hv157 : zR v157 := by
                        have hz5 := zsh_le (y := D (0, 0, 0, 0) 7) (s := D (20, r5, v77, 0) o - 1) (by omega)
                        rw [e157]
                        unfold zgbr
                        split
                        · exact ⟨by omega, by omega⟩
                        · exact ⟨by omega, by omega⟩
                      refine G_aload_n (pc := 159) 0 2 dX7_answer_159 rfl rfl ?_
                      refine G_callVv (pc := 160) gk_X7_126 dX7_answer_160 pg_200 rfl (c_X7_settle (by first | assumption | omega | exact ⟨by omega, by omega⟩ | exact ⟨⟨by omega, by omega⟩, by omega⟩ | exact zWV.R (by assumption) _ _) (by first | assumption | omega | exact ⟨by omega, by omega⟩ | exact ⟨⟨by omega, by omega⟩, by omega⟩ | exact zWV.R (by assumption) _ _) hsn) rfl rfl (Nat.le_of_ble_eq_true rfl) ⟨⟨Nat.le_of_ble_eq_true rfl, Nat.le_of_ble_eq_true rfl⟩, Nat.le_of_ble_eq_true rfl, Nat.le_of_ble_eq_true rfl⟩ ?_
                      refine G_nameV (fun V9_160 hV9_160 => ?_)
                      have hVV9_160 : zWV Q V9_160 := by rw [hV9_160]; exact zkA_V hP hVV8_154
                      have hSa : V9_160 = zku Q (zB D r5 v77 o) r5 v77 := by rw [hV9_160, hV8_154, ← hD0]; exact hn1
                      refine G_aload_n (pc := 163) 0 2 dX7_answer_163 rfl rfl ?_
                      refine G_getf (pc := 164) fl_X7_10 dX7_answer_164 pg_200 rfl ?_
                      refine G_iload_n (pc := 167) 1 3 dX7_answer_167 rfl rfl ?_
                      refine G_iload (pc := 168) 7 dX7_answer_168 rfl ?_
                      refine G_iload (pc := 170) 8 dX7_answer_170 rfl ?_
                      rw [hXa, pm_mm]
                      refine G_callV (pc := 172) gk_X7_208 dX7_answer_172 mg_0 rfl (c_X6_nack (g := r5) (p := v77) (o := o) hP hg hp hJD.wv.W ⟨ho, h1D⟩) rfl rfl (Nat.le_of_ble_eq_true rfl) ⟨⟨Nat.le_of_ble_eq_true rfl, Nat.le_of_ble_eq_true rfl⟩, Nat.le_of_ble_eq_true rfl, Nat.le_of_ble_eq_true rfl⟩ (fun vx adx Mx hpo => ?_)
                      obtain ⟨rfl, hadx, rfl⟩ := hpo
                      rw [hadx]
                      rw [← e157]
                      show G Γ _ _ _ _ _ _ (4) (412) 175 [(8, .int (zI v157)), (7, .ref (ad2 (204, Q 4 r5 0, v77, o))), (0, .ref (ad2 (200, 0, 0, 0))), (1, .int (zI r5)), (2, .int (zI r22)), (3, .int (zI v39)), (4, .int (zI k)), (5, .int (zI v77)), (6, .int (zI o))] [.int (zI v157)]
                      rw [← pm_mm]
                      refine G_iload (pc := 175) 0 dX7_answer_175 rfl ?_
                      refine G_icmp_ne (pc := 177) 184 dX7_answer_177 (by decide) (by first | exact zWV.R (by assumption) _ _ | exact ⟨by omega, by omega⟩ | assumption | (subst_vars; first | exact zWV.R (by assumption) _ _ | exact ⟨by omega, by omega⟩)) (by first | exact zWV.R (by assumption) _ _ | exact ⟨by omega, by omega⟩ | assumption | (subst_vars; first | exact zWV.R (by assumption) _ _ | exact ⟨by omega, by omega⟩)) (fun c177 => ?_) (fun c177 => ?_)
                      · exfalso
                        exact c177 rfl
                      · refine G_iconst (pc := 180) dX7_answer_180 ?_
                        refine G_goto (pc := 181) 185 dX7_answer_181 (by decide) ?_
                        exact G_zret (pc := 185) hF dX7_answer_185 ⟨Nat.le_of_ble_eq_true rfl, Nat.le_of_ble_eq_true rfl⟩ (by first | exact zb_ite | omega) ⟨rfl, Q, V9_160, hA, by rw [hSa]; rfl, by rw [hSa]; exact hn2, by rw [hSa, zku_k rfl, zB_k rfl]; exact hDd, by rw [hSa, zku_k rfl, zB_k rfl]; omega, by rw [hSa, zku_k rfl, zB_k rfl]; omega, by rw [hSa, zku_k rfl, ← hD1]; exact zB_l, by omega, by omega⟩
                  · refine G_goto (pc := 141) 239 dX7_answer_141 (by decide) ?_
                    refine G_iinc_e (pc := 239) 7 (fun zw => [(6, .int (zI zw)), (7, .ref (ad (204, Q 4 r5 0, v77, o))), (0, .ref (ad (200, 0, 0, 0))), (1, .int (zI r5)), (2, .int (zI r22)), (3, .int (zI v39)), (4, .int (zI k)), (5, .int (zI v77))]) dX7_answer_239 rfl (by decide) (fun _ => rfl) (fun v239 e239 => ?_)
                    refine G_goto (pc := 242) 82 dX7_answer_242 (by decide) ?_
                    refine G_perm (lv' := [(0, .ref (ad (200, 0, 0, 0))), (1, .int (zI r5)), (2, .int (zI r22)), (3, .int (zI v39)), (4, .int (zI k)), (5, .int (zI v77)), (6, .int (zI v239))]) [2, 3, 4, 5, 6, 7, 0] rfl ?_
                    exact ih82 v239 V4_135 ⟨by omega, hJV4_135, hXV4_135, by omega, by first | exact hT24 | (rw [hfV4_135 _ _ (by decide)]; exact hT24), by first | exact hT26 | (rw [hfV4_135 _ _ (by decide)]; exact hT26), by first | exact hT21 | (rw [hfV4_135 _ _ (by decide)]; exact hT21)⟩ (by omega)
          refine G_perm (lv' := [(0, .ref (ad (200, 0, 0, 0))), (1, .int (zI r5)), (2, .int (zI r22)), (3, .int (zI v39)), (4, .int (zI k)), (5, .int (zI v77)), (6, .int (zI v80))]) [2, 3, 4, 5, 6, 1, 0] rfl ?_
          exact L82 _ v80 T ⟨by omega, hJT, hXT, by omega, hT4, hT6, hT1⟩ (Nat.lt_succ_self _)
    refine G_perm (lv' := [(0, .ref (ad (200, 0, 0, 0))), (1, .int (zI r5)), (2, .int (zI r22)), (3, .int (zI v39)), (4, .int (zI v41))]) [4, 3, 2, 1, 0] rfl ?_
    exact L43 _ v41 V3_28 ⟨by omega, hJV3_28, hXV3_28, by omega, by rw [hfV3_28 _ _ (by decide), hfV2_22 _ _ (by decide), hfV1_5 _ _ (by decide)], by rw [hfV3_28 _ _ (by decide), hfV2_22 _ _ (by decide), hfV1_5 _ _ (by decide)], by rw [hfV3_28 _ _ (by decide), hfV2_22 _ _ (by decide), hfV1_5 _ _ (by decide)]⟩ (Nat.lt_succ_self _)
  · refine G_iconst (pc := 34) dX7_answer_34 ?_
    refine G_goto (pc := 35) 39 dX7_answer_35 (by decide) ?_
    refine G_istore_ne (pc := 39) 3 (fun zw => [(3, .int (zI zw)), (2, .int (zI r22)), (1, .int (zI r5)), (0, .ref (ad (200, 0, 0, 0)))]) dX7_answer_39 rfl (by decide) (fun _ => rfl) (fun v39 e39 => ?_)
    refine G_iconst (pc := 40) dX7_answer_40 ?_
    refine G_istore_e (pc := 41) (fun zw => [(4, .int (zI zw)), (3, .int (zI v39)), (2, .int (zI r22)), (1, .int (zI r5)), (0, .ref (ad (200, 0, 0, 0)))]) dX7_answer_41 (by decide) (fun _ => rfl) (fun v41 e41 => ?_)
    have L43 : ∀ (n : Nat) (k : Int) (T : zS), ((0 ≤ k ∧ k ≤ Q 1 (Q 4 r5 0) 0) ∧ zJ Q T ∧ X = mm (z_d Γ) ad Q T z00 ∧ T (200, 0, 0, 0) 2 ≤ V (200, 0, 0, 0) 2 + 3 + 80 * k ∧ T (0, 0, 0, 0) 4 = V (0, 0, 0, 0) 4 ∧ T (0, 0, 0, 0) 6 = V (0, 0, 0, 0) 6 ∧ T (1, 0, 0, 0) 1 = V (1, 0, 0, 0) 1) → (Q 1 (Q 4 r5 0) 0 - k).toNat < n → G Γ (zRm 10 4 412) cX7_answer 9 RX7 ad (pm (z_d Γ) ad Q T X) 0 0 43 [(0, .ref (ad (200, 0, 0, 0))), (1, .int (zI r5)), (2, .int (zI r22)), (3, .int (zI v39)), (4, .int (zI k))] [] := by
      intro n
      induction n with
      | zero => intro k T _ hn; omega
      | succ n ih43 =>
        intro k T hi43 hn43
        obtain ⟨hk0, hJT, hXT, hTd, hT4, hT6, hT1⟩ := hi43
        have hVT := hJT.wv
        have hdT := hVT.dw
        refine G_iload (pc := 43) 4 dX7_answer_43 rfl ?_
        refine G_aload_n (pc := 45) 0 0 dX7_answer_45 rfl rfl ?_
        refine G_getf (pc := 46) fl_X7_25 dX7_answer_46 pg_200 rfl ?_
        refine G_aload_n (pc := 49) 0 0 dX7_answer_49 rfl rfl ?_
        refine G_getf (pc := 50) fl_X7_51 dX7_answer_50 pg_200 rfl ?_
        refine G_iload_n (pc := 53) 1 1 dX7_answer_53 rfl rfl ?_
        refine G_ialdV (pc := 54) (Q 4 r5 0) dX7_answer_54 pg_213 ⟨by omega, by omega, by omega, by omega⟩ (hVT.of (by first | assumption | omega | exact ⟨by omega, by omega⟩ | exact ⟨⟨by omega, by omega⟩, by omega⟩ | exact zWV.R (by assumption) _ _)) ?_
        refine G_aldA (pc := 55) (t := 7) rfl dX7_answer_55 pg_201 ⟨by omega, by omega, by omega, by omega⟩ rfl ?_
        refine G_alenV (pc := 56) (t := 6) (Q 1 (Q 4 r5 0) 0) rfl dX7_answer_56 (pg_202 (by first | assumption | omega | exact ⟨by omega, by omega⟩ | exact ⟨⟨by omega, by omega⟩, by omega⟩ | exact zWV.R (by assumption) _ _)) (by omega) ?_
        refine G_icmp_ge (pc := 57) 251 dX7_answer_57 (by decide) (by first | exact zWV.R (by assumption) _ _ | exact ⟨by omega, by omega⟩ | assumption | (subst_vars; first | exact zWV.R (by assumption) _ _ | exact ⟨by omega, by omega⟩)) (by first | exact zWV.R (by assumption) _ _ | exact ⟨by omega, by omega⟩ | assumption | (subst_vars; first | exact zWV.R (by assumption) _ _ | exact ⟨by omega, by omega⟩)) (fun c57 => ?_) (fun c57 => ?_)
        · refine G_iconst (pc := 251) dX7_answer_251 ?_
          exact G_zret (pc := 252) hF dX7_answer_252 ⟨Nat.le_of_ble_eq_true rfl, Nat.le_of_ble_eq_true rfl⟩ (by first | exact zb_ite | omega) ⟨rfl, Q, T, ⟨rfl, rfl⟩, by rw [hXT]; rfl, hJT, by omega, by omega, by omega, by omega, by omega, by omega⟩
        · refine G_iload_n (pc := 60) 2 2 dX7_answer_60 rfl rfl ?_
          refine G_iload (pc := 61) 4 dX7_answer_61 rfl ?_
          refine G_iadd (pc := 63) dX7_answer_63 ?_
          refine G_aload_n (pc := 64) 0 0 dX7_answer_64 rfl rfl ?_
          refine G_getf (pc := 65) fl_X7_25 dX7_answer_65 pg_200 rfl ?_
          refine G_aload_n (pc := 68) 0 0 dX7_answer_68 rfl rfl ?_
          refine G_getf (pc := 69) fl_X7_51 dX7_answer_69 pg_200 rfl ?_
          refine G_iload_n (pc := 72) 1 1 dX7_answer_72 rfl rfl ?_
          refine G_ialdV (pc := 73) (Q 4 r5 0) dX7_answer_73 pg_213 ⟨by omega, by omega, by omega, by omega⟩ (hVT.of (by first | assumption | omega | exact ⟨by omega, by omega⟩ | exact ⟨⟨by omega, by omega⟩, by omega⟩ | exact zWV.R (by assumption) _ _)) ?_
          refine G_aldA (pc := 74) (t := 7) rfl dX7_answer_74 pg_201 ⟨by omega, by omega, by omega, by omega⟩ rfl ?_
          refine G_alenV (pc := 75) (t := 6) (Q 1 (Q 4 r5 0) 0) rfl dX7_answer_75 (pg_202 (by first | assumption | omega | exact ⟨by omega, by omega⟩ | exact ⟨⟨by omega, by omega⟩, by omega⟩ | exact zWV.R (by assumption) _ _)) (by omega) ?_
          refine G_irem (pc := 76) dX7_answer_76 ⟨by omega, by omega, by omega⟩ ⟨by omega, by omega, by omega⟩ ?_
          refine G_istore_e (pc := 77) (fun zw => [(5, .int (zI zw)), (0, .ref (ad (200, 0, 0, 0))), (1, .int (zI r5)), (2, .int (zI r22)), (3, .int (zI v39)), (4, .int (zI k))]) dX7_answer_77 (by decide) (fun _ => rfl) (fun v77 e77 => ?_)
          have hp : inQ Q r5 v77 := by rw [e77]; exact ⟨Int.emod_nonneg _ (by omega), Int.emod_lt_of_pos _ (by omega)⟩
          have hM := hP.m hG hp
          refine G_iconst (pc := 79) dX7_answer_79 ?_
          refine G_istore_e (pc := 80) (fun zw => [(6, .int (zI zw)), (5, .int (zI v77)), (0, .ref (ad (200, 0, 0, 0))), (1, .int (zI r5)), (2, .int (zI r22)), (3, .int (zI v39)), (4, .int (zI k))]) dX7_answer_80 (by decide) (fun _ => rfl) (fun v80 e80 => ?_)
          have L82 : ∀ (n : Nat) (o : Int) (T2 : zS), ((0 ≤ o ∧ o ≤ Q 2 (Q 4 r5 0) v77) ∧ zJ Q T2 ∧ X = mm (z_d Γ) ad Q T2 z00 ∧ T2 (200, 0, 0, 0) 2 ≤ V (200, 0, 0, 0) 2 + 3 + 80 * k + o ∧ T2 (0, 0, 0, 0) 4 = V (0, 0, 0, 0) 4 ∧ T2 (0, 0, 0, 0) 6 = V (0, 0, 0, 0) 6 ∧ T2 (1, 0, 0, 0) 1 = V (1, 0, 0, 0) 1) → (Q 2 (Q 4 r5 0) v77 - o).toNat < n → G Γ (zRm 10 4 412) cX7_answer 9 RX7 ad (pm (z_d Γ) ad Q T2 X) 0 0 82 [(0, .ref (ad (200, 0, 0, 0))), (1, .int (zI r5)), (2, .int (zI r22)), (3, .int (zI v39)), (4, .int (zI k)), (5, .int (zI v77)), (6, .int (zI o))] [] := by
            intro n
            induction n with
            | zero => intro o T2 _ hn; omega
            | succ n ih82 =>
              intro o T2 hi82 hn82
              obtain ⟨ho0, hJT2, hXT2, hTd2, hT24, hT26, hT21⟩ := hi82
              have hVT2 := hJT2.wv
              have hdT2 := hVT2.dw
              refine G_iload (pc := 82) 6 dX7_answer_82 rfl ?_
              refine G_aload_n (pc := 84) 0 0 dX7_answer_84 rfl rfl ?_
              refine G_getf (pc := 85) fl_X7_25 dX7_answer_85 pg_200 rfl ?_
              refine G_aload_n (pc := 88) 0 0 dX7_answer_88 rfl rfl ?_
              refine G_getf (pc := 89) fl_X7_51 dX7_answer_89 pg_200 rfl ?_
              refine G_iload_n (pc := 92) 1 1 dX7_answer_92 rfl rfl ?_
              refine G_ialdV (pc := 93) (Q 4 r5 0) dX7_answer_93 pg_213 ⟨by omega, by omega, by omega, by omega⟩ (hVT2.of (by first | assumption | omega | exact ⟨by omega, by omega⟩ | exact ⟨⟨by omega, by omega⟩, by omega⟩ | exact zWV.R (by assumption) _ _)) ?_
              refine G_aldA (pc := 94) (t := 7) rfl dX7_answer_94 pg_201 ⟨by omega, by omega, by omega, by omega⟩ rfl ?_
              refine G_iload (pc := 95) 5 dX7_answer_95 rfl ?_
              refine G_aldA (pc := 97) (t := 6) rfl dX7_answer_97 (pg_202 (by first | assumption | omega | exact ⟨by omega, by omega⟩ | exact ⟨⟨by omega, by omega⟩, by omega⟩ | exact zWV.R (by assumption) _ _)) ⟨by omega, by omega, by omega, by omega⟩ rfl ?_
              refine G_alenV (pc := 98) (t := 5) (Q 2 (Q 4 r5 0) v77) rfl dX7_answer_98 (pg_203 (by first | assumption | omega | exact ⟨by omega, by omega⟩ | exact ⟨⟨by omega, by omega⟩, by omega⟩ | exact zWV.R (by assumption) _ _)) (by omega) ?_
              refine G_icmp_ge (pc := 99) 245 dX7_answer_99 (by decide) (by first | exact zWV.R (by assumption) _ _ | exact ⟨by omega, by omega⟩ | assumption | (subst_vars; first | exact zWV.R (by assumption) _ _ | exact ⟨by omega, by omega⟩)) (by first | exact zWV.R (by assumption) _ _ | exact ⟨by omega, by omega⟩ | assumption | (subst_vars; first | exact zWV.R (by assumption) _ _ | exact ⟨by omega, by omega⟩)) (fun c99 => ?_) (fun c99 => ?_)
              · refine G_iinc_e (pc := 245) 4 (fun zw => [(4, .int (zI zw)), (0, .ref (ad (200, 0, 0, 0))), (1, .int (zI r5)), (2, .int (zI r22)), (3, .int (zI v39)), (5, .int (zI v77)), (6, .int (zI o))]) dX7_answer_245 rfl (by decide) (fun _ => rfl) (fun v245 e245 => ?_)
                refine G_goto (pc := 248) 43 dX7_answer_248 (by decide) ?_
                refine G_perm (lv' := [(0, .ref (ad (200, 0, 0, 0))), (1, .int (zI r5)), (2, .int (zI r22)), (3, .int (zI v39)), (4, .int (zI v245))]) [1, 2, 3, 4, 0] rfl ?_
                exact ih43 v245 T2 ⟨by omega, hJT2, hXT2, by omega, hT24, hT26, hT21⟩ (by omega)
              · refine G_aload_n (pc := 102) 0 0 dX7_answer_102 rfl rfl ?_
                refine G_getf (pc := 103) fl_X7_25 dX7_answer_103 pg_200 rfl ?_
                refine G_aload_n (pc := 106) 0 0 dX7_answer_106 rfl rfl ?_
                refine G_getf (pc := 107) fl_X7_51 dX7_answer_107 pg_200 rfl ?_
                refine G_iload_n (pc := 110) 1 1 dX7_answer_110 rfl rfl ?_
                refine G_ialdV (pc := 111) (Q 4 r5 0) dX7_answer_111 pg_213 ⟨by omega, by omega, by omega, by omega⟩ (hVT2.of (by first | assumption | omega | exact ⟨by omega, by omega⟩ | exact ⟨⟨by omega, by omega⟩, by omega⟩ | exact zWV.R (by assumption) _ _)) ?_
                refine G_aldA (pc := 112) (t := 7) rfl dX7_answer_112 pg_201 ⟨by omega, by omega, by omega, by omega⟩ rfl ?_
                refine G_iload (pc := 113) 5 dX7_answer_113 rfl ?_
                refine G_aldA (pc := 115) (t := 6) rfl dX7_answer_115 (pg_202 (by first | assumption | omega | exact ⟨by omega, by omega⟩ | exact ⟨⟨by omega, by omega⟩, by omega⟩ | exact zWV.R (by assumption) _ _)) ⟨by omega, by omega, by omega, by omega⟩ rfl ?_
                refine G_iload (pc := 116) 6 dX7_answer_116 rfl ?_
                refine G_aldA (pc := 118) (t := 5) rfl dX7_answer_118 (pg_203 (by first | assumption | omega | exact ⟨by omega, by omega⟩ | exact ⟨⟨by omega, by omega⟩, by omega⟩ | exact zWV.R (by assumption) _ _)) ⟨by omega, by omega, by omega, by omega⟩ rfl ?_
                refine G_astore (pc := 119) [(7, .ref (ad (204, Q 4 r5 0, v77, o))), (0, .ref (ad (200, 0, 0, 0))), (1, .int (zI r5)), (2, .int (zI r22)), (3, .int (zI v39)), (4, .int (zI k)), (5, .int (zI v77)), (6, .int (zI o))] dX7_answer_119 (by decide) rfl ?_
                have ho : inM Q (Q 4 r5 0) v77 o := ⟨by omega, by omega⟩
                refine G_aload (pc := 121) 0 dX7_answer_121 rfl ?_
                refine G_iconst (pc := 123) dX7_answer_123 ?_
                refine G_iconst (pc := 124) dX7_answer_124 ?_
                refine G_iload_n (pc := 125) 1 2 dX7_answer_125 rfl rfl ?_
                refine G_imul (pc := 126) dX7_answer_126 ?_
                refine G_iadd (pc := 127) dX7_answer_127 ?_
                refine G_ialdV (pc := 128) (T2 (19, r5, v77, 0) o) dX7_answer_128 (pg_204 (by first | assumption | omega | exact ⟨by omega, by omega⟩ | exact ⟨⟨by omega, by omega⟩, by omega⟩ | exact zWV.R (by assumption) _ _)) ⟨by omega, by omega, by omega, by omega⟩ (zpr_5 (by first | assumption | omega | exact ⟨by omega, by omega⟩ | exact ⟨⟨by omega, by omega⟩, by omega⟩ | exact zWV.R (by assumption) _ _) rfl) ?_
                refine G_iconst (pc := 129) dX7_answer_129 ?_
                refine G_icmp_ne (pc := 130) 239 dX7_answer_130 (by decide) (by first | exact zWV.R (by assumption) _ _ | exact ⟨by omega, by omega⟩ | assumption | (subst_vars; first | exact zWV.R (by assumption) _ _ | exact ⟨by omega, by omega⟩)) (by first | exact zWV.R (by assumption) _ _ | exact ⟨by omega, by omega⟩ | assumption | (subst_vars; first | exact zWV.R (by assumption) _ _ | exact ⟨by omega, by omega⟩)) (fun c130 => ?_) (fun c130 => ?_)
                · refine G_iinc_e (pc := 239) 7 (fun zw => [(6, .int (zI zw)), (7, .ref (ad (204, Q 4 r5 0, v77, o))), (0, .ref (ad (200, 0, 0, 0))), (1, .int (zI r5)), (2, .int (zI r22)), (3, .int (zI v39)), (4, .int (zI k)), (5, .int (zI v77))]) dX7_answer_239 rfl (by decide) (fun _ => rfl) (fun v239 e239 => ?_)
                  refine G_goto (pc := 242) 82 dX7_answer_242 (by decide) ?_
                  refine G_perm (lv' := [(0, .ref (ad (200, 0, 0, 0))), (1, .int (zI r5)), (2, .int (zI r22)), (3, .int (zI v39)), (4, .int (zI k)), (5, .int (zI v77)), (6, .int (zI v239))]) [2, 3, 4, 5, 6, 7, 0] rfl ?_
                  exact ih82 v239 T2 ⟨by omega, hJT2, hXT2, by omega, by first | exact hT24 | (rw [hfT2 _ _ (by decide)]; exact hT24), by first | exact hT26 | (rw [hfT2 _ _ (by decide)]; exact hT26), by first | exact hT21 | (rw [hfT2 _ _ (by decide)]; exact hT21)⟩ (by omega)
                · refine G_aload_n (pc := 133) 0 1 dX7_answer_133 rfl rfl ?_
                  refine G_iconst (pc := 134) dX7_answer_134 ?_
                  refine G_callV (pc := 135) gk_X7_94 dX7_answer_135 pg_200 rfl (c_X7_draw (n := 3) hVT2 (by assumption) ⟨by omega, by omega⟩) rfl rfl (Nat.le_of_ble_eq_true rfl) ⟨⟨Nat.le_of_ble_eq_true rfl, Nat.le_of_ble_eq_true rfl⟩, Nat.le_of_ble_eq_true rfl, Nat.le_of_ble_eq_true rfl⟩ (fun vx adx Mx hpo => ?_)
                  obtain ⟨r135, hr135, rfl, hadx, rfl⟩ := hpo
                  rw [hadx]
                  show G Γ _ _ _ _ _ _ (0) (0) 138 [(7, .ref (ad (204, Q 4 r5 0, v77, o))), (0, .ref (ad (200, 0, 0, 0))), (1, .int (zI r5)), (2, .int (zI r22)), (3, .int (zI v39)), (4, .int (zI k)), (5, .int (zI v77)), (6, .int (zI o))] [.int (zI r135)]
                  refine G_nameV (fun V10_135 hV10_135 => ?_)
                  have hVV10_135 : zWV Q V10_135 := by rw [hV10_135]; exact hVT2.s200_2 ⟨by omega, by omega⟩
                  have hdV10_135 : V10_135 (200, 0, 0, 0) 2 = T2 (200, 0, 0, 0) 2 + 1 := by rw [hV10_135, zst_s]
                  have hfV10_135 : ∀ k f, k ≠ (200, 0, 0, 0) → V10_135 k f = T2 k f := fun k f hk => by rw [hV10_135, zst_k _ _ _ _ hk]
                  have hJV10_135 : zJ Q V10_135 := by rw [hV10_135]; exact zJ_dr hJT2 ⟨by omega, by omega⟩
                  have hXV10_135 : X = mm (z_d Γ) ad Q V10_135 z00 := by rw [hV10_135, mm_st (by decide)]; exact hXT2
                  refine G_if_ne (pc := 138) 144 dX7_answer_138 (by decide) (by first | exact zWV.R (by assumption) _ _ | exact ⟨by omega, by omega⟩ | assumption | (subst_vars; first | exact zWV.R (by assumption) _ _ | exact ⟨by omega, by omega⟩)) (fun c138 => ?_) (fun c138 => ?_)
                  · obtain ⟨D, hD0⟩ : ∃ D, D = V10_135 := ⟨_, rfl⟩
                    have hJD : zJ Q D := by rw [hD0]; exact hJV10_135
                    have hXD : X = mm (z_d Γ) ad Q D z00 := by rw [hD0]; exact hXV10_135
                    have h1D : D (19, r5, v77, 0) o = 1 := by rw [hD0, hfV10_135 _ _ (by simp)]; omega
                    have hDd : D (200, 0, 0, 0) 2 ≤ V (200, 0, 0, 0) 2 + 1000 := by rw [hD0]; omega
                    have hD4 : D (0, 0, 0, 0) 4 = V (0, 0, 0, 0) 4 := by rw [hD0, hfV10_135 _ _ (by decide)]; exact hT24
                    have hD6 : D (0, 0, 0, 0) 6 = V (0, 0, 0, 0) 6 := by rw [hD0, hfV10_135 _ _ (by decide)]; exact hT26
                    have hD1 : D (1, 0, 0, 0) 1 = V (1, 0, 0, 0) 1 := by rw [hD0, hfV10_135 _ _ (by decide)]; exact hT21
                    have hcD := hJD.wv.W.c r5 v77 o
                    have hkD := hJD.wv.W.k
                    have h20 : 1 ≤ V10_135 (20, r5, v77, 0) o := by rw [← hD0]; omega
                    refine G_iload_n (pc := 144) 3 4 dX7_answer_144 rfl rfl ?_
                    refine G_if_ne (pc := 145) 186 dX7_answer_145 (by decide) (by first | exact zWV.R (by assumption) _ _ | exact ⟨by omega, by omega⟩ | assumption | (subst_vars; first | exact zWV.R (by assumption) _ _ | exact ⟨by omega, by omega⟩)) (fun c145 => ?_) (fun c145 => ?_)
                    · refine G_aload (pc := 186) 0 dX7_answer_186 rfl ?_
                      refine G_iconst (pc := 188) dX7_answer_188 ?_
                      refine G_iconst (pc := 189) dX7_answer_189 ?_
                      refine G_iload_n (pc := 190) 1 2 dX7_answer_190 rfl rfl ?_
                      refine G_imul (pc := 191) dX7_answer_191 ?_
                      refine G_iadd (pc := 192) dX7_answer_192 ?_
                      refine G_iconst (pc := 193) dX7_answer_193 ?_
                      refine G_iast (pc := 194) dX7_answer_194 (pg_204 (by first | assumption | omega | exact ⟨by omega, by omega⟩ | exact ⟨⟨by omega, by omega⟩, by omega⟩ | exact zWV.R (by assumption) _ _)) ⟨by omega, by omega, by omega, by omega⟩ (pp_204_5 (by first | assumption | omega | exact ⟨by omega, by omega⟩ | exact ⟨⟨by omega, by omega⟩, by omega⟩ | exact zWV.R (by assumption) _ _) (by first | assumption | omega | exact ⟨by omega, by omega⟩ | exact ⟨⟨by omega, by omega⟩, by omega⟩ | exact zWV.R (by assumption) _ _) rfl) ?_
                      refine G_nameV (fun V11_194 hV11_194 => ?_)
                      have hVV11_194 : zWV Q V11_194 := by rw [hV11_194]; exact hVV10_135.s19 ⟨by omega, by omega⟩ (by first | assumption | omega | exact fun q => by omega)
                      refine G_aload_n (pc := 195) 0 1 dX7_answer_195 rfl rfl ?_
                      refine G_iconst (pc := 196) dX7_answer_196 ?_
                      refine G_iload_n (pc := 197) 1 2 dX7_answer_197 rfl rfl ?_
                      refine G_iload (pc := 198) 6 dX7_answer_198 rfl ?_
                      refine G_iload (pc := 200) 7 dX7_answer_200 rfl ?_
                      refine G_callV (pc := 202) gk_X7_168 dX7_answer_202 pg_200 rfl (c_X7_write (s := 1) (g := r5) (p := v77) (o := o) hVV11_194 (by assumption)) rfl rfl (Nat.le_of_ble_eq_true rfl) ⟨⟨(by exact Nat.le_of_ble_eq_true rfl), (by exact Nat.le_of_ble_eq_true rfl)⟩, (by exact Nat.le_of_ble_eq_true rfl), (by exact Nat.le_of_ble_eq_true rfl)⟩ (fun vx ad3 Mx hpo => ?_)
                      obtain ⟨rfl, had3, rfl⟩ := hpo
                      show G Γ _ _ _ _ _ _ (2) (206) 205 [(7, .ref (ad (204, Q 4 r5 0, v77, o))), (0, .ref (ad (200, 0, 0, 0))), (1, .int (zI r5)), (2, .int (zI r22)), (3, .int (zI v39)), (4, .int (zI k)), (5, .int (zI v77)), (6, .int (zI o))] []
                      rw [← had3 (204, Q 4 r5 0, v77, o) (by simp) (by simp) (by simp) (by simp)]
                      rw [← had3 (200, 0, 0, 0) (by simp) (by simp) (by simp) (by simp)]
                      refine G_nameV (fun V12_202 hV12_202 => ?_)
                      have hVV12_202 : zWV Q V12_202 := by rw [hV12_202]; exact hVV11_194.lw (by first | assumption | exact ⟨by omega, by omega⟩ | exact zWV.R (by assumption) _ _) (by first | assumption | exact ⟨by omega, by omega⟩ | exact zWV.R (by assumption) _ _) (by first | assumption | exact ⟨by omega, by omega⟩ | exact zWV.R (by assumption) _ _) (by first | assumption | exact ⟨by omega, by omega⟩ | exact zWV.R (by assumption) _ _) (by first | assumption | exact ⟨by omega, by omega⟩ | exact zWV.R (by assumption) _ _)
                      obtain ⟨hn1, hn2, hn3⟩ := zJ_ack hJD hg hp ho h1D
                      have hsn : zSet Q V12_202 := by rw [hV12_202, hV11_194, ← hD0, zst_k _ _ _ _ (by simp)]; exact hn3
                      have hXa : X = mm (z_d Γ) ad3 Q D z00 := by rw [hXD]; exact (mm_ad (fun k hk => had3 k (by omega) (by omega) (by omega) (by omega))).symm
                      have hA : ad3 (0, 0, 0, 0) = ad (0, 0, 0, 0) ∧ ad3 (200, 0, 0, 0) = ad (200, 0, 0, 0) := ⟨had3 _ (by decide) (by decide) (by decide) (by decide), had3 _ (by decide) (by decide) (by decide) (by decide)⟩
                      refine G_aload_n (pc := 205) 0 1 dX7_answer_205 rfl rfl ?_
                      refine G_callVv (pc := 206) gk_X7_126 dX7_answer_206 pg_200 rfl (c_X7_settle (by first | assumption | omega | exact ⟨by omega, by omega⟩ | exact ⟨⟨by omega, by omega⟩, by omega⟩ | exact zWV.R (by assumption) _ _) (by first | assumption | omega | exact ⟨by omega, by omega⟩ | exact ⟨⟨by omega, by omega⟩, by omega⟩ | exact zWV.R (by assumption) _ _) hsn) rfl rfl (Nat.le_of_ble_eq_true rfl) ⟨⟨Nat.le_of_ble_eq_true rfl, Nat.le_of_ble_eq_true rfl⟩, Nat.le_of_ble_eq_true rfl, Nat.le_of_ble_eq_true rfl⟩ ?_
                      refine G_nameV (fun V13_206 hV13_206 => ?_)
                      have hVV13_206 : zWV Q V13_206 := by rw [hV13_206]; exact zkA_V hP hVV12_202
                      have hSa : V13_206 = zlw (zku Q (zst D (19, r5, v77, 0) o 3) r5 v77) 1 r5 v77 o (D (0, 0, 0, 0) 6) := by rw [hV13_206, hV12_202, hV11_194, ← hD0, zst_k _ _ _ _ (by simp)]; exact hn1
                      refine G_aload_n (pc := 209) 0 1 dX7_answer_209 rfl rfl ?_
                      refine G_getf (pc := 210) fl_X7_10 dX7_answer_210 pg_200 rfl ?_
                      refine G_iload_n (pc := 213) 1 2 dX7_answer_213 rfl rfl ?_
                      refine G_iload (pc := 214) 6 dX7_answer_214 rfl ?_
                      refine G_iload (pc := 216) 7 dX7_answer_216 rfl ?_
                      rw [hXa, pm_mm]
                      refine G_callV (pc := 218) gk_X7_209 dX7_answer_218 mg_0 rfl (c_X6_ack (g := r5) (p := v77) (o := o) hP hg hp hJD.wv.W ⟨ho, h1D⟩) rfl rfl (Nat.le_of_ble_eq_true rfl) ⟨⟨Nat.le_of_ble_eq_true rfl, Nat.le_of_ble_eq_true rfl⟩, Nat.le_of_ble_eq_true rfl, Nat.le_of_ble_eq_true rfl⟩ (fun vx adx Mx hpo => ?_)
                      obtain ⟨rfl, hadx, rfl⟩ := hpo
                      rw [hadx]
                      rw [← hSa]
                      show G Γ _ _ _ _ _ _ (2) (206) 221 [(7, .ref (ad3 (204, Q 4 r5 0, v77, o))), (0, .ref (ad3 (200, 0, 0, 0))), (1, .int (zI r5)), (2, .int (zI r22)), (3, .int (zI v39)), (4, .int (zI k)), (5, .int (zI v77)), (6, .int (zI o))] [.int (zI (V13_206 (18, r5, v77, 0) 5))]
                      rw [← pm_mm]
                      refine G_aload_n (pc := 221) 0 1 dX7_answer_221 rfl rfl ?_
                      refine G_getf (pc := 222) fl_X7_54 dX7_answer_222 pg_200 rfl ?_
                      refine G_iload_n (pc := 225) 1 2 dX7_answer_225 rfl rfl ?_
                      refine G_aldA (pc := 226) (t := 5) rfl dX7_answer_226 pg_214 ⟨by omega, by omega, by omega, by omega⟩ rfl ?_
                      refine G_iload (pc := 227) 6 dX7_answer_227 rfl ?_
                      refine G_ialdV (pc := 229) (V13_206 (18, r5, v77, 0) 5) dX7_answer_229 (pg_215 (by first | assumption | omega | exact ⟨by omega, by omega⟩ | exact ⟨⟨by omega, by omega⟩, by omega⟩ | exact zWV.R (by assumption) _ _)) ⟨by omega, by omega, by omega, by omega⟩ rfl ?_
                      refine G_icmp_ne (pc := 230) 237 dX7_answer_230 (by decide) (by first | exact zWV.R (by assumption) _ _ | exact ⟨by omega, by omega⟩ | assumption | (subst_vars; first | exact zWV.R (by assumption) _ _ | exact ⟨by omega, by omega⟩)) (by first | exact zWV.R (by assumption) _ _ | exact ⟨by omega, by omega⟩ | assumption | (subst_vars; first | exact zWV.R (by assumption) _ _ | exact ⟨by omega, by omega⟩)) (fun c230 => ?_) (fun c230 => ?_)
                      · exfalso
                        exact c230 rfl
                      · refine G_iconst (pc := 233) dX7_answer_233 ?_
                        refine G_goto (pc := 234) 238 dX7_answer_234 (by decide) ?_
                        exact G_zret (pc := 238) hF dX7_answer_238 ⟨Nat.le_of_ble_eq_true rfl, Nat.le_of_ble_eq_true rfl⟩ (by first | exact zb_ite | omega) ⟨rfl, Q, V13_206, hA, by rw [hSa]; rfl, by rw [hSa]; exact hn2, by rw [hSa, zlw_k ⟨by simp, by simp⟩, zku_k rfl, zst_k _ _ _ _ (by simp)]; exact hDd, by rw [hSa, zlw_k ⟨by simp, by simp⟩, zku_k rfl, zst_k _ _ _ _ (by simp)]; omega, by rw [hSa, zlw_k ⟨by simp, by simp⟩, zku_k rfl, zst_k _ _ _ _ (by simp)]; omega, by rw [hSa, ← hD1]; exact Int.le_trans (by rw [zku_k rfl, zst_k _ _ _ _ (by simp)]; exact Int.le_refl _) (zlw_l (V := zku Q (zst D (19, r5, v77, 0) o 3) r5 v77)), by omega, by omega⟩
                    · refine G_aload_n (pc := 148) 0 1 dX7_answer_148 rfl rfl ?_
                      refine G_iload_n (pc := 149) 1 2 dX7_answer_149 rfl rfl ?_
                      refine G_iload (pc := 150) 6 dX7_answer_150 rfl ?_
                      refine G_iload (pc := 152) 7 dX7_answer_152 rfl ?_
                      refine G_callV (pc := 154) gk_X7_172 dX7_answer_154 pg_200 rfl (c_X7_nack (g := r5) (p := v77) (o := o) hP hVV10_135 hg hp ho h20 (by first | assumption | omega | exact ⟨by omega, by omega⟩ | exact ⟨⟨by omega, by omega⟩, by omega⟩ | exact zWV.R (by assumption) _ _)) rfl rfl (Nat.le_of_ble_eq_true rfl) ⟨⟨(by exact Nat.le_of_ble_eq_true rfl), (by exact Nat.le_of_ble_eq_true rfl)⟩, (by exact Nat.le_of_ble_eq_true rfl), (by exact Nat.le_of_ble_eq_true rfl)⟩ (fun vx ad4 Mx hpo => ?_)
                      obtain ⟨rfl, had4, rfl⟩ := hpo
                      show G Γ _ _ _ _ _ _ (4) (412) 157 [(7, .ref (ad (204, Q 4 r5 0, v77, o))), (0, .ref (ad (200, 0, 0, 0))), (1, .int (zI r5)), (2, .int (zI r22)), (3, .int (zI v39)), (4, .int (zI k)), (5, .int (zI v77)), (6, .int (zI o))] [.int (zI (zgbr V10_135 r5 v77 o (V10_135 (0, 0, 0, 0) 6) (V10_135 (0, 0, 0, 0) 7)))]
                      rw [← had4 (204, Q 4 r5 0, v77, o) (by simp) (by simp) (by simp) (by simp)]
                      rw [← had4 (200, 0, 0, 0) (by simp) (by simp) (by simp) (by simp)]
                      refine G_nameV (fun V14_154 hV14_154 => ?_)
                      have hVV14_154 : zWV Q V14_154 := by rw [hV14_154]; exact zB_V hVV10_135 (by first | assumption | omega | exact ⟨by omega, by omega⟩ | exact ⟨⟨by omega, by omega⟩, by omega⟩ | exact zWV.R (by assumption) _ _) (by first | assumption | omega | exact ⟨by omega, by omega⟩ | exact ⟨⟨by omega, by omega⟩, by omega⟩ | exact zWV.R (by assumption) _ _) (by first | assumption | omega | exact ⟨by omega, by omega⟩ | exact ⟨⟨by omega, by omega⟩, by omega⟩ | exact zWV.R (by assumption) _ _)
                      refine G_istore_e (pc := 157) (fun zw => [(8, .int (zI zw)), (7, .ref (ad4 (204, Q 4 r5 0, v77, o))), (0, .ref (ad4 (200, 0, 0, 0))), (1, .int (zI r5)), (2, .int (zI r22)), (3, .int (zI v39)), (4, .int (zI k)), (5, .int (zI v77)), (6, .int (zI o))]) dX7_answer_157 (by decide) (fun _ => rfl) (fun v157 e157 => ?_)
                      obtain ⟨hn1, hn2, hn3⟩ := zJ_nack hJD hg hp ho h1D
                      have hsn : zSet Q V14_154 := by rw [hV14_154, ← hD0]; exact hn3
                      have hXa : X = mm (z_d Γ) ad4 Q D z00 := by rw [hXD]; exact (mm_ad (fun k hk => had4 k (by omega) (by omega) (by omega) (by omega))).symm
                      have hA : ad4 (0, 0, 0, 0) = ad (0, 0, 0, 0) ∧ ad4 (200, 0, 0, 0) = ad (200, 0, 0, 0) := ⟨had4 _ (by decide) (by decide) (by decide) (by decide), had4 _ (by decide) (by decide) (by decide) (by decide)⟩
                      rw [← hD0] at e157
                      have hv157 : zR v157 := by
                        have hz5 := zsh_le (y := D (0, 0, 0, 0) 7) (s := D (20, r5, v77, 0) o - 1) (by omega)
                        rw [e157]
                        unfold zgbr
                        split
                        · exact ⟨by omega, by omega⟩
                        · exact ⟨by omega, by omega⟩
                      refine G_aload_n (pc := 159) 0 2 dX7_answer_159 rfl rfl ?_
                      refine G_callVv (pc := 160) gk_X7_126 dX7_answer_160 pg_200 rfl (c_X7_settle (by first | assumption | omega | exact ⟨by omega, by omega⟩ | exact ⟨⟨by omega, by omega⟩, by omega⟩ | exact zWV.R (by assumption) _ _) (by first | assumption | omega | exact ⟨by omega, by omega⟩ | exact ⟨⟨by omega, by omega⟩, by omega⟩ | exact zWV.R (by assumption) _ _) hsn) rfl rfl (Nat.le_of_ble_eq_true rfl) ⟨⟨Nat.le_of_ble_eq_true rfl, Nat.le_of_ble_eq_true rfl⟩, Nat.le_of_ble_eq_true rfl, Nat.le_of_ble_eq_true rfl⟩ ?_
                      refine G_nameV (fun V15_160 hV15_160 => ?_)
                      have hVV15_160 : zWV Q V15_160 := by rw [hV15_160]; exact zkA_V hP hVV14_154
                      have hSa : V15_160 = zku Q (zB D r5 v77 o) r5 v77 := by rw [hV15_160, hV14_154, ← hD0]; exact hn1
                      refine G_aload_n (pc := 163) 0 2 dX7_answer_163 rfl rfl ?_
                      refine G_getf (pc := 164) fl_X7_10 dX7_answer_164 pg_200 rfl ?_
                      refine G_iload_n (pc := 167) 1 3 dX7_answer_167 rfl rfl ?_
                      refine G_iload (pc := 168) 7 dX7_answer_168 rfl ?_
                      refine G_iload (pc := 170) 8 dX7_answer_170 rfl ?_
                      rw [hXa, pm_mm]
                      refine G_callV (pc := 172) gk_X7_208 dX7_answer_172 mg_0 rfl (c_X6_nack (g := r5) (p := v77) (o := o) hP hg hp hJD.wv.W ⟨ho, h1D⟩) rfl rfl (Nat.le_of_ble_eq_true rfl) ⟨⟨Nat.le_of_ble_eq_true rfl, Nat.le_of_ble_eq_true rfl⟩, Nat.le_of_ble_eq_true rfl, Nat.le_of_ble_eq_true rfl⟩ (fun vx adx Mx hpo => ?_)
                      obtain ⟨rfl, hadx, rfl⟩ := hpo
                      rw [hadx]
                      rw [← e157]
                      show G Γ _ _ _ _ _ _ (4) (412) 175 [(8, .int (zI v157)), (7, .ref (ad4 (204, Q 4 r5 0, v77, o))), (0, .ref (ad4 (200, 0, 0, 0))), (1, .int (zI r5)), (2, .int (zI r22)), (3, .int (zI v39)), (4, .int (zI k)), (5, .int (zI v77)), (6, .int (zI o))] [.int (zI v157)]
                      rw [← pm_mm]
                      refine G_iload (pc := 175) 0 dX7_answer_175 rfl ?_
                      refine G_icmp_ne (pc := 177) 184 dX7_answer_177 (by decide) (by first | exact zWV.R (by assumption) _ _ | exact ⟨by omega, by omega⟩ | assumption | (subst_vars; first | exact zWV.R (by assumption) _ _ | exact ⟨by omega, by omega⟩)) (by first | exact zWV.R (by assumption) _ _ | exact ⟨by omega, by omega⟩ | assumption | (subst_vars; first | exact zWV.R (by assumption) _ _ | exact ⟨by omega, by omega⟩)) (fun c177 => ?_) (fun c177 => ?_)
                      · exfalso
                        exact c177 rfl
                      · refine G_iconst (pc := 180) dX7_answer_180 ?_
                        refine G_goto (pc := 181) 185 dX7_answer_181 (by decide) ?_
                        exact G_zret (pc := 185) hF dX7_answer_185 ⟨Nat.le_of_ble_eq_true rfl, Nat.le_of_ble_eq_true rfl⟩ (by first | exact zb_ite | omega) ⟨rfl, Q, V15_160, hA, by rw [hSa]; rfl, by rw [hSa]; exact hn2, by rw [hSa, zku_k rfl, zB_k rfl]; exact hDd, by rw [hSa, zku_k rfl, zB_k rfl]; omega, by rw [hSa, zku_k rfl, zB_k rfl]; omega, by rw [hSa, zku_k rfl, ← hD1]; exact zB_l, by omega, by omega⟩
                  · refine G_goto (pc := 141) 239 dX7_answer_141 (by decide) ?_
                    refine G_iinc_e (pc := 239) 7 (fun zw => [(6, .int (zI zw)), (7, .ref (ad (204, Q 4 r5 0, v77, o))), (0, .ref (ad (200, 0, 0, 0))), (1, .int (zI r5)), (2, .int (zI r22)), (3, .int (zI v39)), (4, .int (zI k)), (5, .int (zI v77))]) dX7_answer_239 rfl (by decide) (fun _ => rfl) (fun v239 e239 => ?_)
                    refine G_goto (pc := 242) 82 dX7_answer_242 (by decide) ?_
                    refine G_perm (lv' := [(0, .ref (ad (200, 0, 0, 0))), (1, .int (zI r5)), (2, .int (zI r22)), (3, .int (zI v39)), (4, .int (zI k)), (5, .int (zI v77)), (6, .int (zI v239))]) [2, 3, 4, 5, 6, 7, 0] rfl ?_
                    exact ih82 v239 V10_135 ⟨by omega, hJV10_135, hXV10_135, by omega, by first | exact hT24 | (rw [hfV10_135 _ _ (by decide)]; exact hT24), by first | exact hT26 | (rw [hfV10_135 _ _ (by decide)]; exact hT26), by first | exact hT21 | (rw [hfV10_135 _ _ (by decide)]; exact hT21)⟩ (by omega)
          refine G_perm (lv' := [(0, .ref (ad (200, 0, 0, 0))), (1, .int (zI r5)), (2, .int (zI r22)), (3, .int (zI v39)), (4, .int (zI k)), (5, .int (zI v77)), (6, .int (zI v80))]) [2, 3, 4, 5, 6, 1, 0] rfl ?_
          exact L82 _ v80 T ⟨by omega, hJT, hXT, by omega, hT4, hT6, hT1⟩ (Nat.lt_succ_self _)
    refine G_perm (lv' := [(0, .ref (ad (200, 0, 0, 0))), (1, .int (zI r5)), (2, .int (zI r22)), (3, .int (zI v39)), (4, .int (zI v41))]) [4, 3, 2, 1, 0] rfl ?_
    exact L43 _ v41 V3_28 ⟨by omega, hJV3_28, hXV3_28, by omega, by rw [hfV3_28 _ _ (by decide), hfV2_22 _ _ (by decide), hfV1_5 _ _ (by decide)], by rw [hfV3_28 _ _ (by decide), hfV2_22 _ _ (by decide), hfV1_5 _ _ (by decide)], by rw [hfV3_28 _ _ (by decide), hfV2_22 _ _ (by decide), hfV1_5 _ _ (by decide)]⟩ (Nat.lt_succ_self _)
