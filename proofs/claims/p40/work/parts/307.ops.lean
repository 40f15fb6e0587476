/-! ===== the ledger; what holds between calls; take, ack, nack, seek ===== -/
def xY (P : zP) (S : zS) : Prop := s4 P S ∧ s5 P S ∧ s6 P S
def xZ (P : zP) (S : zS) : Prop := ∀ g p, inG P g → inQ P g p → sg P S g p
def xJ (P : zP) (S M : zS) : Prop := xX P S M ∧ rL S M ∧ xZ P S ∧ xY P S ∧ zWS P S ∧ zWM P M ∧ zWP P
theorem mwr_f {A : zK → Int → Bool} {M : zS} {a g m : Int} (h40 : A (40, 0, 0, 0) 32 = true) (h73 : ∀ f, A (73, 0, 0, 0) f = true) : fr A M (mwr M a g m) := by
  unfold mwr
  split
  · exact fr.rf
  · exact (((((fr.rf.st (h73 _)).st (h73 _)).st (h73 _)).st (h73 _)).st (h73 _)).st h40
section OPS
variable {P : zP} {S M : zS}
theorem rL_w (h : rL S M) (hW : S (1, 0, 0, 0) 1 ≤ 200) {a g p o e m : Int} (hp : M (52, 0, 0, 0) m % 4 = p) (ho : M (53, 0, 0, 0) m = o) (he : M (40, 0, 0, 0) 1 = e) : rL (zlw S a g p o e) (mwr M a g m) := by
  obtain ⟨h1, h2⟩ := h
  unfold zlw mwr
  rw [h1, hp, ho, he]
  by_cases hc : 200 ≤ S (1, 0, 0, 0) 1
  · rw [if_pos hc, if_pos (by omega)]
    exact ⟨h1, h2⟩
  · rw [if_neg hc, if_neg (by omega), show S (1, 0, 0, 0) 1 * 5 = 5 * S (1, 0, 0, 0) 1 by omega]
    generalize 5 * S (1, 0, 0, 0) 1 = b
    refine ⟨by rw [zst_s, zst_s], fun i => ?_⟩
    rw [zst_k _ _ _ _ (by simp), zst_k (k := (1, 0, 0, 0)) _ _ _ _ (by simp)]
    simp only [zst_at]
    simp [h2]
theorem rL_fr {S' M' : zS} (hc : ∀ k f, (k.1 = 1 ∨ k.1 = 2) → S' k f = S k f) (h32 : M' (40, 0, 0, 0) 32 = M (40, 0, 0, 0) 32) (h73 : ∀ f, M' (73, 0, 0, 0) f = M (73, 0, 0, 0) f) (h : rL S M) : rL S' M' := by
  refine ⟨by rw [h32, hc _ _ (Or.inl rfl)]; exact h.1, fun i => by rw [h73, hc _ _ (Or.inr rfl)]; exact h.2 i⟩
theorem xX_led (h : xX P S M) {a g p o e m : Int} {a' g' : Int} : xX P (zlw S a g p o e) (mwr M a' g' m) :=
  ⟨xa_fr (zlw_fr rfl rfl) (mwr_f rfl (fun _ => rfl)) h.1, xf_fr (zlw_fr rfl rfl) (mwr_fr rfl rfl) h.2.1, xh_fr (zlw_fr rfl rfl) (mwr_f rfl (fun _ => rfl)) h.2.2⟩
theorem xX_ledM (h : xX P S M) {m : Int} {a' g' : Int} : xX P S (mwr M a' g' m) :=
  ⟨xa_fr zfr.rf (mwr_f rfl (fun _ => rfl)) h.1, xf_fr zfr.rf (mwr_fr rfl rfl) h.2.1, xh_fr zfr.rf (mwr_f rfl (fun _ => rfl)) h.2.2⟩
theorem xX_ledS (h : xX P S M) {a g p o e : Int} : xX P (zlw S a g p o e) M :=
  ⟨xa_fr (zlw_fr rfl rfl) fr.rf h.1, xf_fr (zlw_fr rfl rfl) zfr.rf h.2.1, xh_fr (zlw_fr rfl rfl) fr.rf h.2.2⟩
/-- thrown is told apart -/
theorem xX_th (h : xX P S M) {v : Int} : xX P S (zst M (40, 0, 0, 0) 0 v) :=
  ⟨xa_fr zfr.rf (fr.rf.st rfl) h.1, xf_fr zfr.rf (zfr.rf.st rfl) h.2.1, xh_fr zfr.rf (fr.rf.st rfl) h.2.2⟩
theorem xJ_th (h : xJ P S M) {v : Int} (hv : zR v) : xJ P S (zst M (40, 0, 0, 0) 0 v) := by
  obtain ⟨h1, h2, h3, h4, h5, h6, h7⟩ := h
  exact ⟨xX_th h1, rL_fr (fun _ _ _ => rfl) (zst_f _ _ _ (by decide)) (fun f => zst_k _ _ _ _ (by simp)) h2, h3, h4, h5, h6.s40_0 hv, h7⟩
theorem xJ.s1 (h : xJ P S M) : s1 P S := fun g p o hg hp ho => (h.2.2.1 g p hg hp).1 o ho
theorem xZ_fr {S' : zS} {K : Nat → Bool} (h : zfr K S S') (h14 : K 14 = false) (h18 : K 18 = false) (h19 : K 19 = false) (hz : xZ P S) : xZ P S' := fun g p hg hp => sg_fr (fun o f => h _ _ h14) (fun f _ => h _ _ h18) (fun f => h _ _ h19) (hz g p hg hp)
theorem xY_fr {S' : zS} (h0 : ∀ f, S' (0, 0, 0, 0) f = S (0, 0, 0, 0) f) (h10 : ∀ t f, S' (10, t, 0, 0) f = S (10, t, 0, 0) f) (h17 : ∀ g f, S' (17, g, 0, 0) f = S (17, g, 0, 0) f) (h18 : ∀ g p, S' (18, g, p, 0) 4 = S (18, g, p, 0) 4) (h5 : s5 P S') (h : xY P S) : xY P S' := by
  obtain ⟨h1, -, h3⟩ := h
  refine ⟨fun g p hg hp => ?_, h5, fun t x ht hx1 hx2 => by rw [h0, h10]; exact h3 t x ht hx1 hx2⟩
  rw [h18, h1 g p hg hp]
  have hin : ∀ r c, zin S' g r c ↔ zin S g r c := fun r c => by
    show ¬ S' (17, g, 0, 0) r = _ ↔ ¬ S (17, g, 0, 0) r = _
    rw [h17]
  have hc : ∀ c, zcr S' g c = zcr S g c := fun c => sm_congr _ _ _ rfl (fun r _ _ => by
    show (if zin S' g r c then (1 : Int) else 0) = if zin S g r c then 1 else 0
    by_cases hz : zin S g r c
    · rw [if_pos hz, if_pos ((hin r c).mpr hz)]
    · rw [if_neg hz, if_neg (fun q => hz ((hin r c).mp q))])
  have hN : ∀ (n : Nat) (c a b r s k : Int), zsN S' g c p a b n r s k = zsN S g c p a b n r s k := by
    intro n
    induction n with
    | zero => intro c a b r s k; rfl
    | succ n ih =>
      intro c a b r s k
      by_cases hz : zin S g r c
      · rw [zsN_in n hz rfl, zsN_in n ((hin r c).mpr hz) rfl, ih]
      · rw [zsN_out n hz, zsN_out n (fun q => hz ((hin r c).mp q)), ih]
  unfold zsr
  rw [hc, hN]
/-- one step of a group's partition alone, and all go on -/
theorem r_one (h : xX P S M) (hV : zWM P M) {g p : Int} (hg : inG P g) (hp : inQ P g p) (hz : ∀ g' p', inG P g' → inQ P g' p' → ¬ (g' = g ∧ p' = p) → sg P S g' p') : xX P (zku P S g p) (msa P M) ∧ xZ P (zku P S g p) ∧ zWM P (msa P M) := by
  obtain ⟨-, -, j3, j4⟩ := r_ku h.1 h.2.1 h.2.2 hV hg hp
  obtain ⟨k1, k2, k3⟩ := r_sa h hV
  rw [zkA_one hg hp hz j3 j4] at k1 k2
  exact ⟨k1, k2, k3⟩
/-- of settled ones the model's going on leaves the relation -/
theorem r_none (h : xX P S M) (hV : zWM P M) (hz : xZ P S) : xX P S (msa P M) ∧ zWM P (msa P M) := by
  obtain ⟨k1, k2, k3⟩ := r_sa h hV
  rw [zkA_id hz] at k1
  exact ⟨k1, k3⟩
theorem msa_40 {f : Int} : msa P M (40, 0, 0, 0) f = M (40, 0, 0, 0) f := msa_fr (K := m656) rfl rfl _ _ rfl
theorem msa_73 {f : Int} : msa P M (73, 0, 0, 0) f = M (73, 0, 0, 0) f := msa_fr (K := m656) rfl rfl _ _ rfl
theorem zku_k {g p : Int} {k : zK} {f : Int} (h : k189 k.1 = false) : zku P S g p k f = S k f := zku_fr (K := k189) rfl rfl rfl _ _ h
theorem rL_settle (h : rL S M) {g p : Int} : rL (zku P S g p) (msa P M) := rL_fr (fun k f hk => zku_k (by rcases hk with e | e <;> rw [e] <;> rfl)) msa_40 (fun _ => msa_73) h
theorem zfg_c {g p o : Int} : cS g p o S (zfg S g p o) := (cS.rf.st (Or.inl rfl)).st (Or.inr (Or.inl rfl))
/-- s5 where a partition goes on: states are left, or forgotten -/
theorem zfg_5 {g p o : Int} (h : s5 P S) : s5 P (zfg S g p o) := by
  intro g' p' o' hg hp
  unfold zfg
  by_cases hk : g' = g ∧ p' = p ∧ o' = o
  · obtain ⟨rfl, rfl, rfl⟩ := hk
    rw [zst_s, zst_k _ _ _ _ (by simp), zst_s]
    exact ⟨fun q => by omega, fun _ => rfl⟩
  · have e : ∀ n : Nat, n = 19 ∨ n = 20 → zfg S g p o (n, g', p', 0) o' = S (n, g', p', 0) o' := fun n hn => zfg_c _ _ (by
      rintro ⟨q | q | q, rfl⟩ <;> cases q <;> exact hk ⟨rfl, rfl, rfl⟩)
    have e1 := e 19 (Or.inl rfl)
    have e2 := e 20 (Or.inr rfl)
    unfold zfg at e1 e2
    rw [e1, e2]
    exact h g' p' o' hg hp
theorem s5_fr {S' : zS} (h : zfr k18 S S') (hs : s5 P S) : s5 P S' := fun g p o hg hp => by
  rw [h _ _ (show k18 19 = false from rfl), h _ _ (show k18 20 = false from rfl)]
  exact hs g p o hg hp
theorem zku_5 {g p : Int} (hm : 0 ≤ P 2 (P 4 g 0) p) (h : s5 P S) : s5 P (zku P S g p) := by
  have h1 : s5 P (lp (zk1 P g p) 0 (P 2 (P 4 g 0) p) S) := lp_ind (f := zk1 P g p) (fun _ s => s5 P s) _ 0 _ S hm rfl h (fun o s _ _ hs => by
    unfold zk1
    split
    · exact zfg_5 hs
    · exact hs)
  unfold zku
  exact s5_fr ((zmk_fr rfl _ _).st rfl) h1
theorem zku_4 {g p g' p' : Int} : zku P S g p (18, g', p', 0) 4 = S (18, g', p', 0) 4 := by
  have h1 : ∀ (n : Nat) (S : zS), zmk P g p n S (18, g', p', 0) 4 = S (18, g', p', 0) 4 := by
    intro n
    induction n with
    | zero => intro S; rfl
    | succ n ih =>
      intro S
      by_cases hc : zmc P g p S
      · rw [zmk_go n hc, ih]
        rw [zst_at, if_neg (fun q => absurd q.2 (by decide))]
      · rw [zmk_stop _ hc]
  have h2 : zfr k19 S (lp (zk1 P g p) 0 (P 2 (P 4 g 0) p) S) := lp_fr (fun o s => by
    unfold zk1
    split
    · exact zfg_fr rfl rfl
    · exact zfr.rf)
  unfold zku
  rw [zst_at, if_neg (fun q => absurd q.2 (by decide)), h1, h2 _ _ rfl]
theorem xY_ku {g p : Int} (hm : 0 ≤ P 2 (P 4 g 0) p) (h : xY P S) : xY P (zku P S g p) := xY_fr (fun f => zku_k rfl) (fun t f => zku_k rfl) (fun g f => zku_k rfl) (fun g p => zku_4) (zku_5 hm h.2.1) h
theorem xY_lw {a b c d e : Int} (h : xY P S) : xY P (zlw S a b c d e) := by
  have hk : zfr (fun n => n == 1 || n == 2) S (zlw S a b c d e) := zlw_fr rfl rfl
  refine xY_fr (fun f => hk _ _ rfl) (fun t f => hk _ _ rfl) (fun g f => hk _ _ rfl) (fun g p => hk _ _ rfl) (fun g p o hg hp => ?_) h
  rw [hk _ _ rfl, hk (20, g, p, 0) _ rfl]
  exact h.2.1 g p o hg hp
theorem xZ_lw {a b c d e : Int} (h : xZ P S) : xZ P (zlw S a b c d e) := xZ_fr (K := fun n => n == 1 || n == 2) (zlw_fr rfl rfl) rfl rfl rfl h
end OPS
