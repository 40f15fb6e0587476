/-! ===== what the model's methods do ===== -/
def mS (S : zS) (m : Int) : Int := if S (57, 0, 0, 0) m = -1 ∨ S (61, 0, 0, 0) (S (57, 0, 0, 0) m) = 1 then 0 else if S (61, 0, 0, 0) (S (57, 0, 0, 0) m) = 2 then 1 else 2
theorem mS_le {S : zS} {m : Int} : 0 ≤ mS S m ∧ mS S m ≤ 2 := by
  unfold mS
  split
  · omega
  · split <;> omega
abbrev mB (S : zS) (g m : Int) : Prop := (S (69, 0, 0, 0) (g * 80 + m) = 3 ∨ S (69, 0, 0, 0) (g * 80 + m) = 4) ∨ mS S m = 1 ∨ ¬ S (58, 0, 0, 0) m = 0
abbrev mEq (S : zS) (w : Int) (o : Int) : Prop := mS S (S (59, 0, 0, 0) (w * 80 + o)) = 2
def mEn (S : zS) (w : Int) : Int := fi (mEq S w) 0 (S (48, 0, 0, 0) w)
def mfg (S : zS) (g m : Int) : zS := zst (zst S (69, 0, 0, 0) (g * 80 + m) 0) (70, 0, 0, 0) (g * 80 + m) 0
abbrev mu (S : zS) (k : Int) : Prop := S (69, 0, 0, 0) k = 1 ∨ S (69, 0, 0, 0) k = 2
def md1 (m : Int) (g : Int) (S : zS) : zS := if mu S (g * 80 + m) then mfg S g m else S
def mdr (Q : zP) (S : zS) (m : Int) : zS := lp (md1 m) 0 (Q 3 0 0) (zst S (58, 0, 0, 0) m 1)
abbrev mmc (Q : zP) (g p : Int) (S : zS) : Prop := S (65, 0, 0, 0) (g * 4 + p) < Q 2 (Q 4 g 0) p ∧ mB S g (S (59, 0, 0, 0) ((Q 4 g 0 * 4 + p) * 80 + S (65, 0, 0, 0) (g * 4 + p)))
def mmk (Q : zP) (g p : Int) : Nat → zS → zS
  | 0, S => S
  | n + 1, S => if mmc Q g p S then mmk Q g p n (zst S (65, 0, 0, 0) (g * 4 + p) (S (65, 0, 0, 0) (g * 4 + p) + 1)) else S
theorem mmk_stop {Q : zP} {g p : Int} {S : zS} (n : Nat) (h : ¬ mmc Q g p S) : mmk Q g p n S = S := by
  cases n with
  | zero => rfl
  | succ n => exact if_neg h
theorem mmk_go {Q : zP} {g p : Int} {S : zS} (n : Nat) (h : mmc Q g p S) : mmk Q g p (n + 1) S = mmk Q g p n (zst S (65, 0, 0, 0) (g * 4 + p) (S (65, 0, 0, 0) (g * 4 + p) + 1)) := if_pos h
def mm1 (Q : zP) (g p : Int) (S : zS) : zS := mmk Q g p (Q 2 (Q 4 g 0) p - S (65, 0, 0, 0) (g * 4 + p)).toNat S
def mse (Q : zP) (g : Int) (p : Int) (S : zS) : zS := zst (mm1 Q g p S) (66, 0, 0, 0) (g * 4 + p) (max (mm1 Q g p S (66, 0, 0, 0) (g * 4 + p)) (mm1 Q g p S (65, 0, 0, 0) (g * 4 + p)))
def msg (Q : zP) (g : Int) (S : zS) : zS := lp (mse Q g) 0 (Q 1 (Q 4 g 0) 0) S
/-- settle -/
def msa (Q : zP) (S : zS) : zS := lp (msg Q) 0 (Q 3 0 0) S
abbrev mkq (S : zS) (t m : Int) : Prop := S (52, 0, 0, 0) m / 4 = t ∧ mS S m = 0 ∧ S (58, 0, 0, 0) m = 0
def mkn (S : zS) (t : Int) : Int := sm (fun m => if mkq S t m then 1 else 0) 0 (S (40, 0, 0, 0) 11)
def mco (S : zS) (g x : Int) : Int := sm (fun m => if S (69, 0, 0, 0) (g * 80 + m) = x then 1 else 0) 0 (S (40, 0, 0, 0) 11)
def msu (S : zS) (g : Int) : Int := sm (fun m => if S (69, 0, 0, 0) (g * 80 + m) = 3 then S (70, 0, 0, 0) (g * 80 + m) else 0) 0 (S (40, 0, 0, 0) 11)
abbrev mlq (Q : zP) (S : zS) (g p o : Int) : Prop := (mS S (S (59, 0, 0, 0) ((Q 4 g 0 * 4 + p) * 80 + o)) = 0 ∧ S (58, 0, 0, 0) (S (59, 0, 0, 0) ((Q 4 g 0 * 4 + p) * 80 + o)) = 0) ∧ ¬ S (69, 0, 0, 0) (g * 80 + S (59, 0, 0, 0) ((Q 4 g 0 * 4 + p) * 80 + o)) = 3 ∧ ¬ S (69, 0, 0, 0) (g * 80 + S (59, 0, 0, 0) ((Q 4 g 0 * 4 + p) * 80 + o)) = 4
def mlg (Q : zP) (S : zS) (g p : Int) : Int := sm (fun o => if mlq Q S g p o then 1 else 0) (S (65, 0, 0, 0) (g * 4 + p)) (mEn S (Q 4 g 0 * 4 + p))
abbrev mg1 (Q : zP) (S : zS) (g p o : Int) : Prop := S (69, 0, 0, 0) (g * 80 + S (59, 0, 0, 0) ((Q 4 g 0 * 4 + p) * 80 + o)) = 2 ∧ S (71, 0, 0, 0) (g * 80 + S (59, 0, 0, 0) ((Q 4 g 0 * 4 + p) * 80 + o)) ≤ S (40, 0, 0, 0) 1
abbrev mg2 (Q : zP) (S : zS) (g p o : Int) : Prop := (mS S (S (59, 0, 0, 0) ((Q 4 g 0 * 4 + p) * 80 + o)) = 0 ∧ S (58, 0, 0, 0) (S (59, 0, 0, 0) ((Q 4 g 0 * 4 + p) * 80 + o)) = 0) ∧ S (69, 0, 0, 0) (g * 80 + S (59, 0, 0, 0) ((Q 4 g 0 * 4 + p) * 80 + o)) = 0
/-- the message that a partition gives -/
def mgv (Q : zP) (S : zS) (g p : Int) : Int := if fi (mg1 Q S g p) (S (65, 0, 0, 0) (g * 4 + p)) (Q 2 (Q 4 g 0) p) < Q 2 (Q 4 g 0) p then S (59, 0, 0, 0) ((Q 4 g 0 * 4 + p) * 80 + fi (mg1 Q S g p) (S (65, 0, 0, 0) (g * 4 + p)) (Q 2 (Q 4 g 0) p))
  else if fi (mg2 Q S g p) (S (66, 0, 0, 0) (g * 4 + p)) (mEn S (Q 4 g 0 * 4 + p)) < mEn S (Q 4 g 0 * 4 + p) then S (59, 0, 0, 0) ((Q 4 g 0 * 4 + p) * 80 + fi (mg2 Q S g p) (S (66, 0, 0, 0) (g * 4 + p)) (mEn S (Q 4 g 0 * 4 + p))) else -1
abbrev mgq (Q : zP) (S : zS) (g r p : Int) : Prop := S (67, 0, 0, 0) (g * 4 + p) = r ∧ ¬ mgv Q S g p = -1
def mgt (Q : zP) (S : zS) (g r : Int) : Int := if fi (mgq Q S g r) 0 (Q 1 (Q 4 g 0) 0) < Q 1 (Q 4 g 0) 0 then mgv Q S g (fi (mgq Q S g r) 0 (Q 1 (Q 4 g 0) 0)) else -1
def mtd (S : zS) (m : Int) : Int := 100 * (S (52, 0, 0, 0) m % 4) + S (53, 0, 0, 0) m
def mwn (Q : zP) (S : zS) (g r : Int) : Int := if S (68, 0, 0, 0) (g * 6 + r) = 0 then -1 else if mgt Q S g r = -1 then -1 else mtd S (mgt Q S g r)
abbrev mnq (Q : zP) (S : zS) (g m : Int) : Prop := (S (52, 0, 0, 0) m / 4 = Q 4 g 0 ∧ ¬ S (53, 0, 0, 0) m < S (65, 0, 0, 0) (g * 4 + S (52, 0, 0, 0) m % 4)) ∧ (S (69, 0, 0, 0) (g * 80 + m) = 2 ∨ S (69, 0, 0, 0) (g * 80 + m) = 1)
def mnv (S : zS) (g m : Int) : Int := if S (69, 0, 0, 0) (g * 80 + m) = 2 then max (S (40, 0, 0, 0) 1) (S (71, 0, 0, 0) (g * 80 + m)) else max (S (40, 0, 0, 0) 1 + 1) (S (71, 0, 0, 0) (g * 80 + m) + S (40, 0, 0, 0) 3)
def mnt (Q : zP) (S : zS) (g : Int) (m : Int) (b : Int) : Int := if mnq Q S g m then (if b = -1 then mnv S g m else min b (mnv S g m)) else b
def mnn (Q : zP) (S : zS) (g : Int) : Int := lp (mnt Q S g) 0 (S (40, 0, 0, 0) 11) (-1)
/-- a row of the ledger -/
def mwr (S : zS) (a g m : Int) : zS := if S (40, 0, 0, 0) 32 = 200 then S else zst (zst (zst (zst (zst (zst S (73, 0, 0, 0) (S (40, 0, 0, 0) 32 * 5) a) (73, 0, 0, 0) (S (40, 0, 0, 0) 32 * 5 + 1) g) (73, 0, 0, 0) (S (40, 0, 0, 0) 32 * 5 + 2) (S (52, 0, 0, 0) m % 4)) (73, 0, 0, 0) (S (40, 0, 0, 0) 32 * 5 + 3) (S (53, 0, 0, 0) m)) (73, 0, 0, 0) (S (40, 0, 0, 0) 32 * 5 + 4) (S (40, 0, 0, 0) 1)) (40, 0, 0, 0) 32 (S (40, 0, 0, 0) 32 + 1)
def mnk (S : zS) (g m : Int) : zS := if S (70, 0, 0, 0) (g * 80 + m) = 3 then mwr (zst (mwr S 2 g m) (69, 0, 0, 0) (g * 80 + m) 4) 3 g m else zst (zst (mwr S 2 g m) (69, 0, 0, 0) (g * 80 + m) 2) (71, 0, 0, 0) (g * 80 + m) (S (40, 0, 0, 0) 1 + S (40, 0, 0, 0) 2 * zsh 1 (S (70, 0, 0, 0) (g * 80 + m) - 1))
def mnr (S : zS) (g m : Int) : Int := if S (70, 0, 0, 0) (g * 80 + m) = 3 then -1 else S (40, 0, 0, 0) 1 + S (40, 0, 0, 0) 2 * zsh 1 (S (70, 0, 0, 0) (g * 80 + m) - 1)
abbrev mdc (Q : zP) (t p y : Int) (S : zS) : Prop := (0 < y ∧ S (47, 0, 0, 0) (t * 4 + p) < Q 2 t p) ∧ ¬ S (40, 0, 0, 0) 1 < S (56, 0, 0, 0) (S (59, 0, 0, 0) ((t * 4 + p) * 80 + S (47, 0, 0, 0) (t * 4 + p))) + y ∧ ¬ mS S (S (59, 0, 0, 0) ((t * 4 + p) * 80 + S (47, 0, 0, 0) (t * 4 + p))) = 2
def mdd (S : zS) (Q : zP) (t p : Int) : zS := zst (mdr Q S (S (59, 0, 0, 0) ((t * 4 + p) * 80 + S (47, 0, 0, 0) (t * 4 + p)))) (47, 0, 0, 0) (t * 4 + p) (S (47, 0, 0, 0) (t * 4 + p) + 1)
def mdo (Q : zP) (t p y : Int) : Nat → zS → zS
  | 0, S => S
  | n + 1, S => if mdc Q t p y S then mdo Q t p y n (mdd S Q t p) else S
theorem mdo_stop {Q : zP} {t p y : Int} {S : zS} (n : Nat) (h : ¬ mdc Q t p y S) : mdo Q t p y n S = S := by
  cases n with
  | zero => rfl
  | succ n => exact if_neg h
theorem mdo_go {Q : zP} {t p y : Int} {S : zS} (n : Nat) (h : mdc Q t p y S) : mdo Q t p y (n + 1) S = mdo Q t p y n (mdd S Q t p) := if_pos h
section MW
variable {Q : zP} {S : zS}
theorem mfg_W (h : zWM Q S) {g m : Int} : zWM Q (mfg S g m) := (h.s69 ⟨by omega, by omega⟩).s70 ⟨by omega, by omega⟩
theorem md1_W (h : zWM Q S) {g m : Int} : zWM Q (md1 m g S) := by
  unfold md1
  split
  · exact mfg_W h
  · exact h
theorem mdr_W (h : zWM Q S) {m : Int} : zWM Q (mdr Q S m) := by
  have hq := h.q
  exact lp_ind (fun _ s => zWM Q s) _ 0 _ _ (by omega) rfl (h.s58 ⟨by omega, by omega⟩) (fun o s _ _ hs => md1_W hs)
theorem mmk_W {g p : Int} (hg : 0 ≤ g ∧ g < Q 3 0 0) (hp : 0 ≤ p ∧ p < Q 1 (Q 4 g 0) 0) : ∀ (n : Nat) (S : zS), zWM Q S → zWM Q (mmk Q g p n S) := by
  intro n
  induction n with
  | zero => exact fun S h => h
  | succ n ih =>
    intro S h
    by_cases hc : mmc Q g p S
    · rw [mmk_go n hc]
      have h1 := h.b65 (g * 4 + p)
      have h2 := hc.1
      have h3 := h.qm (h.qg hg) hp
      exact ih _ (h.s65 ⟨by omega, by omega⟩)
    · rw [mmk_stop _ hc]
      exact h
theorem mse_W (h : zWM Q S) {g p : Int} (hg : 0 ≤ g ∧ g < Q 3 0 0) (hp : 0 ≤ p ∧ p < Q 1 (Q 4 g 0) 0) : zWM Q (mse Q g p S) := by
  have h1 : zWM Q (mm1 Q g p S) := mmk_W hg hp _ _ h
  have h2 := h1.b65 (g * 4 + p)
  have h3 := h1.b66 (g * 4 + p)
  exact h1.s66 ⟨by omega, by omega⟩
theorem msg_W (h : zWM Q S) {g : Int} (hg : 0 ≤ g ∧ g < Q 3 0 0) : zWM Q (msg Q g S) := by
  have h1 := h.qt (h.qg hg)
  exact lp_ind (fun _ s => zWM Q s) _ 0 _ _ (by omega) rfl h (fun p s g1 g2 hs => mse_W hs hg ⟨g1, g2⟩)
theorem msa_W (h : zWM Q S) : zWM Q (msa Q S) := by
  have hq := h.q
  exact lp_ind (fun _ s => zWM Q s) _ 0 _ _ (by omega) rfl h (fun p s g1 g2 hs => msg_W hs ⟨g1, g2⟩)
theorem mwr_W (h : zWM Q S) {a g m : Int} (ha : zR a) (hg : zR g) : zWM Q (mwr S a g m) := by
  unfold mwr
  split
  · exact h
  · have h1 := h.f32
    have h2 := h.b53 m
    have h3 := h.b52 m
    have h4 := h.f1
    exact (((((h.s73 ha).s73 hg).s73 ⟨by omega, by omega⟩).s73 ⟨by omega, by omega⟩).s73 ⟨by omega, by omega⟩).s40_32 ⟨by omega, by omega⟩
theorem mnk_W (h : zWM Q S) {g m : Int} (hg : zR g) : zWM Q (mnk S g m) := by
  have h1 := mwr_W h (a := 2) (g := g) (m := m) ⟨by omega, by omega⟩ hg
  unfold mnk
  split
  · exact mwr_W (h1.s69 ⟨by omega, by omega⟩) ⟨by omega, by omega⟩ hg
  · have h4 := h.f1
    have h5 := h.f2
    refine (h1.s69 ⟨by omega, by omega⟩).s71 ?_
    unfold zsh
    split <;> omega
theorem mdd_W (h : zWM Q S) {t p : Int} (h5 : S (47, 0, 0, 0) (t * 4 + p) < 80) : zWM Q (mdd S Q t p) := by
  have h6 := h.b47 (t * 4 + p)
  exact (mdr_W h).s47 ⟨by omega, by omega⟩
end MW
