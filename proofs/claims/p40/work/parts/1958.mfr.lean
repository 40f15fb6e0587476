/-! ===== what the model's steps leave alone ===== -/
section MFR
variable {K : Nat → Bool} {Q : zP} {S : zS}
theorem mmk_fr (h65 : K 65 = true) {g p : Int} : ∀ (n : Nat) (S : zS), zfr K S (mmk Q g p n S) := by
  intro n
  induction n with
  | zero => exact fun S => zfr.rf
  | succ n ih =>
    intro S
    by_cases hc : mmc Q g p S
    · rw [mmk_go n hc]
      exact (zfr.rf.st h65).tr (ih _)
    · rw [mmk_stop _ hc]
      exact zfr.rf
theorem mse_fr (h65 : K 65 = true) (h66 : K 66 = true) {g p : Int} : zfr K S (mse Q g p S) := (mmk_fr (S := S) h65 _).st h66
theorem msg_fr (h65 : K 65 = true) (h66 : K 66 = true) {g : Int} : zfr K S (msg Q g S) := lp_fr fun p s => mse_fr h65 h66
theorem msa_fr (h65 : K 65 = true) (h66 : K 66 = true) : zfr K S (msa Q S) := lp_fr fun p s => msg_fr h65 h66
def mt0 (S : zS) (g m : Int) : zS := if S (69, 0, 0, 0) (g * 80 + m) = 0 then zst S (66, 0, 0, 0) (g * 4 + S (52, 0, 0, 0) m % 4) (S (53, 0, 0, 0) m + 1) else S
def mtk (S : zS) (g m : Int) : zS := zst (zst (zst (mt0 S g m) (69, 0, 0, 0) (g * 80 + m) 1) (70, 0, 0, 0) (g * 80 + m) (S (70, 0, 0, 0) (g * 80 + m) + 1)) (71, 0, 0, 0) (g * 80 + m) (S (40, 0, 0, 0) 1)
theorem mt0_fr (h66 : K 66 = true) {g m : Int} : zfr K S (mt0 S g m) := by
  unfold mt0
  split
  · exact zfr.rf.st h66
  · exact zfr.rf
theorem mtk_fr (h66 : K 66 = true) (h69 : K 69 = true) (h70 : K 70 = true) (h71 : K 71 = true) {g m : Int} : zfr K S (mtk S g m) := (((mt0_fr h66).st h69).st h70).st h71
theorem mnk_fr (h40 : K 40 = true) (h69 : K 69 = true) (h71 : K 71 = true) (h73 : K 73 = true) {g m : Int} : zfr K S (mnk S g m) := by
  unfold mnk
  split
  · exact ((mwr_fr h40 h73).st h69).tr (mwr_fr h40 h73)
  · exact ((mwr_fr h40 h73).st h69).st h71
theorem mdo_fr (h47 : K 47 = true) (h58 : K 58 = true) (h69 : K 69 = true) (h70 : K 70 = true) {t p y : Int} : ∀ (n : Nat) (S : zS), zfr K S (mdo Q t p y n S) := by
  intro n
  induction n with
  | zero => exact fun S => zfr.rf
  | succ n ih =>
    intro S
    by_cases hc : mdc Q t p y S
    · rw [mdo_go n hc]
      exact ((mdr_fr h58 h69 h70).st h47).tr (ih _)
    · rw [mdo_stop _ hc]
      exact zfr.rf
theorem mc1_fr (h58 : K 58 = true) (h69 : K 69 = true) (h70 : K 70 = true) {b w o : Int} {s : zS × (Int → Int) × Int} : zfr K s.1 (mc1 Q b w o s).1 := by
  unfold mc1
  split
  · exact zfr.rf
  · split
    · show zfr K s.1 (if b = 0 then s.1 else _)
      split
      · exact zfr.rf
      · exact mdr_fr h58 h69 h70
    · exact zfr.rf
theorem mcN_fr (h58 : K 58 = true) (h69 : K 69 = true) (h70 : K 70 = true) {b w : Int} : ∀ (n : Nat) (s : zS × (Int → Int) × Int), zfr K s.1 (mcN Q b w n s).1 := by
  intro n
  induction n with
  | zero => exact fun s => zfr.rf
  | succ n ih => exact fun s => (mc1_fr h58 h69 h70).tr (ih _)
theorem mcl_fr (h58 : K 58 = true) (h69 : K 69 = true) (h70 : K 70 = true) {b t : Int} {s : zS × Int} : zfr K s.1 (mcl Q b t s).1 := lp_fr2 fun w s => mcN_fr h58 h69 h70 _ (s.1, fun _ => 0, s.2)
end MFR
/-- seeking -/
def msk1 (Q : zP) (g p x : Int) (o : Int) (S : zS) : zS := if x ≤ o ∨ mu S (g * 80 + S (59, 0, 0, 0) ((Q 4 g 0 * 4 + p) * 80 + o)) then mfg S g (S (59, 0, 0, 0) ((Q 4 g 0 * 4 + p) * 80 + o)) else S
def msk (Q : zP) (g p x : Int) (S : zS) : zS := zst (zst (lp (msk1 Q g p x) 0 (Q 2 (Q 4 g 0) p) S) (65, 0, 0, 0) (g * 4 + p) x) (66, 0, 0, 0) (g * 4 + p) x
theorem msk1_W {Q : zP} {S : zS} (h : zWM Q S) {g p x o : Int} : zWM Q (msk1 Q g p x o S) := by
  unfold msk1
  split
  · exact mfg_W h
  · exact h
/-- joining: what is given anew -/
def mj1 (Q : zP) (g p : Int) (o : Int) (S : zS) : zS := if S (69, 0, 0, 0) (g * 80 + S (59, 0, 0, 0) ((Q 4 g 0 * 4 + p) * 80 + o)) = 1 then mfg S g (S (59, 0, 0, 0) ((Q 4 g 0 * 4 + p) * 80 + o)) else S
def mj2 (Q : zP) (g p x : Int) (S : zS) : zS := zst (lp (mj1 Q g p) 0 (Q 2 (Q 4 g 0) p) (zst S (67, 0, 0, 0) (g * 4 + p) x)) (66, 0, 0, 0) (g * 4 + p) (lp (mj1 Q g p) 0 (Q 2 (Q 4 g 0) p) (zst S (67, 0, 0, 0) (g * 4 + p) x) (65, 0, 0, 0) (g * 4 + p))
def mj3 (Q : zP) (F : Int → Int) (g : Int) (p : Int) (S : zS) : zS := if S (67, 0, 0, 0) (g * 4 + p) = F p then S else mj2 Q g p (F p) S
theorem mj1_W {Q : zP} {S : zS} (h : zWM Q S) {g p o : Int} : zWM Q (mj1 Q g p o S) := by
  unfold mj1
  split
  · exact mfg_W h
  · exact h
/-- those overdue -/
abbrev mov (S : zS) (k : Int) : Prop := S (69, 0, 0, 0) k = 1 ∧ ¬ S (40, 0, 0, 0) 1 < S (71, 0, 0, 0) k + S (40, 0, 0, 0) 3
def mv1 (g w : Int) (o : Int) (s : zS × Int) : zS × Int := if mov s.1 (g * 80 + s.1 (59, 0, 0, 0) (w * 80 + o)) then (mnk s.1 g (s.1 (59, 0, 0, 0) (w * 80 + o)), s.2 + 1) else s
def mv2 (Q : zP) (g : Int) (w : Int) (s : zS × Int) : zS × Int := lp (mv1 g w) 0 (Q 2 (Q 4 g 0) (w - Q 4 g 0 * 4)) s
def mv3 (Q : zP) (g : Int) (s : zS × Int) : zS × Int := lp (mv2 Q g) (Q 4 g 0 * 4) (Q 4 g 0 * 4 + Q 1 (Q 4 g 0) 0) s
def mv4 (Q : zP) (t : Int) (p : Int) (S : zS) : zS := mdo Q t p (S (46, 0, 0, 0) t) (Q 2 t p - S (47, 0, 0, 0) (t * 4 + p)).toNat S
def mv5 (Q : zP) (t : Int) (S : zS) : zS := lp (mv4 Q t) 0 (Q 1 t 0) S
/-- what a transaction counts -/
def mte (S : zS) (x : Int) : Int := sm (fun m => if S (57, 0, 0, 0) m = x then 1 else 0) 0 (S (40, 0, 0, 0) 11)
theorem msh_le {Q : zP} {S : zS} {g : Int} : ∀ j, -1 ≤ msh Q S g j ∧ msh Q S g j ≤ 5 := by
  have hF : ∀ j, -1 ≤ msF j ∧ msF j ≤ 5 := by
    refine lp_ind (f := fun p F => zup F p (-1)) (fun _ (F : Int → Int) => ∀ j, -1 ≤ F j ∧ F j ≤ 5) _ 0 4 (fun _ => 0) (by omega) rfl (fun j => by show -1 ≤ (0 : Int) ∧ (0 : Int) ≤ 5; omega) (fun o F _ _ hF j => ?_)
    show -1 ≤ (if j = o then (-1 : Int) else F j) ∧ (if j = o then (-1 : Int) else F j) ≤ 5
    have := hF j
    split <;> omega
  refine lp_ind (f := ms1 S g (Q 1 (Q 4 g 0) 0 / msn S g) (Q 1 (Q 4 g 0) 0 % msn S g)) (fun _ s => ∀ j, -1 ≤ s.1 j ∧ s.1 j ≤ 5) _ 0 6 (msF, 0, 0) (by omega) rfl hF (fun r s h1 h2 hs => ?_)
  unfold ms1
  split
  · exact hs
  · by_cases hn : 0 ≤ msi (Q 1 (Q 4 g 0) 0 / msn S g) (Q 1 (Q 4 g 0) 0 % msn S g) s.2.2
    · refine lp_ind (f := ms0 r) (fun _ s => ∀ j, -1 ≤ s.1 j ∧ s.1 j ≤ 5) _ 0 _ (s.1, s.2.1) hn rfl hs (fun o s _ _ hs j => ?_)
      show -1 ≤ (if j = s.2 then r else s.1 j) ∧ (if j = s.2 then r else s.1 j) ≤ 5
      have := hs j
      split <;> omega
    · rw [lp_end (by omega)]
      exact hs
theorem zst_id {S : zS} {k : zK} {f v : Int} (h : S k f = v) : zst S k f v = S := by
  funext k' f'
  rw [zst_at]
  split
  · next q => obtain ⟨rfl, rfl⟩ := q; exact h.symm
  · rfl
theorem mnk_to {S : zS} (h : ∀ k, S (69, 0, 0, 0) k = 1 → 1 ≤ S (70, 0, 0, 0) k) {g m : Int} : ∀ k, mnk S g m (69, 0, 0, 0) k = 1 → 1 ≤ mnk S g m (70, 0, 0, 0) k := by
  have h70 : ∀ k, mnk S g m (70, 0, 0, 0) k = S (70, 0, 0, 0) k := fun k => mnk_fr (K := fun n => n == 40 || n == 69 || n == 71 || n == 73) rfl rfl rfl rfl _ _ rfl
  have h69 : ∀ (S : zS) (a k : Int), mwr S a g m (69, 0, 0, 0) k = S (69, 0, 0, 0) k := fun S a k => mwr_fr (K := fun n => n == 40 || n == 73) rfl rfl _ _ rfl
  intro k hk
  rw [h70]
  refine h k ?_
  unfold mnk at hk
  split at hk
  · rw [h69, zst_at] at hk
    split at hk
    · omega
    · rwa [h69] at hk
  · rw [zst_k _ _ _ _ (by simp), zst_at] at hk
    split at hk
    · omega
    · rwa [h69] at hk
def mqw (Q : zP) (g : Int) (w : Int) : Int := Q 2 (Q 4 g 0) (w - Q 4 g 0 * 4)
theorem mqw_nn {Q : zP} {S : zS} (h : zWM Q S) {g a : Int} (hg : 0 ≤ g ∧ g < Q 3 0 0) (ha : Q 4 g 0 * 4 ≤ a) : 0 ≤ sm (mqw Q g) a (Q 4 g 0 * 4 + Q 1 (Q 4 g 0) 0) := by
  by_cases hc : a ≤ Q 4 g 0 * 4 + Q 1 (Q 4 g 0) 0
  · exact (sm_bound (f := mqw Q g) (m := 80) (by omega) _ a _ hc rfl (fun o h1 h2 => by
      have := h.qm (h.qg hg) (p := o - Q 4 g 0 * 4) ⟨by omega, by omega⟩
      exact this)).1
  · rw [sm_end (by omega)]
    omega
