/-! ===== the Pier's acts: end, begin ===== -/
theorem zcnt_hi {Δ : zDl} {ad : zK → Nat} {P : zP} {k : zK} {r : Int → Int} (h : 22 ≤ k.1) : zcnt Δ ad P k r = none := by
  unfold zcnt
  rw [if_neg (by omega), if_neg (by omega), if_neg (by omega), if_neg (by omega), if_neg (by omega), if_neg (by omega), if_neg (by omega), if_neg (by omega), if_neg (by omega), if_neg (by omega), if_neg (by omega), if_neg (by omega), if_neg (by omega), if_neg (by omega), if_neg (by omega), if_neg (by omega), if_neg (by omega), if_neg (by omega), if_neg (by omega), if_neg (by omega), if_neg (by omega), if_neg (by omega)]
section ZGH
variable {Δ : zDl} {ad ad' : zK → Nat} {P Q : zP} {V V' S S' T : zS} {X : zMem}
theorem mm_cg4 (h : ∀ k f, k.1 < 40 → S' k f = S k f) : mm Δ ad P S' X = mm Δ ad P S X := by
  funext k
  by_cases h8 : k.1 < 80
  · rw [mm_lt _ h8, mm_lt _ h8]
    by_cases h4 : k.1 < 40
    · rw [show S' k = S k from funext fun f => h k f h4]
    · rw [zcnt_hi (by omega), zcnt_hi (by omega)]
  · rw [mm_ge _ h8, mm_ge _ h8]
theorem wld_i4 (h : ∀ k f, k.1 < 40 → S k f = V k f) : pm Δ ad P V (mm Δ ad P S z00) = wld Δ ad P V := congrArg (pm Δ ad P V) (mm_cg4 h)
/-- what the Pier isn't told -/
theorem pm_gh (h : ∀ k f, ¬ (k.1 = 3 ∨ (k.1 = 14 ∧ (f = 3 ∨ f = 4))) → V' k f = V k f) : pm Δ ad Q V' X = pm Δ ad Q V X := by
  funext k
  by_cases hk : 200 ≤ k.1 ∧ k.1 < 224
  · rw [pm_in _ hk, pm_in _ hk]
    by_cases hn : k.1 = 204
    · obtain ⟨n, i, j, o⟩ := k
      have hn : n = 204 := hn
      subst hn
      show pc204 Δ ad Q V' i j o = pc204 Δ ad Q V i j o
      unfold pc204
      have e : zpr Q V' i j o = zpr Q V i j o := by
        funext x
        unfold zpr
        rw [h (14, i, j, o) 0 (by simp), h (14, i, j, o) 1 (by simp), h (14, i, j, o) 2 (by simp), h (14, i, j, o) 6 (by simp), h (14, i, j, o) 5 (by simp), h (19, _, _, _) _ (by simp), h (20, _, _, _) _ (by simp), h (21, _, _, _) _ (by simp)]
      rw [e]
    · refine pcnt_V (fun k' f hp => h k' f (fun q => ?_))
      obtain ⟨n, i, j, o⟩ := k
      obtain ⟨n', i', j', o'⟩ := k'
      have hn : ¬ n = 204 := hn
      have q : n' = 3 ∨ (n' = 14 ∧ (f = 3 ∨ f = 4)) := q
      clear h hk
      unfold pD at hp
      rcases q with q | ⟨q, -⟩ <;> subst q <;> (repeat' split at hp) <;> simp_all
  · rw [pm_out _ hk, pm_out _ hk]
/-! two states in one -/
def mx (S T : zS) : zS := fun k f => if k.1 < 40 then S k f else T k f
theorem mx_lt {k : zK} {f : Int} (h : k.1 < 40) : mx S T k f = S k f := if_pos h
theorem mx_st {k : zK} {f v : Int} (h : k.1 < 40) : zst (mx S T) k f v = mx (zst S k f v) T := by
  funext k' f'
  rw [zst_at]
  unfold mx
  by_cases hc : k' = k ∧ f' = f
  · rw [if_pos hc, hc.1, hc.2, if_pos h, zst_s]
  · rw [if_neg hc]
    by_cases h4 : k'.1 < 40
    · rw [if_pos h4, if_pos h4, zst_at, if_neg hc]
    · rw [if_neg h4, if_neg h4]
theorem mx_id (h : ∀ k f, k.1 < 40 → T k f = S k f) : mx S T = T := by
  funext k f
  unfold mx
  by_cases h4 : k.1 < 40
  · rw [if_pos h4, h k f h4]
  · rw [if_neg h4]
theorem lp_mx {f : Int → zS → zS} (h : ∀ o S, f o (mx S T) = mx (f o S) T) : ∀ (k : Nat) (a n : Int) (S : zS), (n - a).toNat = k → lp f a n (mx S T) = mx (lp f a n S) T := by
  intro k
  induction k with
  | zero => intro a n S hk; rw [lp_end (by omega), lp_end (by omega)]
  | succ k ih => intro a n S hk; rw [lp_step (f := f) (a := a) (n := n) (s := mx S T) (by omega), lp_step (f := f) (a := a) (n := n) (s := S) (by omega), h, ih _ _ _ (by omega)]
theorem zfg_mx {g p o : Int} : zfg (mx S T) g p o = mx (zfg S g p o) T := by
  unfold zfg
  rw [mx_st (Nat.le_of_ble_eq_true rfl), mx_st (Nat.le_of_ble_eq_true rfl)]
theorem zk1_mx {g p : Int} (o : Int) (S : zS) : zk1 P g p o (mx S T) = mx (zk1 P g p o S) T := by
  show (if ¬ S (14, P 4 g 0, p, o) 5 = 0 ∧ ju S g p o then zfg (mx S T) g p o else mx S T) = mx (if ¬ S (14, P 4 g 0, p, o) 5 = 0 ∧ ju S g p o then zfg S g p o else S) T
  split
  · exact zfg_mx
  · rfl
theorem zmk_mx {g p : Int} : ∀ (n : Nat) (S : zS), zmk P g p n (mx S T) = mx (zmk P g p n S) T := by
  intro n
  induction n with
  | zero => intro S; rfl
  | succ n ih =>
    intro S
    by_cases hc : zmc P g p S
    · have hc2 : zmc P g p (mx S T) := hc
      rw [zmk_go n hc, zmk_go n hc2, ← ih, ← mx_st (Nat.le_of_ble_eq_true rfl)]
      rfl
    · have hc2 : ¬ zmc P g p (mx S T) := hc
      rw [zmk_stop _ hc, zmk_stop _ hc2]
theorem zku_mx {g p : Int} : zku P (mx S T) g p = mx (zku P S g p) T := by
  unfold zku
  rw [lp_mx zk1_mx _ _ _ _ rfl]
  generalize lp (zk1 P g p) 0 (P 2 (P 4 g 0) p) S = U
  rw [mx_lt (k := (18, g, p, 0)) (Nat.le_of_ble_eq_true rfl), zmk_mx]
  generalize zmk P g p _ U = W
  rw [mx_lt (k := (18, g, p, 0)) (Nat.le_of_ble_eq_true rfl), mx_lt (k := (18, g, p, 0)) (Nat.le_of_ble_eq_true rfl), mx_st (Nat.le_of_ble_eq_true rfl)]
theorem zkA_mx : zkA P (mx S T) = mx (zkA P S) T := lp_mx (fun g S => lp_mx (fun p S => zku_mx) _ _ _ _ rfl) _ _ _ _ rfl
theorem zkA_lo (h : ∀ k f, k.1 < 40 → T k f = S k f) {k : zK} {f : Int} (hk : k.1 < 40) : zkA P T k f = zkA P S k f := by
  rw [← mx_id h, zkA_mx, mx_lt hk]
end ZGH
/-! a transaction ends -/
def zEd (P : zP) (V : zS) (x r : Int) : zS := (lp (zse1 P x r) 0 (P 0 0 0) (zst V (3, 0, 0, 0) x 0, 0)).1
def zEu (P : zP) (V : zS) (x r : Int) : zS := zst (zst (zEd P V x r) (211, 0, 0, 0) (V (212, 0, 0, 0) x) (1 + r)) (212, 0, 0, 0) x (-1)
def zEc (_ : zP) (U : zS) (c t p o : Int) : Int := if U (14, t, p, o) 6 = c then 1 else 0
def zE2 (P : zP) (U : zS) (c t p : Int) : Int := sm (zEc P U c t p) 0 (P 2 t p)
def zE1 (P : zP) (U : zS) (c t : Int) : Int := sm (zE2 P U c t) 0 (P 1 t 0)
theorem zTr_op {P : zP} {V : zS} (h : zTr P V) {x : Int} (hx : 0 ≤ x ∧ x < 4) (hop : 0 ≤ V (212, 0, 0, 0) x) : ¬ V (3, 0, 0, 0) x = 0 := fun q => by
  have := (h.1 x hx.1 hx.2).1.mp q
  omega
section ZEND
variable {P : zP} {V V' : zS} {x r : Int}
/-- the one of a pending message is open -/
theorem zPn (h : zJ P V) {t p o : Int} (ht : inT P t) (hp : inP P t p) (ho : inM P t p o) (h2 : V (14, t, p, o) 4 = 2) : ¬ V (212, 0, 0, 0) (V (14, t, p, o) 3) = -1 ∧ (0 ≤ V (14, t, p, o) 3 ∧ V (14, t, p, o) 3 < 4) := by
  obtain ⟨-, ⟨M, hM⟩, hT, -⟩ := h
  obtain ⟨b1, b2, b3⟩ := (hM.1.1.T t p o ht hp ho).1 h2
  exact ⟨fun q => b3 ((hM.1.1.D _ b1.1 b1.2).1.mp ((hT.1 _ b1.1 b1.2).1.mpr q)), b1⟩
theorem zEd_at (h : zJ P V) : (∀ t p o, inT P t → inP P t p → inM P t p o → zEd P V x r (14, t, p, o) 4 = if V (14, t, p, o) 4 = 2 ∧ V (14, t, p, o) 3 = x then r else V (14, t, p, o) 4) ∧ ∀ k f, ¬ (k.1 = 14 ∧ f = 4) → zEd P V x r k f = zst V (3, 0, 0, 0) x 0 k f := by
  obtain ⟨-, ⟨M, hM⟩, -⟩ := h
  have hV := hM.2.2.2.2.2.1
  unfold zEd
  rw [eS_all hV]
  refine ⟨fun t p o ht hp ho => ?_, fun k f hk => (show eS (zst V (3, 0, 0, 0) x 0) x r (fun t p o => inT P t ∧ inP P t p ∧ inM P t p o) k f = _ from eS_n (fun q => hk ⟨q.1, q.2.2⟩))⟩
  show eS (zst V (3, 0, 0, 0) x 0) x r (fun t p o => inT P t ∧ inP P t p ∧ inM P t p o) (14, t, p, o) 4 = _
  rw [eS_at (V := fun t p o => inT P t ∧ inP P t p ∧ inM P t p o) ⟨ht, hp, ho⟩, zst_k _ _ _ _ (by simp), zst_k _ _ _ _ (by simp)]
theorem zEd_2 (h : zJ P V) : (lp (zse1 P x r) 0 (P 0 0 0) (zst V (3, 0, 0, 0) x 0, 0)).2 = sm (fun t => sm (fun p => sm (eC (zst V (3, 0, 0, 0) x 0) x t p) 0 (P 2 t p)) 0 (P 1 t 0)) 0 (P 0 0 0) := by
  obtain ⟨-, ⟨M, hM⟩, -⟩ := h
  rw [eS_all hM.2.2.2.2.2.1]
theorem zEd_W (h : zJ P V) (hr : r = 0 ∨ r = 1) : zWS P (zEd P V x r) := by
  have hP := h.wp
  have hq := hP.n
  exact lp_ind (f := zse1 P x r) (fun _ s => zWS P s.1) _ 0 (P 0 0 0) (zst V (3, 0, 0, 0) x 0, 0) (by omega) rfl (h.wv.W.sf ⟨by omega, by omega⟩ (by decide)) (fun t s h1 h2 hs => zse1_W (m := s.2) hP ⟨by omega, by omega⟩ ⟨h1, h2⟩ hs)
theorem zEu_n (h : zJ P V) (k : zK) (f : Int) (hk : ¬ (k.1 = 14 ∧ f = 4)) (h1 : k.1 ≠ 211) (h2 : k.1 ≠ 212) (h3 : k.1 ≠ 3) : zEu P V x r k f = V k f := by
  unfold zEu
  rw [zst_k _ _ _ _ (fun q => h2 (by rw [q])), zst_k _ _ _ _ (fun q => h1 (by rw [q])), (zEd_at h).2 k f hk, zst_k _ _ _ _ (fun q => h3 (by rw [q]))]
theorem zEu_g (h : zJ P V) (k : zK) (f : Int) (hk : ¬ (k.1 = 3 ∨ (k.1 = 14 ∧ (f = 3 ∨ f = 4)))) : zEu P V x r k f = zst (zst V (211, 0, 0, 0) (V (212, 0, 0, 0) x) (1 + r)) (212, 0, 0, 0) x (-1) k f := by
  unfold zEu
  rw [zst_at (zst (zEd P V x r) _ _ _), zst_at (zst V _ _ _)]
  split
  · rfl
  · rw [zst_at (zEd P V x r), zst_at V]
    split
    · rfl
    · rw [(zEd_at h).2 k f (fun q => hk (Or.inr ⟨q.1, Or.inr q.2⟩)), zst_k _ _ _ _ (fun q => hk (Or.inl (by rw [q])))]
theorem zEu_4 (h : zJ P V) {t p o : Int} (ht : inT P t) (hp : inP P t p) (ho : inM P t p o) : zEu P V x r (14, t, p, o) 4 = if V (14, t, p, o) 4 = 2 ∧ V (14, t, p, o) 3 = x then r else V (14, t, p, o) 4 := by
  unfold zEu
  rw [zst_k _ _ _ _ (by simp), zst_k _ _ _ _ (by simp), (zEd_at h).1 t p o ht hp ho]
theorem zEu_3 (h : zJ P V) (y : Int) : zEu P V x r (3, 0, 0, 0) y = if y = x then 0 else V (3, 0, 0, 0) y := by
  unfold zEu
  rw [zst_k _ _ _ _ (by simp), zst_k _ _ _ _ (by simp), (zEd_at h).2 _ _ (by simp), zst_at]
  by_cases hy : y = x
  · rw [if_pos ⟨rfl, hy⟩, if_pos hy]
  · rw [if_neg (fun q => hy q.2), if_neg hy]
theorem zEu_211 (h : zJ P V) (y : Int) : zEu P V x r (211, 0, 0, 0) y = if y = V (212, 0, 0, 0) x then 1 + r else V (211, 0, 0, 0) y := by
  unfold zEu
  rw [zst_k _ _ _ _ (by simp), zst_at]
  by_cases hy : y = V (212, 0, 0, 0) x
  · rw [if_pos ⟨rfl, hy⟩, if_pos hy]
  · rw [if_neg (fun q => hy q.2), if_neg hy, (zEd_at h).2 _ _ (by simp), zst_k _ _ _ _ (by simp)]
theorem zEu_212 (h : zJ P V) (y : Int) : zEu P V x r (212, 0, 0, 0) y = if y = x then -1 else V (212, 0, 0, 0) y := by
  unfold zEu
  rw [zst_at]
  by_cases hy : y = x
  · rw [if_pos ⟨rfl, hy⟩, if_pos hy]
  · rw [if_neg (fun q => hy q.2), if_neg hy, zst_k _ _ _ _ (by simp), (zEd_at h).2 _ _ (by simp), zst_k _ _ _ _ (by simp)]
theorem zEu_c (h : zJ P V) (hx : 0 ≤ x ∧ x < 4) (hop : 0 ≤ V (212, 0, 0, 0) x) : sm (zE1 P (zEu P V x r) (V (212, 0, 0, 0) x)) 0 (P 0 0 0) = sm (fun t => sm (fun p => sm (eC (zst V (3, 0, 0, 0) x 0) x t p) 0 (P 2 t p)) 0 (P 1 t 0)) 0 (P 0 0 0) := by
  refine sm_congr _ _ _ rfl (fun t t1 t2 => sm_congr _ _ _ rfl (fun p p1 p2 => sm_congr _ _ _ rfl (fun o o1 o2 => ?_)))
  have := (h.tr.2.2 t p o ⟨t1, t2⟩ ⟨p1, p2⟩ ⟨o1, o2⟩).2 x hx.1 hx.2 (by omega)
  unfold zEc eC
  rw [zEu_n h _ _ (by simp) (by simp) (by simp) (by simp), zst_k _ _ _ _ (by simp), zst_k _ _ _ _ (by simp)]
  by_cases hc : V (14, t, p, o) 4 = 2 ∧ V (14, t, p, o) 3 = x
  · rw [if_pos hc, if_pos (this.mpr hc)]
  · rw [if_neg hc, if_neg (fun q => hc (this.mp q))]
theorem zEu_V (h : zJ P V) (hx : 0 ≤ x ∧ x < 4) (hop : 0 ≤ V (212, 0, 0, 0) x) (hr : r = 0 ∨ r = 1) : zWV P (zEu P V x r) ∧ zSet P (zEu P V x r) ∧ zTr P (zEu P V x r) := by
  have hv := h.wv
  have n := zEu_n (x := x) (r := r) h
  have m := fun {t p o : Int} (ht : inT P t) (hp : inP P t p) (ho : inM P t p o) => zEu_4 (x := x) (r := r) h ht hp ho
  have n3 := zEu_3 (x := x) (r := r) h
  have n211 := zEu_211 (x := x) (r := r) h
  have n212 := zEu_212 (x := x) (r := r) h
  have hW : zWS P (zEu P V x r) := ((zEd_W h hr).sf ⟨by omega, by omega⟩ (by decide)).sf ⟨by omega, by omega⟩ (by decide)
  obtain ⟨a1, a2, a3⟩ := h.tr
  have ho4 := hv.op x
  generalize zEu P V x r = U at n m n3 n211 n212 hW
  refine ⟨⟨hW, ⟨fun t p o => ?_, fun g p o => ?_, fun t p o ht hp ho => ?_⟩, ⟨⟨(n _ _ (by simp) (by simp) (by simp) (by simp)).trans hv.gn, by rw [n _ _ (by simp) (by simp) (by simp) (by simp)]; exact hv.dw⟩, ⟨fun g => by rw [n _ _ (by simp) (by simp) (by simp) (by simp)]; exact hv.2.2.1.2.1 g, fun g hg => by rw [n _ _ (by simp) (by simp) (by simp) (by simp)]; exact hv.of hg⟩⟩, ⟨fun g y => ?_, fun t => ?_, ⟨fun y => ?_, fun y => ?_⟩⟩, ?_, fun t y => ?_⟩, zSet_fr (fun t p o => n _ _ (by simp) (by simp) (by simp) (by simp)) (fun g p o => Or.inl (n _ _ (by simp) (by simp) (by simp) (by simp))) h.st, ⟨fun y y1 y2 => ?_, fun k hk => ?_, fun t p o ht hp ho => ?_⟩⟩
  · rw [n _ _ (by simp) (by simp) (by simp) (by simp), n _ _ (by simp) (by simp) (by simp) (by simp), n _ _ (by simp) (by simp) (by simp) (by simp)]
    exact ⟨hv.dr t p o, hv.tr t p o, hv.ky t p o⟩
  · rw [n _ _ (by simp) (by simp) (by simp) (by simp)]
    exact hv.st4 g p o
  · rw [m ht hp ho]
    have hs := hv.sn ht hp ho
    have ht3 := (a3 t p o ht hp ho).2 x hx.1 hx.2 (by omega)
    unfold zsn at hs ⊢
    rw [n (14, t, p, o) 6 (by simp) (by simp) (by simp) (by simp), n211]
    by_cases hc : V (14, t, p, o) 4 = 2 ∧ V (14, t, p, o) 3 = x
    · have e6 := ht3.mpr hc
      rw [if_pos hc, if_neg (by omega), if_pos e6]
      rcases hr with rfl | rfl <;> simp
    · rw [if_neg hc, if_neg (fun q => hc (ht3.mp q))]
      exact hs
  · rw [n _ _ (by simp) (by simp) (by simp) (by simp)]
    exact hv.in2 g y
  · rw [n _ _ (by simp) (by simp) (by simp) (by simp), n _ _ (by simp) (by simp) (by simp) (by simp)]
    exact hv.t8 t
  · rw [n212]
    split
    · omega
    · exact hv.op y
  · rw [n211]
    split
    · omega
    · exact hv.en y
  · unfold zV0
    rw [n _ _ (by simp) (by simp) (by simp) (by simp), n _ _ (by simp) (by simp) (by simp) (by simp)]
    exact hv.f0
  · rw [n _ _ (by simp) (by simp) (by simp) (by simp)]
    exact hv.nx t y
  · obtain ⟨b1, b2, b3, b4⟩ := a1 y y1 y2
    obtain ⟨c1, c2, c3, c4⟩ := a1 x hx.1 hx.2
    rw [n3, n212, n (0, 0, 0, 0) 4 (by simp) (by simp) (by simp) (by simp)]
    by_cases hy : y = x
    · rw [if_pos hy, if_pos hy]
      exact ⟨by simp, by have := hv.f0.1; omega, fun q => absurd rfl q, fun z z1 z2 q => absurd rfl q⟩
    · rw [if_neg hy, if_neg hy]
      refine ⟨b1, b2, fun q => ?_, fun z z1 z2 q e => ?_⟩
      · rw [n211, if_neg (fun e => hy (b4 x hx.1 hx.2 q e))]
        exact b3 q
      · rw [n212] at e
        by_cases hz : z = x
        · rw [if_pos hz] at e
          exact absurd e q
        · rw [if_neg hz] at e
          exact b4 z z1 z2 q e
  · rw [n (0, 0, 0, 0) 4 (by simp) (by simp) (by simp) (by simp)] at hk
    have := (a1 x hx.1 hx.2).2.1
    rw [n211, if_neg (by omega)]
    exact a2 k hk
  · obtain ⟨d1, d2⟩ := a3 t p o ht hp ho
    rw [n (14, t, p, o) 6 (by simp) (by simp) (by simp) (by simp), n (0, 0, 0, 0) 4 (by simp) (by simp) (by simp) (by simp), n (14, t, p, o) 3 (by simp) (by simp) (by simp) (by simp), m ht hp ho]
    refine ⟨d1, fun y y1 y2 q => ?_⟩
    rw [n212] at q ⊢
    by_cases hy : y = x
    · rw [if_pos hy] at q
      exact absurd rfl q
    · rw [if_neg hy] at q ⊢
      have e1 := d2 y y1 y2 q
      have e2 := d2 x hx.1 hx.2 (by omega)
      by_cases hc : V (14, t, p, o) 4 = 2 ∧ V (14, t, p, o) 3 = x
      · rw [if_pos hc]
        refine ⟨fun z => ?_, fun z => by omega⟩
        have := (e1.mp z).2
        omega
      · rw [if_neg hc]
        exact e1
theorem zK0.eq (h : zK0 P V) (e6 : V' (0, 0, 0, 0) 6 = V (0, 0, 0, 0) 6) (e1 : V' (1, 0, 0, 0) 1 = V (1, 0, 0, 0) 1) (e2 : ∀ f, V' (2, 0, 0, 0) f = V (2, 0, 0, 0) f) (e11 : ∀ t p, V' (11, t, p, 0) 1 = V (11, t, p, 0) 1) (e14 : ∀ t p o, V' (14, t, p, o) 5 = V (14, t, p, o) 5) (e19 : ∀ g p o, V' (19, g, p, 0) o = V (19, g, p, 0) o) (e20 : ∀ g p o, V' (20, g, p, 0) o = V (20, g, p, 0) o) : zK0 P V' :=
  ⟨fun g p o a b c => by rw [e19, e20]; exact h.1 g p o a b c, fun t p o a b c d => by rw [e11] at d; rw [e14]; exact h.2.1 t p o a b c d, h.2.2.mono e1 e2 (by omega) (fun g p o _ _ _ q => by rw [e19] at q; exact q)⟩
theorem zJ_end (h : zJ P V) (hx : 0 ≤ x ∧ x < 4) (hop : 0 ≤ V (212, 0, 0, 0) x) (hr : r = 0 ∨ r = 1) : zJ P (zkA P (zEu P V x r)) := by
  obtain ⟨hW, -, hT⟩ := zEu_V h hx hop hr
  have hP := h.wp
  have n := zEu_n (x := x) (r := r) h
  have hW2 := zkA_V hP hW
  have hf : zfr k189 (zEu P V x r) (zkA P (zEu P V x r)) := zkA_fr rfl rfl rfl
  refine ⟨hW2, ?_, zTr_k hf ⟨rfl, rfl, rfl, rfl, rfl⟩ hT, zHD_k hf ⟨rfl, rfl, rfl, rfl⟩ (zHD_fr (fun t => n _ _ (by simp) (by simp) (by simp) (by simp)) (fun t x => n _ _ (by simp) (by simp) (by simp) (by simp)) (fun t p => n _ _ (by simp) (by simp) (by simp) (by simp)) (fun g r => n _ _ (by simp) (by simp) (by simp) (by simp)) h.hd), (h.k0.eq (n _ _ (by simp) (by simp) (by simp) (by simp)) (n _ _ (by simp) (by simp) (by simp) (by simp)) (fun f => n _ _ (by simp) (by simp) (by simp) (by simp)) (fun t p => n _ _ (by simp) (by simp) (by simp) (by simp)) (fun t p o => n _ _ (by simp) (by simp) (by simp) (by simp)) (fun g p o => n _ _ (by simp) (by simp) (by simp) (by simp)) (fun g p o => n _ _ (by simp) (by simp) (by simp) (by simp))).kA hP⟩
  have h3 := zTr_op h.tr hx hop
  obtain ⟨-, ⟨M, hM⟩, -⟩ := h
  refine ⟨_, xJ_hi (fun k f hk => ?_) hW2.R (o_end hM hx h3 (y := r) (z := 1 + r) (by omega)).1⟩
  exact zkA_lo (fun k f hk => by unfold zEu; rw [zst_k _ _ _ _ (fun q => by rw [q] at hk; revert hk; decide), zst_k _ _ _ _ (fun q => by rw [q] at hk; revert hk; decide)]; rfl) hk
theorem zEu_m (h : zJ P V) (hx : 0 ≤ x ∧ x < 4) (hop : 0 ≤ V (212, 0, 0, 0) x) : ∀ k f, k.1 < 40 → zkA P (lp (zse1 P x r) 0 (P 0 0 0) (zst V (3, 0, 0, 0) x 0, 0)).1 k f = zkA P (zEu P V x r) k f := fun k f hk => (zkA_lo (fun k f hk => by unfold zEu; rw [zst_k _ _ _ _ (fun q => by rw [q] at hk; revert hk; decide), zst_k _ _ _ _ (fun q => by rw [q] at hk; revert hk; decide)]; rfl) hk).symm
theorem zEu_z (h : zJ P V) (k : zK) (f : Int) (hk : k.1 ≠ 18 ∧ k.1 ≠ 19 ∧ k.1 ≠ 20 ∧ k.1 ≠ 14 ∧ k.1 ≠ 3 ∧ k.1 ≠ 211 ∧ k.1 ≠ 212) : zkA P (zEu P V x r) k f = V k f := by
  have hf : zfr k189 (zEu P V x r) (zkA P (zEu P V x r)) := zkA_fr rfl rfl rfl
  rw [hf k f (by simp [k189, hk.1, hk.2.1, hk.2.2.1]), zEu_n h _ _ (fun q => hk.2.2.2.1 q.1) hk.2.2.2.2.2.1 hk.2.2.2.2.2.2 hk.2.2.2.2.1]
/-! a transaction begins -/
def zBg (V : zS) (x : Int) : zS := zst (zst (zst V (3, 0, 0, 0) x 1) (0, 0, 0, 0) 4 (V (0, 0, 0, 0) 4 + 1)) (212, 0, 0, 0) x (V (0, 0, 0, 0) 4)
theorem zBg_n {k : zK} {f : Int} (h : k.1 ≠ 3 ∧ k.1 ≠ 212 ∧ k.1 ≠ 0) : zBg V x k f = V k f := by
  unfold zBg
  rw [zst_k _ _ _ _ (fun q => h.2.1 (by rw [q])), zst_k _ _ _ _ (fun q => h.2.2 (by rw [q])), zst_k _ _ _ _ (fun q => h.1 (by rw [q]))]
theorem zBg_4 : zBg V x (0, 0, 0, 0) 4 = V (0, 0, 0, 0) 4 + 1 := by
  unfold zBg
  rw [zst_k _ _ _ _ (by simp), zst_s]
theorem zBg_0 {f : Int} (h : f ≠ 4) : zBg V x (0, 0, 0, 0) f = V (0, 0, 0, 0) f := by
  unfold zBg
  rw [zst_k _ _ _ _ (by simp), zst_o h, zst_k _ _ _ _ (by simp)]
theorem zBg_m {Δ : zDl} {ad : zK → Nat} (h : V' = zst (zst V (0, 0, 0, 0) 4 (V (0, 0, 0, 0) 4 + 1)) (212, 0, 0, 0) x (V (0, 0, 0, 0) 4)) : pm Δ ad P V' (mm Δ ad P (zst (zst V (3, 0, 0, 0) x 1) (0, 0, 0, 0) 4 (V (0, 0, 0, 0) 4 + 1)) z00) = wld Δ ad P (zBg V x) := by
  have e : pm Δ ad P V' (mm Δ ad P (zst (zst V (3, 0, 0, 0) x 1) (0, 0, 0, 0) 4 (V (0, 0, 0, 0) 4 + 1)) z00) = pm Δ ad P (zBg V x) (mm Δ ad P (zst (zst V (3, 0, 0, 0) x 1) (0, 0, 0, 0) 4 (V (0, 0, 0, 0) 4 + 1)) z00) := pm_gh (fun k f hk => by
    rw [h]
    unfold zBg
    rw [zst_at, zst_at _ (212, 0, 0, 0)]
    split
    · rfl
    · rw [zst_at, zst_at _ (0, 0, 0, 0)]
      split
      · rfl
      · rw [zst_k _ _ _ _ (fun q => hk (Or.inl (by rw [q])))])
  rw [e]
  exact wld_i4 (fun k f hk => by
    unfold zBg
    rw [zst_k (zst (zst V (3, 0, 0, 0) x 1) (0, 0, 0, 0) 4 (V (0, 0, 0, 0) 4 + 1)) _ _ _ (fun q => by rw [q] at hk; revert hk; decide)])
theorem zJ_beg (h : zJ P V) (hx : 0 ≤ x ∧ x < 4) (hop : V (212, 0, 0, 0) x = -1) (h4 : V (0, 0, 0, 0) 4 ≤ 190) : zJ P (zBg V x) := by
  have hv := h.wv
  obtain ⟨a1, a2, a3⟩ := h.tr
  have h04 := hv.f0.1
  have h30 : V (3, 0, 0, 0) x = 0 := (a1 x hx.1 hx.2).1.mpr hop
  have hv3 : zWV P (zst V (3, 0, 0, 0) x 1) := hv.k (zfr_kV rfl) (hv.1.sf ⟨by omega, by omega⟩ (by decide))
  have hW : zWV P (zBg V x) := (hv3.s0 ⟨by omega, by omega⟩ ⟨fun q => by omega, fun q => by omega, fun q => by omega⟩ (fun _ => by omega) (fun q => by omega)).s212 (by omega)
  have n : ∀ k f, (k.1 ≠ 3 ∧ k.1 ≠ 212 ∧ k.1 ≠ 0) → zBg V x k f = V k f := fun k f hk => zBg_n hk
  have n3 : ∀ y, zBg V x (3, 0, 0, 0) y = if y = x then 1 else V (3, 0, 0, 0) y := fun y => by
    unfold zBg
    rw [zst_k _ _ _ _ (by simp), zst_k _ _ _ _ (by simp), zst_at]
    by_cases hy : y = x
    · rw [if_pos ⟨rfl, hy⟩, if_pos hy]
    · rw [if_neg (fun q => hy q.2), if_neg hy]
  have n212 : ∀ y, zBg V x (212, 0, 0, 0) y = if y = x then V (0, 0, 0, 0) 4 else V (212, 0, 0, 0) y := fun y => by
    unfold zBg
    rw [zst_at]
    by_cases hy : y = x
    · rw [if_pos ⟨rfl, hy⟩, if_pos hy]
    · rw [if_neg (fun q => hy q.2), if_neg hy, zst_k _ _ _ _ (by simp), zst_k _ _ _ _ (by simp)]
  have n0 : ∀ f, f ≠ 4 → zBg V x (0, 0, 0, 0) f = V (0, 0, 0, 0) f := fun f hf => by
    unfold zBg
    rw [zst_k _ _ _ _ (by simp), zst_o hf, zst_k _ _ _ _ (by simp)]
  have n4 : zBg V x (0, 0, 0, 0) 4 = V (0, 0, 0, 0) 4 + 1 := zBg_4
  refine ⟨hW, ?_, ⟨fun y y1 y2 => ?_, fun k hk => ?_, fun t p o ht hp ho => ?_⟩, zHD_fr (fun t => n _ _ (by simp)) (fun t x => n _ _ (by simp)) (fun t p => n _ _ (by simp)) (fun g r => n _ _ (by simp)) h.hd, h.k0.eq (n0 _ (by decide)) (n _ _ (by simp)) (fun f => n _ _ (by simp)) (fun t p => n _ _ (by simp)) (fun t p o => n _ _ (by simp)) (fun g p o => n _ _ (by simp)) (fun g p o => n _ _ (by simp))⟩
  · have h61 := h.hd.2.2
    obtain ⟨-, ⟨M, hM⟩, -⟩ := h
    have hV := hM.2.2.2.2.2.1
    have e20 : M (40, 0, 0, 0) 20 = V (0, 0, 0, 0) 4 := hM.1.1.A.2.2.2.2
    have h62 : M (62, 0, 0, 0) x = -1 := ((hM.1.1.D x hx.1 hx.2).1.mp h30)
    have hb := o_begin hM (x := x) (M1 := zst (zst (zst M (61, 0, 0, 0) (M (40, 0, 0, 0) 20) 0) (62, 0, 0, 0) x (M (40, 0, 0, 0) 20)) (40, 0, 0, 0) 20 (M (40, 0, 0, 0) 20 + 1)) hx h62 (((fr.rf.st rfl).st rfl).st rfl) (fun f f0 f1 => by rw [zst_k _ _ _ _ (by simp), zst_k _ _ _ _ (by simp), zst_f _ _ _ (by omega)]) (by rw [zst_k _ _ _ _ (by simp), zst_k _ _ _ _ (by simp), zst_s]) (fun f => by
      rw [zst_k _ _ _ _ (by simp), zst_at]
      by_cases hf : f = x
      · rw [if_pos ⟨rfl, hf⟩, if_pos hf]
      · rw [if_neg (fun q => hf q.2), if_neg hf, zst_k _ _ _ _ (by simp)]) (by rw [zst_s])
    obtain ⟨b1, b2, b3, b4, b5, -⟩ := hb
    have hV1 : zWM P (zst (zst (zst M (61, 0, 0, 0) (M (40, 0, 0, 0) 20) 0) (62, 0, 0, 0) x (M (40, 0, 0, 0) 20)) (40, 0, 0, 0) 20 (M (40, 0, 0, 0) 20 + 1)) := ((hV.s61 ⟨by omega, by omega⟩).s62 ⟨by omega, by omega⟩).s40_20 ⟨by omega, by omega⟩
    refine ⟨_, xJ_hi (fun k f hk => ?_) hW.R ⟨b1, b2, b3, b4, b5, hV1, hM.2.2.2.2.2.2⟩⟩
    unfold zBg
    rw [zst_k _ _ _ _ (fun q => by rw [q] at hk; revert hk; decide)]
  · obtain ⟨b1, b2, b3, b4⟩ := a1 y y1 y2
    rw [n3, n212, n4]
    by_cases hy : y = x
    · rw [if_pos hy, if_pos hy]
      refine ⟨by omega, by omega, fun _ => ?_, fun z z1 z2 q e => ?_⟩
      · rw [n _ _ (by simp)]
        exact a2 _ (by omega)
      · rw [n212] at e
        by_cases hz : z = x
        · omega
        · rw [if_neg hz] at e
          have := (a1 z z1 z2).2.1
          omega
    · rw [if_neg hy, if_neg hy]
      refine ⟨b1, by omega, fun q => ?_, fun z z1 z2 q e => ?_⟩
      · rw [n _ _ (by simp)]
        exact b3 q
      · rw [n212] at e
        by_cases hz : z = x
        · rw [if_pos hz] at e
          omega
        · rw [if_neg hz] at e
          exact b4 z z1 z2 q e
  · rw [n4] at hk
    rw [n _ _ (by simp)]
    exact a2 k (by omega)
  · obtain ⟨d1, d2⟩ := a3 t p o ht hp ho
    rw [n (14, t, p, o) 6 (by simp), n4, n (14, t, p, o) 4 (by simp), n (14, t, p, o) 3 (by simp)]
    refine ⟨by omega, fun y y1 y2 q => ?_⟩
    rw [n212] at q ⊢
    by_cases hy : y = x
    · rw [if_pos hy] at q ⊢
      refine ⟨fun z => by omega, fun z => ?_⟩
      exfalso
      have hs := hv.sn ht hp ho
      have e2 := zPn h ht hp ho z.1
      rw [z.2, hy] at e2
      exact e2.1 hop
    · rw [if_neg hy] at q ⊢
      exact d2 y y1 y2 q
end ZEND
set_option maxHeartbeats 4000000 in
set_option maxRecDepth 100000 in
theorem c_X7_end {l : Launch} {Δ : zDl} {ad : zK → Nat} {Q : zP} {V : zS} {X : zMem} {x : Int} (hJ : zJ Q V) (hX : X = mm Δ ad Q V z00) (hL : Δ.2.2.2.2.1 ≤ 3072) (hD : V (200, 0, 0, 0) 2 ≤ 940000) (h4 : V (0, 0, 0, 0) 4 ≤ 190) (hx : 0 ≤ x ∧ x < 4) (hop : 0 ≤ V (212, 0, 0, 0) x) : zMn l Δ yX7_end cX7_end 16 (some .boolean) 10 0 0 [.ref (ad (200, 0, 0, 0)), .int (zI x)] ad (pm Δ ad Q V X) (zAct Δ ad Q V 10) := by
  refine zMn_of (by decide) (Nat.le_of_ble_eq_true rfl) (fun Γ hl hΔ hF => ?_)
  subst hl hΔ
  show G Γ _ _ _ RX7 _ _ _ _ _ [(0, .ref (ad (200, 0, 0, 0))), (1, .int (zI x))] []
  have hP := hJ.wp
  have hV := hJ.wv
  have hq := hP.n
  have hdw := hV.dw
  have ho4 := hV.op x
  refine G_aload_n (pc := 0) 0 0 dX7_end_0 rfl rfl ?_
  refine G_getf (pc := 1) fl_X7_48 dX7_end_1 pg_200 rfl ?_
  refine G_iload_n (pc := 4) 1 1 dX7_end_4 rfl rfl ?_
  refine G_ialdV (pc := 5) (V (212, 0, 0, 0) x) dX7_end_5 pg_212 ⟨by omega, by omega, by omega, by omega⟩ rfl ?_
  refine G_istore_ne (pc := 6) 2 (fun zw => [(2, .int (zI zw)), (0, .ref (ad (200, 0, 0, 0))), (1, .int (zI x))]) dX7_end_6 rfl (by decide) (fun _ => rfl) (fun v6 e6 => ?_)
  refine G_aload_n (pc := 7) 0 1 dX7_end_7 rfl rfl ?_
  refine G_getf (pc := 8) fl_X7_45 dX7_end_8 pg_200 rfl ?_
  refine G_iload_n (pc := 11) 2 0 dX7_end_11 rfl rfl ?_
  refine G_iconst (pc := 12) dX7_end_12 ?_
  refine G_aload_n (pc := 13) 0 1 dX7_end_13 rfl rfl ?_
  refine G_iconst (pc := 14) dX7_end_14 ?_
  refine G_callV (pc := 15) gk_X7_94 dX7_end_15 pg_200 rfl (c_X7_draw (n := 2) hV (by assumption) ⟨by omega, by omega⟩) rfl rfl (Nat.le_of_ble_eq_true rfl) ⟨⟨Nat.le_of_ble_eq_true rfl, Nat.le_of_ble_eq_true rfl⟩, Nat.le_of_ble_eq_true rfl, Nat.le_of_ble_eq_true rfl⟩ (fun vx adx Mx hpo => ?_)
  obtain ⟨r15, hr15, rfl, hadx, rfl⟩ := hpo
  rw [hadx]
  show G Γ _ _ _ _ _ _ (0) (0) 18 [(2, .int (zI v6)), (0, .ref (ad (200, 0, 0, 0))), (1, .int (zI x))] [.int (zI r15), .int (zI 1), .int (zI v6), .ref (ad (211, 0, 0, 0))]
  refine G_nameV (fun V1_15 hV1_15 => ?_)
  have hVV1_15 : zWV Q V1_15 := by rw [hV1_15]; exact hV.s200_2 ⟨by omega, by omega⟩
  have hdV1_15 : V1_15 (200, 0, 0, 0) 2 = V (200, 0, 0, 0) 2 + 1 := by rw [hV1_15, zst_s]
  have hfV1_15 : ∀ k f, k ≠ (200, 0, 0, 0) → V1_15 k f = V k f := fun k f hk => by rw [hV1_15, zst_k _ _ _ _ hk]
  have hJV1_15 : zJ Q V1_15 := by rw [hV1_15]; exact zJ_dr hJ ⟨by omega, by omega⟩
  have hXV1_15 : X = mm (z_d Γ) ad Q V1_15 z00 := by rw [hV1_15, mm_st (by decide)]; exact hX
  refine G_iadd (pc := 18) dX7_end_18 ?_
  refine G_iast (pc := 19) dX7_end_19 pg_211 ⟨by omega, by omega, by omega, by omega⟩ pp_211 ?_
  refine G_nameV (fun V2_19 hV2_19 => ?_)
  refine G_aload_n (pc := 20) 0 1 dX7_end_20 rfl rfl ?_
  refine G_getf (pc := 21) fl_X7_48 dX7_end_21 pg_200 rfl ?_
  refine G_iload_n (pc := 24) 1 2 dX7_end_24 rfl rfl ?_
  refine G_iconst (pc := 25) dX7_end_25 ?_
  refine G_iast (pc := 26) dX7_end_26 pg_212 ⟨by omega, by omega, by omega, by omega⟩ pp_212 ?_
  refine G_nameV (fun V3_26 hV3_26 => ?_)
  have hJ1 := hJV1_15
  have hr1 : r15 = 0 ∨ r15 = 1 := by omega
  have hop1 : 0 ≤ V1_15 (212, 0, 0, 0) x := by rw [hfV1_15 _ _ (by decide)]; exact hop
  have hv6 : v6 = V1_15 (212, 0, 0, 0) x := by rw [e6, hfV1_15 _ _ (by decide)]
  have hgh : pm (z_d Γ) ad Q V3_26 X = pm (z_d Γ) ad Q (zEu Q V1_15 x r15) X := (pm_gh (fun k f hk => by rw [hV3_26, hV2_19, hv6]; exact zEu_g hJ1 k f hk)).symm
  rw [hgh]
  refine G_nameV (fun U hU => ?_)
  obtain ⟨hVU0, hsU0, hTU0⟩ := zEu_V hJ1 hx hop1 hr1
  have hVU : zWV Q U := by rw [hU]; exact hVU0
  have hsU : zSet Q U := by rw [hU]; exact hsU0
  refine G_iconst (pc := 27) dX7_end_27 ?_
  refine G_istore_ne (pc := 28) 3 (fun zw => [(3, .int (zI zw)), (2, .int (zI v6)), (0, .ref (ad (200, 0, 0, 0))), (1, .int (zI x))]) dX7_end_28 rfl (by decide) (fun _ => rfl) (fun v28 e28 => ?_)
  refine G_aload_n (pc := 29) 0 2 dX7_end_29 rfl rfl ?_
  refine G_getf (pc := 30) fl_X7_25 dX7_end_30 pg_200 rfl ?_
  refine G_astore (pc := 33) [(4, .ref (ad (201, 0, 0, 0))), (3, .int (zI v28)), (2, .int (zI v6)), (0, .ref (ad (200, 0, 0, 0))), (1, .int (zI x))] dX7_end_33 (by decide) rfl ?_
  refine G_aload (pc := 35) 0 dX7_end_35 rfl ?_
  refine G_alenV (pc := 37) (t := 7) (Q 0 0 0) rfl dX7_end_37 pg_201 (by omega) ?_
  refine G_istore_e (pc := 38) (fun zw => [(5, .int (zI zw)), (4, .ref (ad (201, 0, 0, 0))), (3, .int (zI v28)), (2, .int (zI v6)), (0, .ref (ad (200, 0, 0, 0))), (1, .int (zI x))]) dX7_end_38 (by decide) (fun _ => rfl) (fun v38 e38 => ?_)
  refine G_iconst (pc := 40) dX7_end_40 ?_
  refine G_istore_e (pc := 41) (fun zw => [(6, .int (zI zw)), (5, .int (zI v38)), (4, .ref (ad (201, 0, 0, 0))), (3, .int (zI v28)), (2, .int (zI v6)), (0, .ref (ad (200, 0, 0, 0))), (1, .int (zI x))]) dX7_end_41 (by decide) (fun _ => rfl) (fun v41 e41 => ?_)
  have L43 : ∀ (n : Nat) (m : Int) (t : Int), (((0 ≤ t ∧ t ≤ Q 0 0 0) ∧ 0 ≤ m ∧ m ≤ 320 * t) ∧ m + sm (zE1 Q U v6) t (Q 0 0 0) = sm (zE1 Q U v6) 0 (Q 0 0 0)) → (Q 0 0 0 - t).toNat < n → G Γ (zRm 10 0 0) cX7_end 16 RX7 ad (pm (z_d Γ) ad Q U X) 0 0 43 [(0, .ref (ad (200, 0, 0, 0))), (1, .int (zI x)), (2, .int (zI v6)), (3, .int (zI m)), (4, .ref (ad (201, 0, 0, 0))), (5, .int (zI v38)), (6, .int (zI t))] [] := by
    intro n
    induction n with
    | zero => intro m t _ hn; omega
    | succ n ih43 =>
      intro m t hi43 hn43
      refine G_iload (pc := 43) 6 dX7_end_43 rfl ?_
      refine G_iload (pc := 45) 5 dX7_end_45 rfl ?_
      refine G_icmp_ge (pc := 47) 143 dX7_end_47 (by decide) (by first | exact zWV.R (by assumption) _ _ | exact ⟨by omega, by omega⟩ | assumption | (subst_vars; first | exact zWV.R (by assumption) _ _ | exact ⟨by omega, by omega⟩)) (by first | exact zWV.R (by assumption) _ _ | exact ⟨by omega, by omega⟩ | assumption | (subst_vars; first | exact zWV.R (by assumption) _ _ | exact ⟨by omega, by omega⟩)) (fun c47 => ?_) (fun c47 => ?_)
      · have hm : m = (lp (zse1 Q x r15) 0 (Q 0 0 0) (zst V1_15 (3, 0, 0, 0) x 0, 0)).2 := by rw [zEd_2 hJ1, ← zEu_c hJ1 hx hop1, ← hU, ← hv6]; have := hi43.2; rw [sm_end (a := t) (by omega)] at this; omega
        refine G_aload_n (pc := 143) 0 0 dX7_end_143 rfl rfl ?_
        refine G_callVv (pc := 144) gk_X7_126 dX7_end_144 pg_200 rfl (c_X7_settle (by first | assumption | omega | exact ⟨by omega, by omega⟩ | exact ⟨⟨by omega, by omega⟩, by omega⟩ | exact zWV.R (by assumption) _ _) (by first | assumption | omega | exact ⟨by omega, by omega⟩ | exact ⟨⟨by omega, by omega⟩, by omega⟩ | exact zWV.R (by assumption) _ _) hsU) rfl rfl (Nat.le_of_ble_eq_true rfl) ⟨⟨Nat.le_of_ble_eq_true rfl, Nat.le_of_ble_eq_true rfl⟩, Nat.le_of_ble_eq_true rfl, Nat.le_of_ble_eq_true rfl⟩ ?_
        refine G_nameV (fun V4_144 hV4_144 => ?_)
        have hVV4_144 : zWV Q V4_144 := by rw [hV4_144]; exact zkA_V hP hVU
        have hs2 : V4_144 = zkA Q U := hV4_144
        have h211 : V4_144 (211, 0, 0, 0) v6 = 1 + r15 := by rw [hs2, zkA_fr (K := k189) rfl rfl rfl _ _ rfl, hU, hv6, zEu_211 hJ1, if_pos rfl]
        have h3 := zTr_op hJ1.tr hx hop1
        have hfin : V4_144 (200, 0, 0, 0) 2 ≤ V (200, 0, 0, 0) 2 + 10 ∧ V4_144 (0, 0, 0, 0) 4 ≤ V (0, 0, 0, 0) 4 + 1 ∧ V4_144 (0, 0, 0, 0) 6 ≤ V (0, 0, 0, 0) 6 + 14 ∧ V (1, 0, 0, 0) 1 ≤ V4_144 (1, 0, 0, 0) 1 := by
          have z1 := fun (k : zK) (f : Int) (h : k.1 ≠ 18 ∧ k.1 ≠ 19 ∧ k.1 ≠ 20 ∧ k.1 ≠ 14 ∧ k.1 ≠ 3 ∧ k.1 ≠ 211 ∧ k.1 ≠ 212) => zEu_z (P := Q) (V := V1_15) (x := x) (r := r15) hJ1 k f h
          rw [hs2, hU, z1 _ _ (by decide), z1 _ _ (by decide), z1 _ _ (by decide), z1 _ _ (by decide), hfV1_15 (0, 0, 0, 0) _ (by decide), hfV1_15 (0, 0, 0, 0) _ (by decide), hfV1_15 (1, 0, 0, 0) _ (by decide)]
          omega
        refine G_aload_n (pc := 147) 0 0 dX7_end_147 rfl rfl ?_
        refine G_getf (pc := 148) fl_X7_10 dX7_end_148 pg_200 rfl ?_
        refine G_iload_n (pc := 151) 1 1 dX7_end_151 rfl rfl ?_
        refine G_aload_n (pc := 152) 0 0 dX7_end_152 rfl rfl ?_
        refine G_getf (pc := 153) fl_X7_45 dX7_end_153 pg_200 rfl ?_
        refine G_iload_n (pc := 156) 2 2 dX7_end_156 rfl rfl ?_
        refine G_ialdV (pc := 157) (V4_144 (211, 0, 0, 0) v6) dX7_end_157 pg_211 ⟨by omega, by omega, by omega, by omega⟩ rfl ?_
        refine G_iconst (pc := 158) dX7_end_158 ?_
        refine G_icmp_ne (pc := 159) 166 dX7_end_159 (by decide) (by first | exact zWV.R (by assumption) _ _ | exact ⟨by omega, by omega⟩ | assumption | (subst_vars; first | exact zWV.R (by assumption) _ _ | exact ⟨by omega, by omega⟩)) (by first | exact zWV.R (by assumption) _ _ | exact ⟨by omega, by omega⟩ | assumption | (subst_vars; first | exact zWV.R (by assumption) _ _ | exact ⟨by omega, by omega⟩)) (fun c159 => ?_) (fun c159 => ?_)
        · obtain rfl : r15 = 1 := by omega
          refine G_iconst (pc := 166) dX7_end_166 ?_
          rw [show X = mm (z_d Γ) ad Q V1_15 z00 from hXV1_15, pm_mm]
          refine G_callV (pc := 167) gk_X7_143 dX7_end_167 mg_0 rfl (c_X6_end_0 (x := x) (b := 0) hP hJ1.wv.W hx h3 ⟨by omega, by omega⟩ (by decide)) rfl rfl (Nat.le_of_ble_eq_true rfl) ⟨⟨Nat.le_of_ble_eq_true rfl, Nat.le_of_ble_eq_true rfl⟩, Nat.le_of_ble_eq_true rfl, Nat.le_of_ble_eq_true rfl⟩ (fun vx adx Mx hpo => ?_)
          obtain ⟨rfl, hadx, rfl⟩ := hpo
          rw [hadx]
          rw [← hm]
          show G Γ _ _ _ _ _ _ (0) (0) 170 [(0, .ref (ad (200, 0, 0, 0))), (1, .int (zI x)), (2, .int (zI v6)), (3, .int (zI m)), (4, .ref (ad (201, 0, 0, 0))), (5, .int (zI v38)), (6, .int (zI t))] [.int (zI m)]
          rw [← pm_mm]
          refine G_iload_n (pc := 170) 3 3 dX7_end_170 rfl rfl ?_
          refine G_icmp_ne (pc := 171) 178 dX7_end_171 (by decide) (by first | exact zWV.R (by assumption) _ _ | exact ⟨by omega, by omega⟩ | assumption | (subst_vars; first | exact zWV.R (by assumption) _ _ | exact ⟨by omega, by omega⟩)) (by first | exact zWV.R (by assumption) _ _ | exact ⟨by omega, by omega⟩ | assumption | (subst_vars; first | exact zWV.R (by assumption) _ _ | exact ⟨by omega, by omega⟩)) (fun c171 => ?_) (fun c171 => ?_)
          · exfalso
            omega
          · refine G_iconst (pc := 174) dX7_end_174 ?_
            refine G_goto (pc := 175) 179 dX7_end_175 (by decide) ?_
            exact G_zret (pc := 179) hF dX7_end_179 ⟨Nat.le_of_ble_eq_true rfl, Nat.le_of_ble_eq_true rfl⟩ (by first | exact zb_ite | omega) ⟨rfl, Q, V4_144, ⟨rfl, rfl⟩, by rw [hs2, hU]; exact wld_i4 (zEu_m hJ1 hx hop1), by rw [hs2, hU]; exact zJ_end hJ1 hx hop1 hr1, hfin.1, hfin.2.1, hfin.2.2.1, hfin.2.2.2, by omega, by omega⟩
        · obtain rfl : r15 = 0 := by omega
          refine G_iconst (pc := 162) dX7_end_162 ?_
          refine G_goto (pc := 163) 167 dX7_end_163 (by decide) ?_
          rw [show X = mm (z_d Γ) ad Q V1_15 z00 from hXV1_15, pm_mm]
          refine G_callV (pc := 167) gk_X7_143 dX7_end_167 mg_0 rfl (c_X6_end_1 (x := x) (b := 1) hP hJ1.wv.W hx h3 ⟨by omega, by omega⟩ (by decide)) rfl rfl (Nat.le_of_ble_eq_true rfl) ⟨⟨Nat.le_of_ble_eq_true rfl, Nat.le_of_ble_eq_true rfl⟩, Nat.le_of_ble_eq_true rfl, Nat.le_of_ble_eq_true rfl⟩ (fun vx adx Mx hpo => ?_)
          obtain ⟨rfl, hadx, rfl⟩ := hpo
          rw [hadx]
          rw [← hm]
          show G Γ _ _ _ _ _ _ (0) (0) 170 [(0, .ref (ad (200, 0, 0, 0))), (1, .int (zI x)), (2, .int (zI v6)), (3, .int (zI m)), (4, .ref (ad (201, 0, 0, 0))), (5, .int (zI v38)), (6, .int (zI t))] [.int (zI m)]
          rw [← pm_mm]
          refine G_iload_n (pc := 170) 3 3 dX7_end_170 rfl rfl ?_
          refine G_icmp_ne (pc := 171) 178 dX7_end_171 (by decide) (by first | exact zWV.R (by assumption) _ _ | exact ⟨by omega, by omega⟩ | assumption | (subst_vars; first | exact zWV.R (by assumption) _ _ | exact ⟨by omega, by omega⟩)) (by first | exact zWV.R (by assumption) _ _ | exact ⟨by omega, by omega⟩ | assumption | (subst_vars; first | exact zWV.R (by assumption) _ _ | exact ⟨by omega, by omega⟩)) (fun c171 => ?_) (fun c171 => ?_)
          · exfalso
            omega
          · refine G_iconst (pc := 174) dX7_end_174 ?_
            refine G_goto (pc := 175) 179 dX7_end_175 (by decide) ?_
            exact G_zret (pc := 179) hF dX7_end_179 ⟨Nat.le_of_ble_eq_true rfl, Nat.le_of_ble_eq_true rfl⟩ (by first | exact zb_ite | omega) ⟨rfl, Q, V4_144, ⟨rfl, rfl⟩, by rw [hs2, hU]; exact wld_i4 (zEu_m hJ1 hx hop1), by rw [hs2, hU]; exact zJ_end hJ1 hx hop1 hr1, hfin.1, hfin.2.1, hfin.2.2.1, hfin.2.2.2, by omega, by omega⟩
      · have ht : 0 ≤ t ∧ t < Q 0 0 0 := ⟨by omega, by omega⟩
        have hN := hP.t ht
        refine G_aload (pc := 50) 4 dX7_end_50 rfl ?_
        refine G_iload (pc := 52) 6 dX7_end_52 rfl ?_
        refine G_aldA (pc := 54) (t := 7) rfl dX7_end_54 pg_201 ⟨by omega, by omega, by omega, by omega⟩ rfl ?_
        refine G_astore (pc := 55) [(7, .ref (ad (202, t, 0, 0))), (0, .ref (ad (200, 0, 0, 0))), (1, .int (zI x)), (2, .int (zI v6)), (3, .int (zI m)), (4, .ref (ad (201, 0, 0, 0))), (5, .int (zI v38)), (6, .int (zI t))] dX7_end_55 (by decide) rfl ?_
        refine G_aload (pc := 57) 0 dX7_end_57 rfl ?_
        refine G_astore (pc := 59) [(8, .ref (ad (202, t, 0, 0))), (7, .ref (ad (202, t, 0, 0))), (0, .ref (ad (200, 0, 0, 0))), (1, .int (zI x)), (2, .int (zI v6)), (3, .int (zI m)), (4, .ref (ad (201, 0, 0, 0))), (5, .int (zI v38)), (6, .int (zI t))] dX7_end_59 (by decide) rfl ?_
        refine G_aload (pc := 61) 0 dX7_end_61 rfl ?_
        refine G_alenV (pc := 63) (t := 6) (Q 1 t 0) rfl dX7_end_63 (pg_202 (by first | assumption | omega | exact ⟨by omega, by omega⟩ | exact ⟨⟨by omega, by omega⟩, by omega⟩ | exact zWV.R (by assumption) _ _)) (by omega) ?_
        refine G_istore_e (pc := 64) (fun zw => [(9, .int (zI zw)), (8, .ref (ad (202, t, 0, 0))), (7, .ref (ad (202, t, 0, 0))), (0, .ref (ad (200, 0, 0, 0))), (1, .int (zI x)), (2, .int (zI v6)), (3, .int (zI m)), (4, .ref (ad (201, 0, 0, 0))), (5, .int (zI v38)), (6, .int (zI t))]) dX7_end_64 (by decide) (fun _ => rfl) (fun v64 e64 => ?_)
        refine G_iconst (pc := 66) dX7_end_66 ?_
        refine G_istore_e (pc := 67) (fun zw => [(10, .int (zI zw)), (9, .int (zI v64)), (8, .ref (ad (202, t, 0, 0))), (7, .ref (ad (202, t, 0, 0))), (0, .ref (ad (200, 0, 0, 0))), (1, .int (zI x)), (2, .int (zI v6)), (3, .int (zI m)), (4, .ref (ad (201, 0, 0, 0))), (5, .int (zI v38)), (6, .int (zI t))]) dX7_end_67 (by decide) (fun _ => rfl) (fun v67 e67 => ?_)
        have L69 : ∀ (n : Nat) (m2 : Int) (p : Int), (((0 ≤ p ∧ p ≤ Q 1 t 0) ∧ 0 ≤ m2 ∧ m2 ≤ 320 * t + 80 * p) ∧ m2 + sm (zE2 Q U v6 t) p (Q 1 t 0) = m + sm (zE2 Q U v6 t) 0 (Q 1 t 0)) → (Q 1 t 0 - p).toNat < n → G Γ (zRm 10 0 0) cX7_end 16 RX7 ad (pm (z_d Γ) ad Q U X) 0 0 69 [(0, .ref (ad (200, 0, 0, 0))), (1, .int (zI x)), (2, .int (zI v6)), (3, .int (zI m2)), (4, .ref (ad (201, 0, 0, 0))), (5, .int (zI v38)), (6, .int (zI t)), (7, .ref (ad (202, t, 0, 0))), (8, .ref (ad (202, t, 0, 0))), (9, .int (zI v64)), (10, .int (zI p))] [] := by
          intro n
          induction n with
          | zero => intro m2 p _ hn; omega
          | succ n ih69 =>
            intro m2 p hi69 hn69
            refine G_iload (pc := 69) 10 dX7_end_69 rfl ?_
            refine G_iload (pc := 71) 9 dX7_end_71 rfl ?_
            refine G_icmp_ge (pc := 73) 137 dX7_end_73 (by decide) (by first | exact zWV.R (by assumption) _ _ | exact ⟨by omega, by omega⟩ | assumption | (subst_vars; first | exact zWV.R (by assumption) _ _ | exact ⟨by omega, by omega⟩)) (by first | exact zWV.R (by assumption) _ _ | exact ⟨by omega, by omega⟩ | assumption | (subst_vars; first | exact zWV.R (by assumption) _ _ | exact ⟨by omega, by omega⟩)) (fun c73 => ?_) (fun c73 => ?_)
            · refine G_iinc_e (pc := 137) 6 (fun zw => [(6, .int (zI zw)), (0, .ref (ad (200, 0, 0, 0))), (1, .int (zI x)), (2, .int (zI v6)), (3, .int (zI m2)), (4, .ref (ad (201, 0, 0, 0))), (5, .int (zI v38)), (7, .ref (ad (202, t, 0, 0))), (8, .ref (ad (202, t, 0, 0))), (9, .int (zI v64)), (10, .int (zI p))]) dX7_end_137 rfl (by decide) (fun _ => rfl) (fun v137 e137 => ?_)
              refine G_goto (pc := 140) 43 dX7_end_140 (by decide) ?_
              refine G_perm (lv' := [(0, .ref (ad (200, 0, 0, 0))), (1, .int (zI x)), (2, .int (zI v6)), (3, .int (zI m2)), (4, .ref (ad (201, 0, 0, 0))), (5, .int (zI v38)), (6, .int (zI v137))]) [1, 2, 3, 4, 5, 6, 0] rfl ?_
              exact ih43 m2 v137  ⟨by omega, by rw [e137, ← hi43.2, sm_step (a := t) (n := Q 0 0 0) (by omega)]; have h9 := hi69.2; rw [sm_end (a := p) (by omega)] at h9; have h8 : zE1 Q U v6 t = sm (zE2 Q U v6 t) 0 (Q 1 t 0) := rfl; omega⟩ (by omega)
            · have hp : 0 ≤ p ∧ p < Q 1 t 0 := ⟨by omega, by omega⟩
              have hM := hP.m ht hp
              refine G_aload (pc := 76) 8 dX7_end_76 rfl ?_
              refine G_iload (pc := 78) 10 dX7_end_78 rfl ?_
              refine G_aldA (pc := 80) (t := 6) rfl dX7_end_80 (pg_202 (by first | assumption | omega | exact ⟨by omega, by omega⟩ | exact ⟨⟨by omega, by omega⟩, by omega⟩ | exact zWV.R (by assumption) _ _)) ⟨by omega, by omega, by omega, by omega⟩ rfl ?_
              refine G_astore (pc := 81) [(11, .ref (ad (203, t, p, 0))), (0, .ref (ad (200, 0, 0, 0))), (1, .int (zI x)), (2, .int (zI v6)), (3, .int (zI m2)), (4, .ref (ad (201, 0, 0, 0))), (5, .int (zI v38)), (6, .int (zI t)), (7, .ref (ad (202, t, 0, 0))), (8, .ref (ad (202, t, 0, 0))), (9, .int (zI v64)), (10, .int (zI p))] dX7_end_81 (by decide) rfl ?_
              refine G_aload (pc := 83) 0 dX7_end_83 rfl ?_
              refine G_astore (pc := 85) [(12, .ref (ad (203, t, p, 0))), (11, .ref (ad (203, t, p, 0))), (0, .ref (ad (200, 0, 0, 0))), (1, .int (zI x)), (2, .int (zI v6)), (3, .int (zI m2)), (4, .ref (ad (201, 0, 0, 0))), (5, .int (zI v38)), (6, .int (zI t)), (7, .ref (ad (202, t, 0, 0))), (8, .ref (ad (202, t, 0, 0))), (9, .int (zI v64)), (10, .int (zI p))] dX7_end_85 (by decide) rfl ?_
              refine G_aload (pc := 87) 0 dX7_end_87 rfl ?_
              refine G_alenV (pc := 89) (t := 5) (Q 2 t p) rfl dX7_end_89 (pg_203 (by first | assumption | omega | exact ⟨by omega, by omega⟩ | exact ⟨⟨by omega, by omega⟩, by omega⟩ | exact zWV.R (by assumption) _ _)) (by omega) ?_
              refine G_istore_e (pc := 90) (fun zw => [(13, .int (zI zw)), (12, .ref (ad (203, t, p, 0))), (11, .ref (ad (203, t, p, 0))), (0, .ref (ad (200, 0, 0, 0))), (1, .int (zI x)), (2, .int (zI v6)), (3, .int (zI m2)), (4, .ref (ad (201, 0, 0, 0))), (5, .int (zI v38)), (6, .int (zI t)), (7, .ref (ad (202, t, 0, 0))), (8, .ref (ad (202, t, 0, 0))), (9, .int (zI v64)), (10, .int (zI p))]) dX7_end_90 (by decide) (fun _ => rfl) (fun v90 e90 => ?_)
              refine G_iconst (pc := 92) dX7_end_92 ?_
              refine G_istore_e (pc := 93) (fun zw => [(14, .int (zI zw)), (13, .int (zI v90)), (12, .ref (ad (203, t, p, 0))), (11, .ref (ad (203, t, p, 0))), (0, .ref (ad (200, 0, 0, 0))), (1, .int (zI x)), (2, .int (zI v6)), (3, .int (zI m2)), (4, .ref (ad (201, 0, 0, 0))), (5, .int (zI v38)), (6, .int (zI t)), (7, .ref (ad (202, t, 0, 0))), (8, .ref (ad (202, t, 0, 0))), (9, .int (zI v64)), (10, .int (zI p))]) dX7_end_93 (by decide) (fun _ => rfl) (fun v93 e93 => ?_)
              have L95 : ∀ (n : Nat) (m3 : Int) (o : Int), (((0 ≤ o ∧ o ≤ Q 2 t p) ∧ 0 ≤ m3 ∧ m3 ≤ 320 * t + 80 * p + o) ∧ m3 + sm (zEc Q U v6 t p) o (Q 2 t p) = m2 + sm (zEc Q U v6 t p) 0 (Q 2 t p)) → (Q 2 t p - o).toNat < n → G Γ (zRm 10 0 0) cX7_end 16 RX7 ad (pm (z_d Γ) ad Q U X) 0 0 95 [(0, .ref (ad (200, 0, 0, 0))), (1, .int (zI x)), (2, .int (zI v6)), (3, .int (zI m3)), (4, .ref (ad (201, 0, 0, 0))), (5, .int (zI v38)), (6, .int (zI t)), (7, .ref (ad (202, t, 0, 0))), (8, .ref (ad (202, t, 0, 0))), (9, .int (zI v64)), (10, .int (zI p)), (11, .ref (ad (203, t, p, 0))), (12, .ref (ad (203, t, p, 0))), (13, .int (zI v90)), (14, .int (zI o))] [] := by
                intro n
                induction n with
                | zero => intro m3 o _ hn; omega
                | succ n ih95 =>
                  intro m3 o hi95 hn95
                  refine G_iload (pc := 95) 14 dX7_end_95 rfl ?_
                  refine G_iload (pc := 97) 13 dX7_end_97 rfl ?_
                  refine G_icmp_ge (pc := 99) 131 dX7_end_99 (by decide) (by first | exact zWV.R (by assumption) _ _ | exact ⟨by omega, by omega⟩ | assumption | (subst_vars; first | exact zWV.R (by assumption) _ _ | exact ⟨by omega, by omega⟩)) (by first | exact zWV.R (by assumption) _ _ | exact ⟨by omega, by omega⟩ | assumption | (subst_vars; first | exact zWV.R (by assumption) _ _ | exact ⟨by omega, by omega⟩)) (fun c99 => ?_) (fun c99 => ?_)
                  · refine G_iinc_e (pc := 131) 10 (fun zw => [(10, .int (zI zw)), (0, .ref (ad (200, 0, 0, 0))), (1, .int (zI x)), (2, .int (zI v6)), (3, .int (zI m3)), (4, .ref (ad (201, 0, 0, 0))), (5, .int (zI v38)), (6, .int (zI t)), (7, .ref (ad (202, t, 0, 0))), (8, .ref (ad (202, t, 0, 0))), (9, .int (zI v64)), (11, .ref (ad (203, t, p, 0))), (12, .ref (ad (203, t, p, 0))), (13, .int (zI v90)), (14, .int (zI o))]) dX7_end_131 rfl (by decide) (fun _ => rfl) (fun v131 e131 => ?_)
                    refine G_goto (pc := 134) 69 dX7_end_134 (by decide) ?_
                    refine G_perm (lv' := [(0, .ref (ad (200, 0, 0, 0))), (1, .int (zI x)), (2, .int (zI v6)), (3, .int (zI m3)), (4, .ref (ad (201, 0, 0, 0))), (5, .int (zI v38)), (6, .int (zI t)), (7, .ref (ad (202, t, 0, 0))), (8, .ref (ad (202, t, 0, 0))), (9, .int (zI v64)), (10, .int (zI v131))]) [1, 2, 3, 4, 5, 6, 7, 8, 9, 10, 0] rfl ?_
                    exact ih69 m3 v131  ⟨by omega, by rw [e131, ← hi69.2, sm_step (a := p) (n := Q 1 t 0) (by omega)]; have h9 := hi95.2; rw [sm_end (a := o) (by omega)] at h9; have h8 : zE2 Q U v6 t p = sm (zEc Q U v6 t p) 0 (Q 2 t p) := rfl; omega⟩ (by omega)
                  · refine G_aload (pc := 102) 12 dX7_end_102 rfl ?_
                    refine G_iload (pc := 104) 14 dX7_end_104 rfl ?_
                    refine G_aldA (pc := 106) (t := 5) rfl dX7_end_106 (pg_203 (by first | assumption | omega | exact ⟨by omega, by omega⟩ | exact ⟨⟨by omega, by omega⟩, by omega⟩ | exact zWV.R (by assumption) _ _)) ⟨by omega, by omega, by omega, by omega⟩ rfl ?_
                    refine G_astore (pc := 107) [(15, .ref (ad (204, t, p, o))), (0, .ref (ad (200, 0, 0, 0))), (1, .int (zI x)), (2, .int (zI v6)), (3, .int (zI m3)), (4, .ref (ad (201, 0, 0, 0))), (5, .int (zI v38)), (6, .int (zI t)), (7, .ref (ad (202, t, 0, 0))), (8, .ref (ad (202, t, 0, 0))), (9, .int (zI v64)), (10, .int (zI p)), (11, .ref (ad (203, t, p, 0))), (12, .ref (ad (203, t, p, 0))), (13, .int (zI v90)), (14, .int (zI o))] dX7_end_107 (by decide) rfl ?_
                    have h1v : zR (U (14, t, p, o) 6) := hVU.R _ _
                    refine G_iload_n (pc := 109) 3 4 dX7_end_109 rfl rfl ?_
                    refine G_aload (pc := 110) 0 dX7_end_110 rfl ?_
                    refine G_iconst (pc := 112) dX7_end_112 ?_
                    refine G_ialdV (pc := 113) (U (14, t, p, o) 6) dX7_end_113 (pg_204 (by first | assumption | omega | exact ⟨by omega, by omega⟩ | exact ⟨⟨by omega, by omega⟩, by omega⟩ | exact zWV.R (by assumption) _ _)) ⟨by omega, by omega, by omega, by omega⟩ zpr_3 ?_
                    refine G_iload_n (pc := 114) 2 3 dX7_end_114 rfl rfl ?_
                    refine G_icmp_ne (pc := 115) 122 dX7_end_115 (by decide) (by first | exact zWV.R (by assumption) _ _ | exact ⟨by omega, by omega⟩ | assumption | (subst_vars; first | exact zWV.R (by assumption) _ _ | exact ⟨by omega, by omega⟩)) (by first | exact zWV.R (by assumption) _ _ | exact ⟨by omega, by omega⟩ | assumption | (subst_vars; first | exact zWV.R (by assumption) _ _ | exact ⟨by omega, by omega⟩)) (fun c115 => ?_) (fun c115 => ?_)
                    · refine G_iconst (pc := 122) dX7_end_122 ?_
                      refine G_iadd (pc := 123) dX7_end_123 ?_
                      refine G_istore_ne (pc := 124) 3 (fun zw => [(3, .int (zI zw)), (15, .ref (ad (204, t, p, o))), (0, .ref (ad (200, 0, 0, 0))), (1, .int (zI x)), (2, .int (zI v6)), (4, .ref (ad (201, 0, 0, 0))), (5, .int (zI v38)), (6, .int (zI t)), (7, .ref (ad (202, t, 0, 0))), (8, .ref (ad (202, t, 0, 0))), (9, .int (zI v64)), (10, .int (zI p)), (11, .ref (ad (203, t, p, 0))), (12, .ref (ad (203, t, p, 0))), (13, .int (zI v90)), (14, .int (zI o))]) dX7_end_124 rfl (by decide) (fun _ => rfl) (fun v124 e124 => ?_)
                      refine G_iinc_e (pc := 125) 15 (fun zw => [(14, .int (zI zw)), (3, .int (zI v124)), (15, .ref (ad (204, t, p, o))), (0, .ref (ad (200, 0, 0, 0))), (1, .int (zI x)), (2, .int (zI v6)), (4, .ref (ad (201, 0, 0, 0))), (5, .int (zI v38)), (6, .int (zI t)), (7, .ref (ad (202, t, 0, 0))), (8, .ref (ad (202, t, 0, 0))), (9, .int (zI v64)), (10, .int (zI p)), (11, .ref (ad (203, t, p, 0))), (12, .ref (ad (203, t, p, 0))), (13, .int (zI v90))]) dX7_end_125 rfl (by decide) (fun _ => rfl) (fun v125 e125 => ?_)
                      refine G_goto (pc := 128) 95 dX7_end_128 (by decide) ?_
                      refine G_perm (lv' := [(0, .ref (ad (200, 0, 0, 0))), (1, .int (zI x)), (2, .int (zI v6)), (3, .int (zI v124)), (4, .ref (ad (201, 0, 0, 0))), (5, .int (zI v38)), (6, .int (zI t)), (7, .ref (ad (202, t, 0, 0))), (8, .ref (ad (202, t, 0, 0))), (9, .int (zI v64)), (10, .int (zI p)), (11, .ref (ad (203, t, p, 0))), (12, .ref (ad (203, t, p, 0))), (13, .int (zI v90)), (14, .int (zI v125))]) [3, 4, 5, 1, 6, 7, 8, 9, 10, 11, 12, 13, 14, 15, 0] rfl ?_
                      exact ih95 v124 v125  ⟨by omega, by rw [e125, ← hi95.2, sm_step (a := o) (n := Q 2 t p) (by omega)]; have h8 : zEc Q U v6 t p o = if U (14, t, p, o) 6 = v6 then 1 else 0 := rfl; rw [h8]; split <;> omega⟩ (by omega)
                    · refine G_iconst (pc := 118) dX7_end_118 ?_
                      refine G_goto (pc := 119) 123 dX7_end_119 (by decide) ?_
                      refine G_iadd (pc := 123) dX7_end_123 ?_
                      refine G_istore_ne (pc := 124) 3 (fun zw => [(3, .int (zI zw)), (15, .ref (ad (204, t, p, o))), (0, .ref (ad (200, 0, 0, 0))), (1, .int (zI x)), (2, .int (zI v6)), (4, .ref (ad (201, 0, 0, 0))), (5, .int (zI v38)), (6, .int (zI t)), (7, .ref (ad (202, t, 0, 0))), (8, .ref (ad (202, t, 0, 0))), (9, .int (zI v64)), (10, .int (zI p)), (11, .ref (ad (203, t, p, 0))), (12, .ref (ad (203, t, p, 0))), (13, .int (zI v90)), (14, .int (zI o))]) dX7_end_124 rfl (by decide) (fun _ => rfl) (fun v124 e124 => ?_)
                      refine G_iinc_e (pc := 125) 15 (fun zw => [(14, .int (zI zw)), (3, .int (zI v124)), (15, .ref (ad (204, t, p, o))), (0, .ref (ad (200, 0, 0, 0))), (1, .int (zI x)), (2, .int (zI v6)), (4, .ref (ad (201, 0, 0, 0))), (5, .int (zI v38)), (6, .int (zI t)), (7, .ref (ad (202, t, 0, 0))), (8, .ref (ad (202, t, 0, 0))), (9, .int (zI v64)), (10, .int (zI p)), (11, .ref (ad (203, t, p, 0))), (12, .ref (ad (203, t, p, 0))), (13, .int (zI v90))]) dX7_end_125 rfl (by decide) (fun _ => rfl) (fun v125 e125 => ?_)
                      refine G_goto (pc := 128) 95 dX7_end_128 (by decide) ?_
                      refine G_perm (lv' := [(0, .ref (ad (200, 0, 0, 0))), (1, .int (zI x)), (2, .int (zI v6)), (3, .int (zI v124)), (4, .ref (ad (201, 0, 0, 0))), (5, .int (zI v38)), (6, .int (zI t)), (7, .ref (ad (202, t, 0, 0))), (8, .ref (ad (202, t, 0, 0))), (9, .int (zI v64)), (10, .int (zI p)), (11, .ref (ad (203, t, p, 0))), (12, .ref (ad (203, t, p, 0))), (13, .int (zI v90)), (14, .int (zI v125))]) [3, 4, 5, 1, 6, 7, 8, 9, 10, 11, 12, 13, 14, 15, 0] rfl ?_
                      exact ih95 v124 v125  ⟨by omega, by rw [e125, ← hi95.2, sm_step (a := o) (n := Q 2 t p) (by omega)]; have h8 : zEc Q U v6 t p o = if U (14, t, p, o) 6 = v6 then 1 else 0 := rfl; rw [h8]; split <;> omega⟩ (by omega)
              refine G_perm (lv' := [(0, .ref (ad (200, 0, 0, 0))), (1, .int (zI x)), (2, .int (zI v6)), (3, .int (zI m2)), (4, .ref (ad (201, 0, 0, 0))), (5, .int (zI v38)), (6, .int (zI t)), (7, .ref (ad (202, t, 0, 0))), (8, .ref (ad (202, t, 0, 0))), (9, .int (zI v64)), (10, .int (zI p)), (11, .ref (ad (203, t, p, 0))), (12, .ref (ad (203, t, p, 0))), (13, .int (zI v90)), (14, .int (zI v93))]) [4, 5, 6, 7, 8, 9, 10, 11, 12, 13, 14, 3, 2, 1, 0] rfl ?_
              exact L95 _ m2 v93  ⟨by omega, by rw [e93]⟩ (Nat.lt_succ_self _)
        refine G_perm (lv' := [(0, .ref (ad (200, 0, 0, 0))), (1, .int (zI x)), (2, .int (zI v6)), (3, .int (zI m)), (4, .ref (ad (201, 0, 0, 0))), (5, .int (zI v38)), (6, .int (zI t)), (7, .ref (ad (202, t, 0, 0))), (8, .ref (ad (202, t, 0, 0))), (9, .int (zI v64)), (10, .int (zI v67))]) [4, 5, 6, 7, 8, 9, 10, 3, 2, 1, 0] rfl ?_
        exact L69 _ m v67  ⟨by omega, by rw [e67]⟩ (Nat.lt_succ_self _)
  refine G_perm (lv' := [(0, .ref (ad (200, 0, 0, 0))), (1, .int (zI x)), (2, .int (zI v6)), (3, .int (zI v28)), (4, .ref (ad (201, 0, 0, 0))), (5, .int (zI v38)), (6, .int (zI v41))]) [5, 6, 4, 3, 2, 1, 0] rfl ?_
  exact L43 _ v28 v41  ⟨by omega, by rw [e28, e41]; omega⟩ (Nat.lt_succ_self _)
set_option maxHeartbeats 4000000 in
set_option maxRecDepth 100000 in
theorem c_X7_begin {l : Launch} {Δ : zDl} {ad : zK → Nat} {Q : zP} {V : zS} {X : zMem}  (hJ : zJ Q V) (hX : X = mm Δ ad Q V z00) (hL : Δ.2.2.2.2.1 ≤ 3072) (hD : V (200, 0, 0, 0) 2 ≤ 930000) (h4 : V (0, 0, 0, 0) 4 ≤ 190) : zMn l Δ yX7_begin cX7_begin 2 (some .boolean) 11 0 0 [.ref (ad (200, 0, 0, 0))] ad (pm Δ ad Q V X) (zAct Δ ad Q V 20) := by
  refine zMn_of (by decide) (Nat.le_of_ble_eq_true rfl) (fun Γ hl hΔ hF => ?_)
  subst hl hΔ
  show G Γ _ _ _ RX7 _ _ _ _ _ [(0, .ref (ad (200, 0, 0, 0)))] []
  have hP := hJ.wp
  have hV := hJ.wv
  have hq := hP.n
  have hdw := hV.dw
  refine G_aload_n (pc := 0) 0 0 dX7_begin_0 rfl rfl ?_
  refine G_iconst (pc := 1) dX7_begin_1 ?_
  refine G_callV (pc := 2) gk_X7_94 dX7_begin_2 pg_200 rfl (c_X7_draw (n := 4) hV (by assumption) ⟨by omega, by omega⟩) rfl rfl (Nat.le_of_ble_eq_true rfl) ⟨⟨Nat.le_of_ble_eq_true rfl, Nat.le_of_ble_eq_true rfl⟩, Nat.le_of_ble_eq_true rfl, Nat.le_of_ble_eq_true rfl⟩ (fun vx adx Mx hpo => ?_)
  obtain ⟨r2, hr2, rfl, hadx, rfl⟩ := hpo
  rw [hadx]
  show G Γ _ _ _ _ _ _ (0) (0) 5 [(0, .ref (ad (200, 0, 0, 0)))] [.int (zI r2)]
  refine G_nameV (fun V1_2 hV1_2 => ?_)
  have hVV1_2 : zWV Q V1_2 := by rw [hV1_2]; exact hV.s200_2 ⟨by omega, by omega⟩
  have hdV1_2 : V1_2 (200, 0, 0, 0) 2 = V (200, 0, 0, 0) 2 + 1 := by rw [hV1_2, zst_s]
  have hfV1_2 : ∀ k f, k ≠ (200, 0, 0, 0) → V1_2 k f = V k f := fun k f hk => by rw [hV1_2, zst_k _ _ _ _ hk]
  have hJV1_2 : zJ Q V1_2 := by rw [hV1_2]; exact zJ_dr hJ ⟨by omega, by omega⟩
  have hXV1_2 : X = mm (z_d Γ) ad Q V1_2 z00 := by rw [hV1_2, mm_st (by decide)]; exact hX
  refine G_istore_ne (pc := 5) 1 (fun zw => [(1, .int (zI zw)), (0, .ref (ad (200, 0, 0, 0)))]) dX7_begin_5 rfl (by decide) (fun _ => rfl) (fun v5 e5 => ?_)
  refine G_aload_n (pc := 6) 0 1 dX7_begin_6 rfl rfl ?_
  refine G_getf (pc := 7) fl_X7_48 dX7_begin_7 pg_200 rfl ?_
  refine G_iload_n (pc := 10) 1 0 dX7_begin_10 rfl rfl ?_
  refine G_ialdV (pc := 11) (V1_2 (212, 0, 0, 0) v5) dX7_begin_11 pg_212 ⟨by omega, by omega, by omega, by omega⟩ rfl ?_
  refine G_if_lt (pc := 12) 21 dX7_begin_12 (by decide) (by first | exact zWV.R (by assumption) _ _ | exact ⟨by omega, by omega⟩ | assumption | (subst_vars; first | exact zWV.R (by assumption) _ _ | exact ⟨by omega, by omega⟩)) (fun c12 => ?_) (fun c12 => ?_)
  · have e04 := hfV1_2 (0, 0, 0, 0) 4 (by decide)
    have h04 := hJV1_2.wv.f0
    have ho5 := hJV1_2.wv.op v5
    have hm1 : V1_2 (212, 0, 0, 0) v5 = -1 := by omega
    have h30 : V1_2 (3, 0, 0, 0) v5 = 0 := (hJV1_2.tr.1 v5 (by omega) (by omega)).1.mpr hm1
    refine G_aload_n (pc := 21) 0 1 dX7_begin_21 rfl rfl ?_
    refine G_getf (pc := 22) fl_X7_48 dX7_begin_22 pg_200 rfl ?_
    refine G_iload_n (pc := 25) 1 0 dX7_begin_25 rfl rfl ?_
    refine G_aload_n (pc := 26) 0 1 dX7_begin_26 rfl rfl ?_
    refine G_dup (pc := 27) dX7_begin_27 rfl ?_
    refine G_getf (pc := 28) fl_X7_137 dX7_begin_28 pg_200 rfl ?_
    refine G_dup_x1 (pc := 31) dX7_begin_31 rfl rfl ?_
    refine G_iconst (pc := 32) dX7_begin_32 ?_
    refine G_iadd (pc := 33) dX7_begin_33 ?_
    refine G_putf (pc := 34) fl_X7_137 fp_X7_12 dX7_begin_34 pg_200 (Nat.le_of_ble_eq_true rfl) rfl rfl pp_200_12 ?_
    refine G_nameV (fun V2_34 hV2_34 => ?_)
    have hVV2_34 : zWV Q V2_34 := by rw [hV2_34]; exact hVV1_2.s0 ⟨by omega, by omega⟩ ⟨by omega, by omega, by omega⟩ (by omega) (by omega)
    refine G_iast (pc := 37) dX7_begin_37 pg_212 ⟨by omega, by omega, by omega, by omega⟩ pp_212 ?_
    refine G_nameV (fun V3_37 hV3_37 => ?_)
    have hVV3_37 : zWV Q V3_37 := by rw [hV3_37]; exact hVV2_34.s212 (by omega)
    have e34 : V3_37 (0, 0, 0, 0) 4 = V1_2 (0, 0, 0, 0) 4 + 1 := by rw [hV3_37, zst_k _ _ _ _ (by decide), hV2_34, zst_s]
    refine G_aload_n (pc := 38) 0 1 dX7_begin_38 rfl rfl ?_
    refine G_getf (pc := 39) fl_X7_10 dX7_begin_39 pg_200 rfl ?_
    refine G_iload_n (pc := 42) 1 0 dX7_begin_42 rfl rfl ?_
    rw [hXV1_2, pm_mm]
    refine G_callV (pc := 43) gk_X7_140 dX7_begin_43 mg_0 rfl (c_X6_begin (x := v5) hP hJV1_2.wv.W (by omega) h30) rfl rfl (Nat.le_of_ble_eq_true rfl) ⟨⟨Nat.le_of_ble_eq_true rfl, Nat.le_of_ble_eq_true rfl⟩, Nat.le_of_ble_eq_true rfl, Nat.le_of_ble_eq_true rfl⟩ (fun vx adx Mx hpo => ?_)
    obtain ⟨rfl, hadx, rfl⟩ := hpo
    rw [hadx]
    show G Γ _ _ _ _ _ _ (0) (0) 46 [(1, .int (zI v5)), (0, .ref (ad (200, 0, 0, 0)))] [.int (zI (V1_2 (0, 0, 0, 0) 4 + 1))]
    rw [← pm_mm]
    refine G_aload_n (pc := 46) 0 1 dX7_begin_46 rfl rfl ?_
    refine G_getf (pc := 47) fl_X7_137 dX7_begin_47 pg_200 rfl ?_
    refine G_icmp_ne (pc := 50) 57 dX7_begin_50 (by decide) (by first | exact zWV.R (by assumption) _ _ | exact ⟨by omega, by omega⟩ | assumption | (subst_vars; first | exact zWV.R (by assumption) _ _ | exact ⟨by omega, by omega⟩)) (by first | exact zWV.R (by assumption) _ _ | exact ⟨by omega, by omega⟩ | assumption | (subst_vars; first | exact zWV.R (by assumption) _ _ | exact ⟨by omega, by omega⟩)) (fun c50 => ?_) (fun c50 => ?_)
    · exfalso
      omega
    · refine G_iconst (pc := 53) dX7_begin_53 ?_
      refine G_goto (pc := 54) 58 dX7_begin_54 (by decide) ?_
      exact G_zret (pc := 58) hF dX7_begin_58 ⟨Nat.le_of_ble_eq_true rfl, Nat.le_of_ble_eq_true rfl⟩ (by first | exact zb_ite | omega) ⟨rfl, Q, zBg V1_2 v5, ⟨rfl, rfl⟩, zBg_m (hV3_37.trans (by rw [hV2_34])), zJ_beg hJV1_2 (by omega) (by omega) (by omega), by rw [zBg_n (by decide)]; omega, by rw [zBg_4, hfV1_2 (0, 0, 0, 0) 4 (by decide)]; omega, by rw [zBg_0 (by decide), hfV1_2 (0, 0, 0, 0) 6 (by decide)]; omega, by rw [zBg_n (by decide), hfV1_2 (1, 0, 0, 0) 1 (by decide)]; omega, by omega, by omega⟩
  · refine G_aload_n (pc := 15) 0 1 dX7_begin_15 rfl rfl ?_
    refine G_iload_n (pc := 16) 1 0 dX7_begin_16 rfl rfl ?_
    refine G_callV (pc := 17) gk_X7_133 dX7_begin_17 pg_200 rfl (c_X7_end (x := v5) hJV1_2 hXV1_2 (by assumption) (by omega) (by rw [hfV1_2 _ _ (by decide)]; omega) (by omega) (by omega)) rfl rfl (Nat.le_of_ble_eq_true rfl) ⟨⟨Nat.le_of_ble_eq_true rfl, Nat.le_of_ble_eq_true rfl⟩, Nat.le_of_ble_eq_true rfl, Nat.le_of_ble_eq_true rfl⟩ (fun vx adx Mx hpo => ?_)
    obtain ⟨rfl, P', V', hA, rfl, hJ', hd', h4', h6', h1', hQ'⟩ := hpo
    have e4 := hfV1_2 (0, 0, 0, 0) 4 (by decide)
    have e6 := hfV1_2 (0, 0, 0, 0) 6 (by decide)
    have e1 := hfV1_2 (1, 0, 0, 0) 1 (by decide)
    exact G_zret (pc := 20) hF dX7_begin_20 ⟨Nat.le_of_ble_eq_true rfl, Nat.le_of_ble_eq_true rfl⟩ (by omega) ⟨rfl, P', V', hA, rfl, hJ', by omega, by omega, by omega, by omega, hQ'⟩
