/-! ===== the Pier's acts: setClock ===== -/
def zv5 (P : zP) (x t : Int) (p : Int) (S : zS) : zS := if S (8, t, 0, 0) 3 = 0 then S else ztd P t x (S (8, t, 0, 0) 3) p S
def aC (P : zP) (k : zK) (f : Int) : Bool := (k.1 == 1 || (k.1 == 2 || (k.1 == 19 || k.1 == 21))) || ((k.1 == 14 && f == 5) || (k.1 == 11 && decide (k.2.1 < P 0 0 0)))
section ZCLK
variable {P : zP} {V S : zS} {x t : Int}
theorem zv4_eq : zv4 P x t S = lp (zv5 P x t) 0 (P 1 t 0) S := by
  have key : ∀ (y : Int), ¬ y = 0 → ∀ (k : Nat) (a n : Int) (S : zS), (n - a).toNat = k → S (8, t, 0, 0) 3 = y → lp (ztd P t x y) a n S = lp (zv5 P x t) a n S := by
    intro y hy k
    induction k with
    | zero => intro a n S hk _; rw [lp_end (by omega), lp_end (by omega)]
    | succ k ih =>
      intro a n S hk h8
      rw [lp_step (f := ztd P t x y) (by omega), lp_step (f := zv5 P x t) (by omega)]
      have e : zv5 P x t a S = ztd P t x y a S := by
        unfold zv5
        rw [h8, if_neg hy]
      rw [e]
      exact ih _ _ _ (by omega) (by unfold ztd; rw [zdo_8]; exact h8)
  unfold zv4
  by_cases h0 : S (8, t, 0, 0) 3 = 0
  · rw [if_pos h0]
    exact (lp_id (f := zv5 P x t) _ _ _ _ rfl (fun p _ _ => if_pos h0)).symm
  · rw [if_neg h0]
    exact key _ h0 _ _ _ _ rfl rfl
theorem zdo_A {p y : Int} (ht : inT P t) : ∀ (n : Nat) (S : zS), fr (aC P) S (zdo P t p x y n S) := by
  intro n
  induction n with
  | zero => exact fun S => fr.rf
  | succ n ih =>
    intro S
    by_cases hc : zdc P t p x y S
    · rw [zdo_go n hc]
      refine fr.tr ?_ (ih _)
      refine (fr.rf.st rfl).st ?_
      unfold aC
      have := ht.2
      simp [this]
    · rw [zdo_stop _ hc]
      exact fr.rf
theorem lp_fA {A : zK → Int → Bool} {f : Int → zS → zS} : ∀ (k : Nat) (a n : Int) (S : zS), (n - a).toNat = k → (∀ o s, a ≤ o → o < n → fr A s (f o s)) → fr A S (lp f a n S) := by
  intro k
  induction k with
  | zero => intro a n S hk _; rw [lp_end (by omega)]; exact fr.rf
  | succ k ih => intro a n S hk h; rw [lp_step (by omega)]; exact (h a S (by omega) (by omega)).tr (ih _ _ _ (by omega) (fun o s h1 h2 => h o s (by omega) h2))
theorem zv4_A {n : Int} (hn : n ≤ P 0 0 0) : fr (aC P) S (lp (zv4 P x) 0 n S) := lp_fA _ _ _ _ rfl (fun t s t1 t2 => by
  unfold zv4
  split
  · exact fr.rf
  · exact lp_fA _ _ _ _ rfl (fun p s _ _ => by unfold ztd; exact zdo_A ⟨t1, by omega⟩ _ _))
theorem zv3_A {n : Int} {s : zS × Int} : fr (aC P) s.1 (lp (zv3 P) 0 n s).1 := lp_f2' (fun g s => fr_z (K := fun n => n == 1 || (n == 2 || (n == 19 || n == 21))) (zv3_fr rfl rfl rfl rfl) (fun k f hk => by unfold aC; rw [Bool.or_eq_true]; exact Or.inl hk))
theorem zCl_A : fr (aC P) (zst V (0, 0, 0, 0) 6 x) (lp (zv4 P x) 0 (P 0 0 0) (lp (zv3 P) 0 (P 3 0 0) (zst V (0, 0, 0, 0) 6 x, 0)).1) := (zv3_A (s := (zst V (0, 0, 0, 0) 6 x, 0))).tr (zv4_A (Int.le_refl _))
theorem zJk_k {k : zK} {f : Int} (hk : k.1 ≠ 0 ∧ k.1 ≠ 1 ∧ k.1 ≠ 2 ∧ k.1 ≠ 11 ∧ k.1 ≠ 14 ∧ k.1 ≠ 18 ∧ k.1 ≠ 19 ∧ k.1 ≠ 20 ∧ k.1 ≠ 21) : zkA P (lp (zv4 P x) 0 (P 0 0 0) (lp (zv3 P) 0 (P 3 0 0) (zst V (0, 0, 0, 0) 6 x, 0)).1) k f = V k f := by
  rw [zkA_fr (K := k189) rfl rfl rfl k f (by simp [k189, hk.2.2.2.2.2.1, hk.2.2.2.2.2.2.1, hk.2.2.2.2.2.2.2.1]), zCl_A k f (by simp [aC, hk]), zst_k _ _ _ _ (fun q => hk.1 (by rw [q]))]
theorem zJk_0 {f : Int} (hf : f ≠ 6) : zkA P (lp (zv4 P x) 0 (P 0 0 0) (lp (zv3 P) 0 (P 3 0 0) (zst V (0, 0, 0, 0) 6 x, 0)).1) (0, 0, 0, 0) f = V (0, 0, 0, 0) f := by
  rw [zkA_fr (K := k189) rfl rfl rfl _ _ rfl, zCl_A _ _ rfl, zst_o hf]
/-- bounds and what holds, as those overdue are nacked -/
theorem zv3_I {I : zS → Prop} (hI : ∀ g p o s, inG P g → inQ P g p → inM P (P 4 g 0) p o → s (19, g, p, 0) o = 1 → I s → I (zB s g p o)) (hP : zWP P) {s : zS × Int} (h : I s.1) : I (lp (zv3 P) 0 (P 3 0 0) s).1 := by
  have hq := hP.n
  refine lp_ind (f := zv3 P) (fun _ s => I s.1) _ 0 _ s (by omega) rfl h (fun g s g1 g2 hs => ?_)
  have hg : inG P g := ⟨g1, g2⟩
  have hN := hP.t (hP.g hg)
  unfold zv3
  refine lp_ind (f := zv2 P g) (fun _ s => I s.1) _ 0 _ (s.1, 0) (by omega) rfl hs (fun p s p1 p2 hs => ?_)
  have hp : inQ P g p := ⟨p1, p2⟩
  have hM := hP.m (hP.g hg) hp
  unfold zv2
  refine lp_ind (f := zv1 g p) (fun _ s => I s.1) _ 0 _ s hM.1 rfl hs (fun o s o1 o2 hs => ?_)
  unfold zv1
  split
  · next hc => exact hI g p o s.1 hg hp ⟨o1, o2⟩ hc.1 hs
  · exact hs
theorem zv4_I {I : zS → Prop} (hI : ∀ t p s, inT P t → inP P t p → s (11, t, p, 0) 1 < P 2 t p → I s → I (zst (zst s (14, t, p, s (11, t, p, 0) 1) 5 1) (11, t, p, 0) 1 (s (11, t, p, 0) 1 + 1))) (hP : zWP P) (h : I S) : I (lp (zv4 P x) 0 (P 0 0 0) S) := by
  have hq := hP.n
  refine lp_ind (f := zv4 P x) (fun _ s => I s) _ 0 _ S (by omega) rfl h (fun t s t1 t2 hs => ?_)
  have ht : inT P t := ⟨t1, t2⟩
  have hN := hP.t ht
  unfold zv4
  split
  · exact hs
  · refine lp_ind (fun _ s => I s) _ 0 _ s (by omega) rfl hs (fun p s' p1 p2 hs' => ?_)
    unfold ztd
    generalize (P 2 t p - s' (11, t, p, 0) 1).toNat = n
    revert hs'
    have key : ∀ (n : Nat) (s' : zS), I s' → I (zdo P t p x (s (8, t, 0, 0) 3) n s') := by
      intro n
      induction n with
      | zero => exact fun s' h => h
      | succ n ih =>
        intro s' h
        by_cases hc : zdc P t p x (s (8, t, 0, 0) 3) s'
        · rw [zdo_go n hc]
          exact ih _ (hI t p s' ht ⟨p1, p2⟩ hc.1 h)
        · rw [zdo_stop _ hc]
          exact h
    exact key n s'
theorem zJ_clock (h : zJ P V) (hx : V (0, 0, 0, 0) 6 < x ∧ x ≤ 9999) : zJ P (zkA P (lp (zv4 P x) 0 (P 0 0 0) (lp (zv3 P) 0 (P 3 0 0) (zst V (0, 0, 0, 0) 6 x, 0)).1)) := by
  have hP := h.wp
  have hk := h.wv.W.k
  have hq := hP.n
  have h0 : zWV P (zst V (0, 0, 0, 0) 6 x) := h.wv.s0 ⟨by omega, by omega⟩ ⟨fun _ => by omega, fun q => by omega, fun q => by omega⟩ (fun q => by omega) (fun q => by omega)
  have h1 : zWV P (lp (zv3 P) 0 (P 3 0 0) (zst V (0, 0, 0, 0) 6 x, 0)).1 ∧ zK0 P (lp (zv3 P) 0 (P 3 0 0) (zst V (0, 0, 0, 0) 6 x, 0)).1 := zv3_I (I := fun s => zWV P s ∧ zK0 P s) (fun g p o s hg hp ho h1 hs => by
    have hc := hs.1.W.c g p o
    have hM := hP.m (hP.g hg) hp
    have hN := hP.t (hP.g hg)
    have := hg.1; have := hg.2; have := hp.1; have := hp.2; have := ho.1; have := ho.2
    exact ⟨zB_V hs.1 ⟨by omega, by omega⟩ ⟨by omega, by omega⟩ ⟨by omega, by omega⟩, hs.2.nk hg hp ho h1 ⟨by omega, by omega⟩⟩) hP (s := (zst V (0, 0, 0, 0) 6 x, 0)) ⟨h0, h.k0.clk (by omega)⟩
  have h2 := zv4_I (x := x) (I := fun s => zWV P s ∧ zK0 P s) (fun t p s ht hp hlt hs => by
    have hM := hP.m ht hp
    have hs1 := hs.1.W.s ht hp
    refine ⟨(hs.1.s14_5 (Or.inr rfl)).s11 ⟨by omega, by omega⟩ (fun _ _ => by omega), ?_⟩
    have hd := hs.2.dr (t := t) (p := p) (o := s (11, t, p, 0) 1)
    have e : zst s (14, t, p, s (11, t, p, 0) 1) 5 1 (11, t, p, 0) 1 = s (11, t, p, 0) 1 := zst_k _ _ _ _ (by simp)
    have := hd.st (t := t) (p := p) (by rw [e, zst_s])
    rw [e] at this
    exact this) hP h1
  have n := fun (k : zK) (f : Int) hk => zJk_k (P := P) (V := V) (x := x) (k := k) (f := f) hk
  have n14 : ∀ t p o f, f ≠ 5 → zkA P (lp (zv4 P x) 0 (P 0 0 0) (lp (zv3 P) 0 (P 3 0 0) (zst V (0, 0, 0, 0) 6 x, 0)).1) (14, t, p, o) f = V (14, t, p, o) f := fun t p o f hf => by
    rw [zkA_fr (K := k189) rfl rfl rfl _ _ rfl, zCl_A _ _ (by simp [aC, hf]), zst_k _ _ _ _ (by simp)]
  have hT := zTr_fr (V' := zkA P (lp (zv4 P x) 0 (P 0 0 0) (lp (zv3 P) 0 (P 3 0 0) (zst V (0, 0, 0, 0) 6 x, 0)).1)) (zJk_0 (by decide)) (fun f => n _ _ (by simp)) (fun t p o f hf => n14 t p o f (by omega)) (fun f => n _ _ (by simp)) (fun f => n _ _ (by simp)) h.tr
  have hH := h.hd
  have hHH : zHD P (zkA P (lp (zv4 P x) 0 (P 0 0 0) (lp (zv3 P) 0 (P 3 0 0) (zst V (0, 0, 0, 0) 6 x, 0)).1)) := ⟨fun t ht => by
    obtain ⟨a1, a2, a3⟩ := hH.1 t ht
    refine ⟨by rw [n _ _ (by simp)]; exact a1, fun y => by rw [n _ _ (by simp)]; exact a2 y, fun p => ?_⟩
    rw [zkA_fr (K := k189) rfl rfl rfl _ _ rfl, zCl_A _ _ (by simp [aC]; omega), zst_k _ _ _ _ (by simp)]
    exact a3 p, fun g r hg => by rw [n _ _ (by simp)]; exact hH.2.1 g r hg, hH.2.2⟩
  obtain ⟨-, ⟨M, hM⟩, -⟩ := h
  exact ⟨zkA_V hP h2.1, ⟨_, (o_clock hM hx).1⟩, hT, hHH, h2.2.kA hP⟩
end ZCLK
set_option maxHeartbeats 4000000 in
set_option maxRecDepth 100000 in
theorem c_X7_setClock {l : Launch} {Δ : zDl} {ad : zK → Nat} {Q : zP} {V : zS} {X : zMem}  (hJ : zJ Q V) (hX : X = mm Δ ad Q V z00) (hL : Δ.2.2.2.2.1 ≤ 3072) (hD : V (200, 0, 0, 0) 2 ≤ 930000) (h4 : V (0, 0, 0, 0) 4 ≤ 190) (h6 : V (0, 0, 0, 0) 6 ≤ 9900) : zMn l Δ yX7_setClock cX7_setClock 6 (some .boolean) 10 3000 55000 [.ref (ad (200, 0, 0, 0))] ad (pm Δ ad Q V X) (zAct Δ ad Q V 1000) := by
  refine zMn_of (by decide) (Nat.le_of_ble_eq_true rfl) (fun Γ hl hΔ hF => ?_)
  subst hl hΔ
  show G Γ _ _ _ RX7 _ _ _ _ _ [(0, .ref (ad (200, 0, 0, 0)))] []
  have hP := hJ.wp
  have hV := hJ.wv
  have hq := hP.n
  have hdw := hV.dw
  have hX2 : X (230, 0, 0, 0) = none ∧ X (231, 0, 0, 0) = none := by rw [hX]; exact ⟨rfl, rfl⟩
  have hk := hV.W.k
  have K29 : ∀ (T0 : zS), (∃ D x, zJ Q D ∧ X = mm (z_d Γ) ad Q D z00 ∧ T0 = zst D (0, 0, 0, 0) 6 x ∧ (D (0, 0, 0, 0) 6 < x ∧ x ≤ D (0, 0, 0, 0) 6 + 14) ∧ D (200, 0, 0, 0) 2 ≤ V (200, 0, 0, 0) 2 + 2 ∧ D (0, 0, 0, 0) 4 = V (0, 0, 0, 0) 4 ∧ D (0, 0, 0, 0) 6 = V (0, 0, 0, 0) 6 ∧ D (1, 0, 0, 0) 1 = V (1, 0, 0, 0) 1) → G Γ (zRm 10 3000 55000) cX7_setClock 6 RX7 ad (pm (z_d Γ) ad Q T0 X) 0 0 29 [(0, .ref (ad (200, 0, 0, 0)))] [] := by
    intro T0 hK
    obtain ⟨D, x, hJD, hXD, hT0, hx14, hDd, hD4, hD6, hD1⟩ := hK
    have hVD := hJD.wv
    have hx : D (0, 0, 0, 0) 6 < x ∧ x ≤ 9999 := ⟨by omega, by omega⟩
    have hkD := hVD.W.k
    have hVT0 : zWV Q T0 := by rw [hT0]; exact hVD.s0 ⟨by omega, by omega⟩ ⟨fun _ => by omega, fun q => by omega, fun q => by omega⟩ (fun q => by omega) (fun q => by omega)
    have h60 : T0 (0, 0, 0, 0) 6 = x := by rw [hT0, zst_s]
    have hs0 : zSet Q T0 := by rw [hT0]; exact zSet_fr (fun t p o => zst_k _ _ _ _ (by simp)) (fun g p o => Or.inl (zst_k _ _ _ _ (by simp))) hJD.st
    have h1T0 : T0 (1, 0, 0, 0) 1 = D (1, 0, 0, 0) 1 := by rw [hT0, zst_k _ _ _ _ (by simp)]
    have hlD := hVD.W.l
    clear hV hk
    refine G_iconst (pc := 29) dX7_setClock_29 ?_
    refine G_istore_ne (pc := 30) 1 (fun zw => [(1, .int (zI zw)), (0, .ref (ad (200, 0, 0, 0)))]) dX7_setClock_30 rfl (by decide) (fun _ => rfl) (fun v30 e30 => ?_)
    refine G_iconst (pc := 31) dX7_setClock_31 ?_
    refine G_istore_ne (pc := 32) 2 (fun zw => [(2, .int (zI zw)), (1, .int (zI v30)), (0, .ref (ad (200, 0, 0, 0)))]) dX7_setClock_32 rfl (by decide) (fun _ => rfl) (fun v32 e32 => ?_)
    have L33 : ∀ (n : Nat) (m : Int) (g : Int) (adL1 : zK → Nat) (nc1 ns1 : Nat) (T : zS), (((0 ≤ g ∧ g ≤ Q 3 0 0) ∧ 0 ≤ m ∧ m ≤ 320 * g) ∧ lp (zv3 Q) g (Q 3 0 0) (T, m) = lp (zv3 Q) 0 (Q 3 0 0) (zst D (0, 0, 0, 0) 6 x, 0) ∧ (zWV Q T ∧ zSet Q T) ∧ T (0, 0, 0, 0) 6 = x ∧ (∀ k : zK, k.1 ≠ 222 → k.1 ≠ 223 → k.1 ≠ 230 → k.1 ≠ 231 → adL1 k = ad k) ∧ ((nc1 : Int) ≤ 2 * m + 2 * (T (1, 0, 0, 0) 1 - D (1, 0, 0, 0) 1) ∧ ((ns1 : Int) ≤ 10 * m + 206 * (T (1, 0, 0, 0) 1 - D (1, 0, 0, 0) 1) ∨ (T (1, 0, 0, 0) 1 = 200 ∧ (ns1 : Int) ≤ 10 * m + 206 * (T (1, 0, 0, 0) 1 - D (1, 0, 0, 0) 1) + 206)) ∧ D (1, 0, 0, 0) 1 ≤ T (1, 0, 0, 0) 1 ∧ T (1, 0, 0, 0) 1 ≤ 200)) → (Q 3 0 0 - g).toNat < n → G Γ (zRm 10 3000 55000) cX7_setClock 6 RX7 adL1 (pm (z_d Γ) adL1 Q T X) nc1 ns1 33 [(0, .ref (adL1 (200, 0, 0, 0))), (1, .int (zI m)), (2, .int (zI g))] [] := by
      intro n
      induction n with
      | zero => intro m g adL1 nc1 ns1 T _ hn; omega
      | succ n ih33 =>
        intro m g adL1 nc1 ns1 T hi33 hn33
        obtain ⟨hg0, hlg, ⟨hVT, hsT⟩, hT6, hadL1, hc1⟩ := hi33
        refine G_iload_n (pc := 33) 2 2 dX7_setClock_33 rfl rfl ?_
        refine G_aload_n (pc := 34) 0 0 dX7_setClock_34 rfl rfl ?_
        refine G_getfV (pc := 35) (w := Q 3 0 0) fl_X7_105 dX7_setClock_35 pg_200 rfl (congrArg (fun z => Value.int (zI z)) hVT.gn) ?_
        refine G_icmp_ge (pc := 38) 165 dX7_setClock_38 (by decide) (by first | exact zWV.R (by assumption) _ _ | exact ⟨by omega, by omega⟩ | assumption | (subst_vars; first | exact zWV.R (by assumption) _ _ | exact ⟨by omega, by omega⟩)) (by first | exact zWV.R (by assumption) _ _ | exact ⟨by omega, by omega⟩ | assumption | (subst_vars; first | exact zWV.R (by assumption) _ _ | exact ⟨by omega, by omega⟩)) (fun c38 => ?_) (fun c38 => ?_)
        · refine G_iconst (pc := 165) dX7_setClock_165 ?_
          refine G_istore_ne (pc := 166) 2 (fun zw => [(2, .int (zI zw)), (0, .ref (adL1 (200, 0, 0, 0))), (1, .int (zI m))]) dX7_setClock_166 rfl (by decide) (fun _ => rfl) (fun v166 e166 => ?_)
          have L167 : ∀ (n : Nat) (t : Int) (U : zS), ((0 ≤ t ∧ t ≤ Q 0 0 0) ∧ ∃ C, U = nzA Q C ∧ lp (zv4 Q x) t (Q 0 0 0) C = lp (zv4 Q x) 0 (Q 0 0 0) T ∧ zWV Q U ∧ C (0, 0, 0, 0) 6 = x) → (Q 0 0 0 - t).toNat < n → G Γ (zRm 10 3000 55000) cX7_setClock 6 RX7 adL1 (pm (z_d Γ) adL1 Q U X) nc1 ns1 167 [(0, .ref (adL1 (200, 0, 0, 0))), (1, .int (zI m)), (2, .int (zI t))] [] := by
            intro n
            induction n with
            | zero => intro t U _ hn; omega
            | succ n ih167 =>
              intro t U hi167 hn167
              obtain ⟨ht0, C, hUC, hCl, hVU, hCx⟩ := hi167
              refine G_iload_n (pc := 167) 2 2 dX7_setClock_167 rfl rfl ?_
              refine G_aload_n (pc := 168) 0 0 dX7_setClock_168 rfl rfl ?_
              refine G_getf (pc := 169) fl_X7_25 dX7_setClock_169 pg_200 rfl ?_
              refine G_alenV (pc := 172) (t := 7) (Q 0 0 0) rfl dX7_setClock_172 pg_201 (by omega) ?_
              refine G_icmp_ge (pc := 173) 303 dX7_setClock_173 (by decide) (by first | exact zWV.R (by assumption) _ _ | exact ⟨by omega, by omega⟩ | assumption | (subst_vars; first | exact zWV.R (by assumption) _ _ | exact ⟨by omega, by omega⟩)) (by first | exact zWV.R (by assumption) _ _ | exact ⟨by omega, by omega⟩ | assumption | (subst_vars; first | exact zWV.R (by assumption) _ _ | exact ⟨by omega, by omega⟩)) (fun c173 => ?_) (fun c173 => ?_)
              · have hlg2 := hlg
                rw [lp_end (by omega)] at hlg2
                have hCl2 := hCl
                rw [lp_end (by omega)] at hCl2
                have hTW : T = (lp (zv3 Q) 0 (Q 3 0 0) (zst D (0, 0, 0, 0) 6 x, 0)).1 := by rw [← hlg2]
                have hmW : m = (lp (zv3 Q) 0 (Q 3 0 0) (zst D (0, 0, 0, 0) 6 x, 0)).2 := by rw [← hlg2]
                have hCW : C = (lp (zv4 Q x) 0 (Q 0 0 0) (lp (zv3 Q) 0 (Q 3 0 0) (zst D (0, 0, 0, 0) 6 x, 0)).1) := by rw [hCl2, hTW]
                have hJc := zJ_clock hJD hx
                have hsn : zSet Q U := by rw [hUC]; exact zSet_nz
                refine G_aload_n (pc := 303) 0 0 dX7_setClock_303 rfl rfl ?_
                refine G_callVv (pc := 304) gk_X7_126 dX7_setClock_304 pg_200 rfl (c_X7_settle (by first | assumption | omega | exact ⟨by omega, by omega⟩ | exact ⟨⟨by omega, by omega⟩, by omega⟩ | exact zWV.R (by assumption) _ _) (by first | assumption | omega | exact ⟨by omega, by omega⟩ | exact ⟨⟨by omega, by omega⟩, by omega⟩ | exact zWV.R (by assumption) _ _) hsn) rfl rfl (Nat.le_of_ble_eq_true rfl) ⟨⟨Nat.le_of_ble_eq_true rfl, Nat.le_of_ble_eq_true rfl⟩, (by show nc1 + 0 ≤ 3000; omega), (by show ns1 + 0 ≤ 55000; omega)⟩ ?_
                refine G_nameV (fun V1_304 hV1_304 => ?_)
                have hVV1_304 : zWV Q V1_304 := by rw [hV1_304]; exact zkA_V hP hVU
                have hSa : V1_304 = zkA Q (lp (zv4 Q x) 0 (Q 0 0 0) (lp (zv3 Q) 0 (Q 3 0 0) (zst D (0, 0, 0, 0) 6 x, 0)).1) := by rw [hV1_304, hUC, hCW]; exact zkA_nzs hJc.st
                have hXa : X = mm (z_d Γ) adL1 Q D z00 := by rw [hXD]; exact (mm_ad (fun k hk => hadL1 k (by omega) (by omega) (by omega) (by omega))).symm
                have hA : adL1 (0, 0, 0, 0) = ad (0, 0, 0, 0) ∧ adL1 (200, 0, 0, 0) = ad (200, 0, 0, 0) := ⟨hadL1 _ (by decide) (by decide) (by decide) (by decide), hadL1 _ (by decide) (by decide) (by decide) (by decide)⟩
                have hn := fun (k : zK) (f : Int) hk => zJk_k (P := Q) (V := D) (x := x) (k := k) (f := f) hk
                have h06 : V1_304 (0, 0, 0, 0) 6 = x := by rw [hSa, zkA_fr (K := k189) rfl rfl rfl _ _ rfl, ← hCW]; exact hCx
                have h1T : V1_304 (1, 0, 0, 0) 1 = T (1, 0, 0, 0) 1 := by rw [hSa, zkA_fr (K := k189) rfl rfl rfl _ _ rfl, ← hTW]; exact lp_fr (K := fun n => n == 11 || n == 14) (fun t s => zv4_fr rfl rfl) _ _ rfl
                refine G_aload_n (pc := 307) 0 0 dX7_setClock_307 rfl rfl ?_
                refine G_getf (pc := 308) fl_X7_10 dX7_setClock_308 pg_200 rfl ?_
                refine G_aload_n (pc := 311) 0 0 dX7_setClock_311 rfl rfl ?_
                refine G_getf (pc := 312) fl_X7_119 dX7_setClock_312 pg_200 rfl ?_
                rw [hXa, pm_mm]
                refine G_callV (pc := 315) gk_X7_176 dX7_setClock_315 mg_0 rfl (c_X6_setClock (x := (V1_304 (0, 0, 0, 0) 6)) hP hJD.wv.W (by rw [h06]; exact hx)) rfl rfl (Nat.le_of_ble_eq_true rfl) ⟨⟨Nat.le_of_ble_eq_true rfl, Nat.le_of_ble_eq_true rfl⟩, (by show nc1 + 0 ≤ 3000; omega), (by show ns1 + 0 ≤ 55000; omega)⟩ (fun vx adx Mx hpo => ?_)
                obtain ⟨rfl, hadx, rfl⟩ := hpo
                rw [hadx]
                rw [h06, ← hmW]
                show G Γ _ _ _ _ _ _ (nc1) (ns1) 318 [(0, .ref (adL1 (200, 0, 0, 0))), (1, .int (zI m)), (2, .int (zI t))] [.int (zI m)]
                rw [← pm_mm]
                refine G_iload_n (pc := 318) 1 1 dX7_setClock_318 rfl rfl ?_
                refine G_icmp_ne (pc := 319) 340 dX7_setClock_319 (by decide) (by first | exact zWV.R (by assumption) _ _ | exact ⟨by omega, by omega⟩ | assumption | (subst_vars; first | exact zWV.R (by assumption) _ _ | exact ⟨by omega, by omega⟩)) (by first | exact zWV.R (by assumption) _ _ | exact ⟨by omega, by omega⟩ | assumption | (subst_vars; first | exact zWV.R (by assumption) _ _ | exact ⟨by omega, by omega⟩)) (fun c319 => ?_) (fun c319 => ?_)
                · exfalso
                  exact c319 rfl
                · refine G_aload_n (pc := 322) 0 0 dX7_setClock_322 rfl rfl ?_
                  refine G_getf (pc := 323) fl_X7_10 dX7_setClock_323 pg_200 rfl ?_
                  rw [pm_mm]
                  refine G_callV (pc := 326) gk_X7_179 dX7_setClock_326 mg_0 rfl (c_X6_clock hP (zJ_clock hJD hx).wv.W) rfl rfl (Nat.le_of_ble_eq_true rfl) ⟨⟨Nat.le_of_ble_eq_true rfl, Nat.le_of_ble_eq_true rfl⟩, (by show nc1 + 0 ≤ 3000; omega), (by show ns1 + 0 ≤ 55000; omega)⟩ (fun vx adx Mx hpo => ?_)
                  obtain ⟨rfl, hadx, rfl⟩ := hpo
                  rw [hadx]
                  rw [← hSa]
                  show G Γ _ _ _ _ _ _ (nc1) (ns1) 329 [(0, .ref (adL1 (200, 0, 0, 0))), (1, .int (zI m)), (2, .int (zI t))] [.int (zI (V1_304 (0, 0, 0, 0) 6))]
                  rw [← pm_mm]
                  refine G_aload_n (pc := 329) 0 0 dX7_setClock_329 rfl rfl ?_
                  refine G_getf (pc := 330) fl_X7_119 dX7_setClock_330 pg_200 rfl ?_
                  refine G_icmp_ne (pc := 333) 340 dX7_setClock_333 (by decide) (by first | exact zWV.R (by assumption) _ _ | exact ⟨by omega, by omega⟩ | assumption | (subst_vars; first | exact zWV.R (by assumption) _ _ | exact ⟨by omega, by omega⟩)) (by first | exact zWV.R (by assumption) _ _ | exact ⟨by omega, by omega⟩ | assumption | (subst_vars; first | exact zWV.R (by assumption) _ _ | exact ⟨by omega, by omega⟩)) (fun c333 => ?_) (fun c333 => ?_)
                  · exfalso
                    exact c333 rfl
                  · refine G_iconst (pc := 336) dX7_setClock_336 ?_
                    refine G_goto (pc := 337) 341 dX7_setClock_337 (by decide) ?_
                    exact G_zret (pc := 341) hF dX7_setClock_341 ⟨by omega, by omega⟩ (by first | exact zb_ite | omega) ⟨rfl, Q, V1_304, hA, by first | rw [hSa]; rfl | rfl, by rw [hSa]; exact hJc, by rw [hSa, hn _ _ (by simp)]; omega, by rw [hSa, zJk_0 (by decide)]; omega, by omega, by omega, by omega, by omega⟩
              · refine G_iconst (pc := 176) dX7_setClock_176 ?_
                refine G_istore_ne (pc := 177) 3 (fun zw => [(3, .int (zI zw)), (0, .ref (adL1 (200, 0, 0, 0))), (1, .int (zI m)), (2, .int (zI t))]) dX7_setClock_177 rfl (by decide) (fun _ => rfl) (fun v177 e177 => ?_)
                have ht : 0 ≤ t ∧ t < Q 0 0 0 := ⟨by omega, by omega⟩
                have hNt := hP.t ht
                have L178 : ∀ (n : Nat) (p : Int) (U1 : zS), ((0 ≤ p ∧ p ≤ Q 1 t 0) ∧ ∃ C1, U1 = nzA Q C1 ∧ lp (zv5 Q x t) p (Q 1 t 0) C1 = lp (zv5 Q x t) 0 (Q 1 t 0) C ∧ zWV Q U1 ∧ C1 (0, 0, 0, 0) 6 = x) → (Q 1 t 0 - p).toNat < n → G Γ (zRm 10 3000 55000) cX7_setClock 6 RX7 adL1 (pm (z_d Γ) adL1 Q U1 X) nc1 ns1 178 [(0, .ref (adL1 (200, 0, 0, 0))), (1, .int (zI m)), (2, .int (zI t)), (3, .int (zI p))] [] := by
                  intro n
                  induction n with
                  | zero => intro p U1 _ hn; omega
                  | succ n ih178 =>
                    intro p U1 hi178 hn178
                    obtain ⟨hp0, C1, hUC1, hC1l, hVU1, hC1x⟩ := hi178
                    refine G_iload_n (pc := 178) 3 3 dX7_setClock_178 rfl rfl ?_
                    refine G_aload_n (pc := 179) 0 0 dX7_setClock_179 rfl rfl ?_
                    refine G_getf (pc := 180) fl_X7_25 dX7_setClock_180 pg_200 rfl ?_
                    refine G_iload_n (pc := 183) 2 2 dX7_setClock_183 rfl rfl ?_
                    refine G_aldA (pc := 184) (t := 7) rfl dX7_setClock_184 pg_201 ⟨by omega, by omega, by omega, by omega⟩ rfl ?_
                    refine G_alenV (pc := 185) (t := 6) (Q 1 t 0) rfl dX7_setClock_185 (pg_202 (by first | assumption | omega | exact ⟨by omega, by omega⟩ | exact ⟨⟨by omega, by omega⟩, by omega⟩ | exact zWV.R (by assumption) _ _)) (by omega) ?_
                    refine G_icmp_ge (pc := 186) 297 dX7_setClock_186 (by decide) (by first | exact zWV.R (by assumption) _ _ | exact ⟨by omega, by omega⟩ | assumption | (subst_vars; first | exact zWV.R (by assumption) _ _ | exact ⟨by omega, by omega⟩)) (by first | exact zWV.R (by assumption) _ _ | exact ⟨by omega, by omega⟩ | assumption | (subst_vars; first | exact zWV.R (by assumption) _ _ | exact ⟨by omega, by omega⟩)) (fun c186 => ?_) (fun c186 => ?_)
                    · refine G_iinc_e (pc := 297) 2 (fun zw => [(2, .int (zI zw)), (0, .ref (adL1 (200, 0, 0, 0))), (1, .int (zI m)), (3, .int (zI p))]) dX7_setClock_297 rfl (by decide) (fun _ => rfl) (fun v297 e297 => ?_)
                      refine G_goto (pc := 300) 167 dX7_setClock_300 (by decide) ?_
                      refine G_perm (lv' := [(0, .ref (adL1 (200, 0, 0, 0))), (1, .int (zI m)), (2, .int (zI v297))]) [1, 2, 0] rfl ?_
                      exact ih167 v297 U1 ⟨by omega, C1, hUC1, by rw [e297, ← hCl, lp_step (a := t) (n := Q 0 0 0) (by omega), zv4_eq, ← hC1l, lp_end (f := zv5 Q x t) (by omega)], by assumption, hC1x⟩ (by omega)
                    · refine G_aload_n (pc := 189) 0 0 dX7_setClock_189 rfl rfl ?_
                      refine G_getf (pc := 190) fl_X7_25 dX7_setClock_190 pg_200 rfl ?_
                      refine G_iload_n (pc := 193) 2 2 dX7_setClock_193 rfl rfl ?_
                      refine G_aldA (pc := 194) (t := 7) rfl dX7_setClock_194 pg_201 ⟨by omega, by omega, by omega, by omega⟩ rfl ?_
                      refine G_iload_n (pc := 195) 3 3 dX7_setClock_195 rfl rfl ?_
                      refine G_aldA (pc := 196) (t := 6) rfl dX7_setClock_196 (pg_202 (by first | assumption | omega | exact ⟨by omega, by omega⟩ | exact ⟨⟨by omega, by omega⟩, by omega⟩ | exact zWV.R (by assumption) _ _)) ⟨by omega, by omega, by omega, by omega⟩ rfl ?_
                      refine G_astore (pc := 197) [(4, .ref (adL1 (203, t, p, 0))), (0, .ref (adL1 (200, 0, 0, 0))), (1, .int (zI m)), (2, .int (zI t)), (3, .int (zI p))] dX7_setClock_197 (by decide) rfl ?_
                      have hp : 0 ≤ p ∧ p < Q 1 t 0 := ⟨by omega, by omega⟩
                      have hM := hP.m ht hp
                      have L199 : ∀ (n : Nat) (U2 : zS), (∃ C2, U2 = nzA Q C2 ∧ ((C1 (8, t, 0, 0) 3 = 0 → C2 = C1) ∧ (¬ C1 (8, t, 0, 0) 3 = 0 → zdo Q t p x (C1 (8, t, 0, 0) 3) (Q 2 t p - C2 (11, t, p, 0) 1).toNat C2 = ztd Q t x (C1 (8, t, 0, 0) 3) p C1)) ∧ zWV Q U2 ∧ C2 (0, 0, 0, 0) 6 = x ∧ C2 (8, t, 0, 0) 3 = C1 (8, t, 0, 0) 3) → (Q 2 t p - U2 (11, t, p, 0) 1).toNat < n → G Γ (zRm 10 3000 55000) cX7_setClock 6 RX7 adL1 (pm (z_d Γ) adL1 Q U2 X) nc1 ns1 199 [(0, .ref (adL1 (200, 0, 0, 0))), (1, .int (zI m)), (2, .int (zI t)), (3, .int (zI p)), (4, .ref (adL1 (203, t, p, 0)))] [] := by
                        intro n
                        induction n with
                        | zero => intro  U2 _ hn; omega
                        | succ n ih199 =>
                          intro  U2 hi199 hn199
                          obtain ⟨C2, hUC2, hz2, hVU2, hC2x, hC28⟩ := hi199
                          have hs2 := hVU2.W.s ht hp
                          have hb2 := hVU2.W.b t p (U2 (11, t, p, 0) 1)
                          have hk2 := hVU2.W.k
                          have h83 := (hVU2.t8 t).2
                          have c11 : U2 (11, t, p, 0) 1 = C2 (11, t, p, 0) 1 := by rw [hUC2]; exact nzA_n ⟨by simp, by simp⟩
                          have c83 : U2 (8, t, 0, 0) 3 = C1 (8, t, 0, 0) 3 := by rw [hUC2, ← hC28]; exact nzA_n ⟨by simp, by simp⟩
                          have c06 : U2 (0, 0, 0, 0) 6 = x := by rw [hUC2, ← hC2x]; exact nzA_n ⟨by simp, by simp⟩
                          have c14 : ∀ f, U2 (14, t, p, C2 (11, t, p, 0) 1) f = C2 (14, t, p, C2 (11, t, p, 0) 1) f := fun f => by rw [hUC2]; exact nzA_n ⟨by simp, by simp⟩
                          refine G_aload_n (pc := 199) 0 0 dX7_setClock_199 rfl rfl ?_
                          refine G_getf (pc := 200) fl_X7_33 dX7_setClock_200 pg_200 rfl ?_
                          refine G_iload_n (pc := 203) 2 2 dX7_setClock_203 rfl rfl ?_
                          refine G_ialdV (pc := 204) (U2 (8, t, 0, 0) 3) dX7_setClock_204 pg_206 ⟨by omega, by omega, by omega, by omega⟩ rfl ?_
                          refine G_if_le (pc := 205) 291 dX7_setClock_205 (by decide) (by first | exact zWV.R (by assumption) _ _ | exact ⟨by omega, by omega⟩ | assumption | (subst_vars; first | exact zWV.R (by assumption) _ _ | exact ⟨by omega, by omega⟩)) (fun c205 => ?_) (fun c205 => ?_)
                          · have hz5 : zv5 Q x t p C1 = C2 := by
                              unfold zv5
                              by_cases hk0 : C1 (8, t, 0, 0) 3 = 0
                              · rw [if_pos hk0]; exact (hz2.1 hk0).symm
                              · rw [if_neg hk0, ← hz2.2 hk0]
                                exact zdo_stop _ (fun q => by
                                  have q1 : C2 (11, t, p, 0) 1 < Q 2 t p := q.1
                                  have q2 : ¬ C2 (14, t, p, C2 (11, t, p, 0) 1) 4 = 2 := q.2.1
                                  have q3 : C1 (8, t, 0, 0) 3 ≤ x - C2 (14, t, p, C2 (11, t, p, 0) 1) 2 := q.2.2
                                  rw [← c14] at q2 q3
                                  rw [← c11] at q1 q2 q3
                                  omega)
                            refine G_iinc_e (pc := 291) 3 (fun zw => [(3, .int (zI zw)), (0, .ref (adL1 (200, 0, 0, 0))), (1, .int (zI m)), (2, .int (zI t)), (4, .ref (adL1 (203, t, p, 0)))]) dX7_setClock_291 rfl (by decide) (fun _ => rfl) (fun v291 e291 => ?_)
                            refine G_goto (pc := 294) 178 dX7_setClock_294 (by decide) ?_
                            refine G_perm (lv' := [(0, .ref (adL1 (200, 0, 0, 0))), (1, .int (zI m)), (2, .int (zI t)), (3, .int (zI v291))]) [1, 2, 3, 0] rfl ?_
                            exact ih178 v291 U2 ⟨by omega, C2, hUC2, by rw [e291, ← hC1l, lp_step (a := p) (n := Q 1 t 0) (by omega), hz5], by assumption, hC2x⟩ (by omega)
                          · refine G_aload_n (pc := 208) 0 0 dX7_setClock_208 rfl rfl ?_
                            refine G_getf (pc := 209) fl_X7_39 dX7_setClock_209 pg_200 rfl ?_
                            refine G_iload_n (pc := 212) 2 2 dX7_setClock_212 rfl rfl ?_
                            refine G_aldA (pc := 213) (t := 5) rfl dX7_setClock_213 pg_207 ⟨by omega, by omega, by omega, by omega⟩ rfl ?_
                            refine G_iload_n (pc := 214) 3 3 dX7_setClock_214 rfl rfl ?_
                            refine G_ialdV (pc := 215) (U2 (11, t, p, 0) 1) dX7_setClock_215 (pg_208 (by first | assumption | omega | exact ⟨by omega, by omega⟩ | exact ⟨⟨by omega, by omega⟩, by omega⟩ | exact zWV.R (by assumption) _ _)) ⟨by omega, by omega, by omega, by omega⟩ rfl ?_
                            refine G_aload (pc := 216) 4 dX7_setClock_216 rfl ?_
                            refine G_alenV (pc := 218) (t := 5) (Q 2 t p) rfl dX7_setClock_218 (pg_203 (by first | assumption | omega | exact ⟨by omega, by omega⟩ | exact ⟨⟨by omega, by omega⟩, by omega⟩ | exact zWV.R (by assumption) _ _)) (by omega) ?_
                            refine G_icmp_ge (pc := 219) 291 dX7_setClock_219 (by decide) (by first | exact zWV.R (by assumption) _ _ | exact ⟨by omega, by omega⟩ | assumption | (subst_vars; first | exact zWV.R (by assumption) _ _ | exact ⟨by omega, by omega⟩)) (by first | exact zWV.R (by assumption) _ _ | exact ⟨by omega, by omega⟩ | assumption | (subst_vars; first | exact zWV.R (by assumption) _ _ | exact ⟨by omega, by omega⟩)) (fun c219 => ?_) (fun c219 => ?_)
                            · have hz5 : zv5 Q x t p C1 = C2 := by
                                unfold zv5
                                by_cases hk0 : C1 (8, t, 0, 0) 3 = 0
                                · rw [if_pos hk0]; exact (hz2.1 hk0).symm
                                · rw [if_neg hk0, ← hz2.2 hk0]
                                  exact zdo_stop _ (fun q => by
                                    have q1 : C2 (11, t, p, 0) 1 < Q 2 t p := q.1
                                    have q2 : ¬ C2 (14, t, p, C2 (11, t, p, 0) 1) 4 = 2 := q.2.1
                                    have q3 : C1 (8, t, 0, 0) 3 ≤ x - C2 (14, t, p, C2 (11, t, p, 0) 1) 2 := q.2.2
                                    rw [← c14] at q2 q3
                                    rw [← c11] at q1 q2 q3
                                    omega)
                              refine G_iinc_e (pc := 291) 3 (fun zw => [(3, .int (zI zw)), (0, .ref (adL1 (200, 0, 0, 0))), (1, .int (zI m)), (2, .int (zI t)), (4, .ref (adL1 (203, t, p, 0)))]) dX7_setClock_291 rfl (by decide) (fun _ => rfl) (fun v291 e291 => ?_)
                              refine G_goto (pc := 294) 178 dX7_setClock_294 (by decide) ?_
                              refine G_perm (lv' := [(0, .ref (adL1 (200, 0, 0, 0))), (1, .int (zI m)), (2, .int (zI t)), (3, .int (zI v291))]) [1, 2, 3, 0] rfl ?_
                              exact ih178 v291 U2 ⟨by omega, C2, hUC2, by rw [e291, ← hC1l, lp_step (a := p) (n := Q 1 t 0) (by omega), hz5], by assumption, hC2x⟩ (by omega)
                            · refine G_aload_n (pc := 222) 0 0 dX7_setClock_222 rfl rfl ?_
                              refine G_getf (pc := 223) fl_X7_119 dX7_setClock_223 pg_200 rfl ?_
                              refine G_aload (pc := 226) 4 dX7_setClock_226 rfl ?_
                              refine G_aload_n (pc := 228) 0 0 dX7_setClock_228 rfl rfl ?_
                              refine G_getf (pc := 229) fl_X7_39 dX7_setClock_229 pg_200 rfl ?_
                              refine G_iload_n (pc := 232) 2 2 dX7_setClock_232 rfl rfl ?_
                              refine G_aldA (pc := 233) (t := 5) rfl dX7_setClock_233 pg_207 ⟨by omega, by omega, by omega, by omega⟩ rfl ?_
                              refine G_iload_n (pc := 234) 3 3 dX7_setClock_234 rfl rfl ?_
                              refine G_ialdV (pc := 235) (U2 (11, t, p, 0) 1) dX7_setClock_235 (pg_208 (by first | assumption | omega | exact ⟨by omega, by omega⟩ | exact ⟨⟨by omega, by omega⟩, by omega⟩ | exact zWV.R (by assumption) _ _)) ⟨by omega, by omega, by omega, by omega⟩ rfl ?_
                              refine G_aldA (pc := 236) (t := 5) rfl dX7_setClock_236 (pg_203 (by first | assumption | omega | exact ⟨by omega, by omega⟩ | exact ⟨⟨by omega, by omega⟩, by omega⟩ | exact zWV.R (by assumption) _ _)) ⟨by omega, by omega, by omega, by omega⟩ rfl ?_
                              refine G_iconst (pc := 237) dX7_setClock_237 ?_
                              refine G_ialdV (pc := 238) (U2 (14, t, p, (U2 (11, t, p, 0) 1)) 2) dX7_setClock_238 (pg_204 (by first | assumption | omega | exact ⟨by omega, by omega⟩ | exact ⟨⟨by omega, by omega⟩, by omega⟩ | exact zWV.R (by assumption) _ _)) ⟨by omega, by omega, by omega, by omega⟩ zpr_2 ?_
                              refine G_isub (pc := 239) dX7_setClock_239 ?_
                              refine G_aload_n (pc := 240) 0 0 dX7_setClock_240 rfl rfl ?_
                              refine G_getf (pc := 241) fl_X7_33 dX7_setClock_241 pg_200 rfl ?_
                              refine G_iload_n (pc := 244) 2 2 dX7_setClock_244 rfl rfl ?_
                              refine G_ialdV (pc := 245) (U2 (8, t, 0, 0) 3) dX7_setClock_245 pg_206 ⟨by omega, by omega, by omega, by omega⟩ rfl ?_
                              refine G_icmp_lt (pc := 246) 291 dX7_setClock_246 (by decide) (by first | exact zWV.R (by assumption) _ _ | exact ⟨by omega, by omega⟩ | assumption | (subst_vars; first | exact zWV.R (by assumption) _ _ | exact ⟨by omega, by omega⟩)) (by first | exact zWV.R (by assumption) _ _ | exact ⟨by omega, by omega⟩ | assumption | (subst_vars; first | exact zWV.R (by assumption) _ _ | exact ⟨by omega, by omega⟩)) (fun c246 => ?_) (fun c246 => ?_)
                              · have hz5 : zv5 Q x t p C1 = C2 := by
                                  unfold zv5
                                  by_cases hk0 : C1 (8, t, 0, 0) 3 = 0
                                  · rw [if_pos hk0]; exact (hz2.1 hk0).symm
                                  · rw [if_neg hk0, ← hz2.2 hk0]
                                    exact zdo_stop _ (fun q => by
                                      have q1 : C2 (11, t, p, 0) 1 < Q 2 t p := q.1
                                      have q2 : ¬ C2 (14, t, p, C2 (11, t, p, 0) 1) 4 = 2 := q.2.1
                                      have q3 : C1 (8, t, 0, 0) 3 ≤ x - C2 (14, t, p, C2 (11, t, p, 0) 1) 2 := q.2.2
                                      rw [← c14] at q2 q3
                                      rw [← c11] at q1 q2 q3
                                      omega)
                                refine G_iinc_e (pc := 291) 3 (fun zw => [(3, .int (zI zw)), (0, .ref (adL1 (200, 0, 0, 0))), (1, .int (zI m)), (2, .int (zI t)), (4, .ref (adL1 (203, t, p, 0)))]) dX7_setClock_291 rfl (by decide) (fun _ => rfl) (fun v291 e291 => ?_)
                                refine G_goto (pc := 294) 178 dX7_setClock_294 (by decide) ?_
                                refine G_perm (lv' := [(0, .ref (adL1 (200, 0, 0, 0))), (1, .int (zI m)), (2, .int (zI t)), (3, .int (zI v291))]) [1, 2, 3, 0] rfl ?_
                                exact ih178 v291 U2 ⟨by omega, C2, hUC2, by rw [e291, ← hC1l, lp_step (a := p) (n := Q 1 t 0) (by omega), hz5], by assumption, hC2x⟩ (by omega)
                              · refine G_aload_n (pc := 249) 0 0 dX7_setClock_249 rfl rfl ?_
                                refine G_aload (pc := 250) 4 dX7_setClock_250 rfl ?_
                                refine G_aload_n (pc := 252) 0 0 dX7_setClock_252 rfl rfl ?_
                                refine G_getf (pc := 253) fl_X7_39 dX7_setClock_253 pg_200 rfl ?_
                                refine G_iload_n (pc := 256) 2 2 dX7_setClock_256 rfl rfl ?_
                                refine G_aldA (pc := 257) (t := 5) rfl dX7_setClock_257 pg_207 ⟨by omega, by omega, by omega, by omega⟩ rfl ?_
                                refine G_iload_n (pc := 258) 3 3 dX7_setClock_258 rfl rfl ?_
                                refine G_ialdV (pc := 259) (U2 (11, t, p, 0) 1) dX7_setClock_259 (pg_208 (by first | assumption | omega | exact ⟨by omega, by omega⟩ | exact ⟨⟨by omega, by omega⟩, by omega⟩ | exact zWV.R (by assumption) _ _)) ⟨by omega, by omega, by omega, by omega⟩ rfl ?_
                                refine G_aldA (pc := 260) (t := 5) rfl dX7_setClock_260 (pg_203 (by first | assumption | omega | exact ⟨by omega, by omega⟩ | exact ⟨⟨by omega, by omega⟩, by omega⟩ | exact zWV.R (by assumption) _ _)) ⟨by omega, by omega, by omega, by omega⟩ rfl ?_
                                refine G_callVd (pc := 261) gk_X7_101 dX7_setClock_261 pg_200 rfl (c_X7_seen (by first | assumption | omega | exact ⟨by omega, by omega⟩ | exact ⟨⟨by omega, by omega⟩, by omega⟩ | exact zWV.R (by assumption) _ _) (by first | assumption | omega | exact ⟨by omega, by omega⟩ | exact ⟨⟨by omega, by omega⟩, by omega⟩ | exact zWV.R (by assumption) _ _) (by first | assumption | omega | exact ⟨by omega, by omega⟩ | exact ⟨⟨by omega, by omega⟩, by omega⟩ | exact zWV.R (by assumption) _ _) (by first | assumption | omega | exact ⟨by omega, by omega⟩ | exact ⟨⟨by omega, by omega⟩, by omega⟩ | exact zWV.R (by assumption) _ _) (by first | assumption | omega | exact ⟨by omega, by omega⟩ | exact ⟨⟨by omega, by omega⟩, by omega⟩ | exact zWV.R (by assumption) _ _)) rfl rfl (Nat.le_of_ble_eq_true rfl) ⟨⟨Nat.le_of_ble_eq_true rfl, Nat.le_of_ble_eq_true rfl⟩, (by show nc1 + 0 ≤ 3000; omega), (by show ns1 + 0 ≤ 55000; omega)⟩ ?_
                                refine G_iconst (pc := 264) dX7_setClock_264 ?_
                                refine G_icmp_eq (pc := 265) 291 dX7_setClock_265 (by decide) (by first | exact zWV.R (by assumption) _ _ | exact ⟨by omega, by omega⟩ | assumption | (subst_vars; first | exact zWV.R (by assumption) _ _ | exact ⟨by omega, by omega⟩)) (by first | exact zWV.R (by assumption) _ _ | exact ⟨by omega, by omega⟩ | assumption | (subst_vars; first | exact zWV.R (by assumption) _ _ | exact ⟨by omega, by omega⟩)) (fun c265 => ?_) (fun c265 => ?_)
                                · have hz5 : zv5 Q x t p C1 = C2 := by
                                    unfold zv5
                                    by_cases hk0 : C1 (8, t, 0, 0) 3 = 0
                                    · rw [if_pos hk0]; exact (hz2.1 hk0).symm
                                    · rw [if_neg hk0, ← hz2.2 hk0]
                                      exact zdo_stop _ (fun q => by
                                        have q1 : C2 (11, t, p, 0) 1 < Q 2 t p := q.1
                                        have q2 : ¬ C2 (14, t, p, C2 (11, t, p, 0) 1) 4 = 2 := q.2.1
                                        have q3 : C1 (8, t, 0, 0) 3 ≤ x - C2 (14, t, p, C2 (11, t, p, 0) 1) 2 := q.2.2
                                        rw [← c14] at q2 q3
                                        rw [← c11] at q1 q2 q3
                                        omega)
                                  refine G_iinc_e (pc := 291) 3 (fun zw => [(3, .int (zI zw)), (0, .ref (adL1 (200, 0, 0, 0))), (1, .int (zI m)), (2, .int (zI t)), (4, .ref (adL1 (203, t, p, 0)))]) dX7_setClock_291 rfl (by decide) (fun _ => rfl) (fun v291 e291 => ?_)
                                  refine G_goto (pc := 294) 178 dX7_setClock_294 (by decide) ?_
                                  refine G_perm (lv' := [(0, .ref (adL1 (200, 0, 0, 0))), (1, .int (zI m)), (2, .int (zI t)), (3, .int (zI v291))]) [1, 2, 3, 0] rfl ?_
                                  exact ih178 v291 U2 ⟨by omega, C2, hUC2, by rw [e291, ← hC1l, lp_step (a := p) (n := Q 1 t 0) (by omega), hz5], by assumption, hC2x⟩ (by omega)
                                · refine G_aload_n (pc := 268) 0 0 dX7_setClock_268 rfl rfl ?_
                                  refine G_aload (pc := 269) 4 dX7_setClock_269 rfl ?_
                                  refine G_aload_n (pc := 271) 0 0 dX7_setClock_271 rfl rfl ?_
                                  refine G_getf (pc := 272) fl_X7_39 dX7_setClock_272 pg_200 rfl ?_
                                  refine G_iload_n (pc := 275) 2 2 dX7_setClock_275 rfl rfl ?_
                                  refine G_aldA (pc := 276) (t := 5) rfl dX7_setClock_276 pg_207 ⟨by omega, by omega, by omega, by omega⟩ rfl ?_
                                  refine G_iload_n (pc := 277) 3 3 dX7_setClock_277 rfl rfl ?_
                                  refine G_dup2 (pc := 278) dX7_setClock_278 rfl rfl ?_
                                  refine G_ialdV (pc := 279) (U2 (11, t, p, 0) 1) dX7_setClock_279 (pg_208 (by first | assumption | omega | exact ⟨by omega, by omega⟩ | exact ⟨⟨by omega, by omega⟩, by omega⟩ | exact zWV.R (by assumption) _ _)) ⟨by omega, by omega, by omega, by omega⟩ rfl ?_
                                  refine G_dup_x2 (pc := 280) dX7_setClock_280 rfl rfl rfl ?_
                                  refine G_iconst (pc := 281) dX7_setClock_281 ?_
                                  refine G_iadd (pc := 282) dX7_setClock_282 ?_
                                  refine G_iast (pc := 283) dX7_setClock_283 (pg_208 (by first | assumption | omega | exact ⟨by omega, by omega⟩ | exact ⟨⟨by omega, by omega⟩, by omega⟩ | exact zWV.R (by assumption) _ _)) ⟨by omega, by omega, by omega, by omega⟩ (pp_208 (by first | assumption | omega | exact ⟨by omega, by omega⟩ | exact ⟨⟨by omega, by omega⟩, by omega⟩ | exact zWV.R (by assumption) _ _)) ?_
                                  refine G_nameV (fun V2_283 hV2_283 => ?_)
                                  have hVV2_283 : zWV Q V2_283 := by rw [hV2_283]; exact hVU2.s11 ⟨by omega, by omega⟩ (fun _ _ => by omega)
                                  have hzd : C2 (11, t, p, 0) 1 < Q 2 t p ∧ (¬ C2 (14, t, p, C2 (11, t, p, 0) 1) 4 = 2 ∧ C1 (8, t, 0, 0) 3 ≤ x - C2 (14, t, p, C2 (11, t, p, 0) 1) 2) := by
                                    rw [← c14, ← c14, ← c11]
                                    exact ⟨by omega, by omega, by omega⟩
                                  have hmm : (Q 2 t p - C2 (11, t, p, 0) 1).toNat = (Q 2 t p - (C2 (11, t, p, 0) 1 + 1)).toNat + 1 := by omega
                                  refine G_aldA (pc := 284) (t := 5) rfl dX7_setClock_284 (pg_203 (by first | assumption | omega | exact ⟨by omega, by omega⟩ | exact ⟨⟨by omega, by omega⟩, by omega⟩ | exact zWV.R (by assumption) _ _)) ⟨by omega, by omega, by omega, by omega⟩ rfl ?_
                                  refine G_callVv (pc := 285) gk_X7_153 dX7_setClock_285 pg_200 rfl (c_X7_drop (by first | assumption | omega | exact ⟨by omega, by omega⟩ | exact ⟨⟨by omega, by omega⟩, by omega⟩ | exact zWV.R (by assumption) _ _) (by first | assumption | omega | exact ⟨by omega, by omega⟩ | exact ⟨⟨by omega, by omega⟩, by omega⟩ | exact zWV.R (by assumption) _ _) (by first | assumption | omega | exact ⟨by omega, by omega⟩ | exact ⟨⟨by omega, by omega⟩, by omega⟩ | exact zWV.R (by assumption) _ _) (by first | assumption | omega | exact ⟨by omega, by omega⟩ | exact ⟨⟨by omega, by omega⟩, by omega⟩ | exact zWV.R (by assumption) _ _) (by first | assumption | omega | exact ⟨by omega, by omega⟩ | exact ⟨⟨by omega, by omega⟩, by omega⟩ | exact zWV.R (by assumption) _ _)) rfl rfl (Nat.le_of_ble_eq_true rfl) ⟨⟨Nat.le_of_ble_eq_true rfl, Nat.le_of_ble_eq_true rfl⟩, (by show nc1 + 0 ≤ 3000; omega), (by show ns1 + 0 ≤ 55000; omega)⟩ ?_
                                  refine G_nameV (fun V3_285 hV3_285 => ?_)
                                  have hVV3_285 : zWV Q V3_285 := by rw [hV3_285]; exact zdp_V hP hVV2_283
                                  have hUn : V3_285 = nzA Q (zst (zst C2 (14, t, p, C2 (11, t, p, 0) 1) 5 1) (11, t, p, 0) 1 (C2 (11, t, p, 0) 1 + 1)) := by
                                    rw [hV3_285, hV2_283, c11, hUC2, ← nzA_st ⟨by simp, by simp, by simp⟩, zdp_nz hP ht hp ⟨by omega, by omega⟩, zst_cm (V := C2) (k := (11, t, p, 0)) (k' := (14, t, p, C2 (11, t, p, 0) 1)) (by simp)]
                                  have h1111 : V3_285 (11, t, p, 0) 1 = C2 (11, t, p, 0) 1 + 1 := by rw [hUn, nzA_n ⟨by simp, by simp⟩, zst_s]
                                  refine G_goto (pc := 288) 199 dX7_setClock_288 (by decide) ?_
                                  refine G_perm (lv' := [(0, .ref (adL1 (200, 0, 0, 0))), (1, .int (zI m)), (2, .int (zI t)), (3, .int (zI p)), (4, .ref (adL1 (203, t, p, 0)))]) [0, 1, 2, 3, 4] rfl ?_
                                  exact ih199  V3_285 ⟨zst (zst C2 (14, t, p, C2 (11, t, p, 0) 1) 5 1) (11, t, p, 0) 1 (C2 (11, t, p, 0) 1 + 1), hUn, ⟨fun q => by omega, fun q => by rw [← hz2.2 q, hmm, zst_s, zdo_go _ hzd]⟩, by assumption, by rw [zst_k _ _ _ _ (by simp), zst_k _ _ _ _ (by simp)]; exact hC2x, by rw [zst_k _ _ _ _ (by simp), zst_k _ _ _ _ (by simp)]; exact hC28⟩ (by omega)
                      refine G_perm (lv' := [(0, .ref (adL1 (200, 0, 0, 0))), (1, .int (zI m)), (2, .int (zI t)), (3, .int (zI p)), (4, .ref (adL1 (203, t, p, 0)))]) [1, 2, 3, 4, 0] rfl ?_
                      exact L199 _  U1 ⟨C1, hUC1, ⟨fun _ => rfl, fun _ => rfl⟩, by assumption, hC1x, rfl⟩ (Nat.lt_succ_self _)
                refine G_perm (lv' := [(0, .ref (adL1 (200, 0, 0, 0))), (1, .int (zI m)), (2, .int (zI t)), (3, .int (zI v177))]) [1, 2, 3, 0] rfl ?_
                exact L178 _ v177 U ⟨by omega, C, hUC, by rw [e177], by assumption, hCx⟩ (Nat.lt_succ_self _)
          refine G_perm (lv' := [(0, .ref (adL1 (200, 0, 0, 0))), (1, .int (zI m)), (2, .int (zI v166))]) [1, 2, 0] rfl ?_
          exact L167 _ v166 T ⟨by omega, T, (nzA_id hsT).symm, by rw [e166], by assumption, hT6⟩ (Nat.lt_succ_self _)
        · refine G_iconst (pc := 41) dX7_setClock_41 ?_
          refine G_istore_ne (pc := 42) 3 (fun zw => [(3, .int (zI zw)), (0, .ref (adL1 (200, 0, 0, 0))), (1, .int (zI m)), (2, .int (zI g))]) dX7_setClock_42 rfl (by decide) (fun _ => rfl) (fun v42 e42 => ?_)
          have hg : 0 ≤ g ∧ g < Q 3 0 0 := ⟨by omega, by omega⟩
          have hG := hP.g hg
          have hN := hP.t hG
          have L43 : ∀ (n : Nat) (m2 : Int) (p : Int) (adL2 : zK → Nat) (nc2 ns2 : Nat) (T2 : zS), (((0 ≤ p ∧ p ≤ Q 1 (Q 4 g 0) 0) ∧ m ≤ m2 ∧ m2 ≤ m + 80 * p) ∧ lp (zv2 Q g) p (Q 1 (Q 4 g 0) 0) (T2, m2 - m) = lp (zv2 Q g) 0 (Q 1 (Q 4 g 0) 0) (T, 0) ∧ (zWV Q T2 ∧ zSet Q T2) ∧ T2 (0, 0, 0, 0) 6 = x ∧ (∀ k : zK, k.1 ≠ 222 → k.1 ≠ 223 → k.1 ≠ 230 → k.1 ≠ 231 → adL2 k = ad k) ∧ ((nc2 : Int) ≤ 2 * m2 + 2 * (T2 (1, 0, 0, 0) 1 - D (1, 0, 0, 0) 1) ∧ ((ns2 : Int) ≤ 10 * m2 + 206 * (T2 (1, 0, 0, 0) 1 - D (1, 0, 0, 0) 1) ∨ (T2 (1, 0, 0, 0) 1 = 200 ∧ (ns2 : Int) ≤ 10 * m2 + 206 * (T2 (1, 0, 0, 0) 1 - D (1, 0, 0, 0) 1) + 206)) ∧ D (1, 0, 0, 0) 1 ≤ T2 (1, 0, 0, 0) 1 ∧ T2 (1, 0, 0, 0) 1 ≤ 200)) → (Q 1 (Q 4 g 0) 0 - p).toNat < n → G Γ (zRm 10 3000 55000) cX7_setClock 6 RX7 adL2 (pm (z_d Γ) adL2 Q T2 X) nc2 ns2 43 [(0, .ref (adL2 (200, 0, 0, 0))), (1, .int (zI m2)), (2, .int (zI g)), (3, .int (zI p))] [] := by
            intro n
            induction n with
            | zero => intro m2 p adL2 nc2 ns2 T2 _ hn; omega
            | succ n ih43 =>
              intro m2 p adL2 nc2 ns2 T2 hi43 hn43
              obtain ⟨hp0, hlp, ⟨hVT2, hsT2⟩, hT26, hadL2, hc2⟩ := hi43
              refine G_iload_n (pc := 43) 3 3 dX7_setClock_43 rfl rfl ?_
              refine G_aload_n (pc := 44) 0 0 dX7_setClock_44 rfl rfl ?_
              refine G_getf (pc := 45) fl_X7_25 dX7_setClock_45 pg_200 rfl ?_
              refine G_aload_n (pc := 48) 0 0 dX7_setClock_48 rfl rfl ?_
              refine G_getf (pc := 49) fl_X7_51 dX7_setClock_49 pg_200 rfl ?_
              refine G_iload_n (pc := 52) 2 2 dX7_setClock_52 rfl rfl ?_
              refine G_ialdV (pc := 53) (Q 4 g 0) dX7_setClock_53 pg_213 ⟨by omega, by omega, by omega, by omega⟩ (hVT2.of (by first | assumption | omega | exact ⟨by omega, by omega⟩ | exact ⟨⟨by omega, by omega⟩, by omega⟩ | exact zWV.R (by assumption) _ _)) ?_
              refine G_aldA (pc := 54) (t := 7) rfl dX7_setClock_54 pg_201 ⟨by omega, by omega, by omega, by omega⟩ rfl ?_
              refine G_alenV (pc := 55) (t := 6) (Q 1 (Q 4 g 0) 0) rfl dX7_setClock_55 (pg_202 (by first | assumption | omega | exact ⟨by omega, by omega⟩ | exact ⟨⟨by omega, by omega⟩, by omega⟩ | exact zWV.R (by assumption) _ _)) (by omega) ?_
              refine G_icmp_ge (pc := 56) 159 dX7_setClock_56 (by decide) (by first | exact zWV.R (by assumption) _ _ | exact ⟨by omega, by omega⟩ | assumption | (subst_vars; first | exact zWV.R (by assumption) _ _ | exact ⟨by omega, by omega⟩)) (by first | exact zWV.R (by assumption) _ _ | exact ⟨by omega, by omega⟩ | assumption | (subst_vars; first | exact zWV.R (by assumption) _ _ | exact ⟨by omega, by omega⟩)) (fun c56 => ?_) (fun c56 => ?_)
              · refine G_iinc_e (pc := 159) 2 (fun zw => [(2, .int (zI zw)), (0, .ref (adL2 (200, 0, 0, 0))), (1, .int (zI m2)), (3, .int (zI p))]) dX7_setClock_159 rfl (by decide) (fun _ => rfl) (fun v159 e159 => ?_)
                refine G_goto (pc := 162) 33 dX7_setClock_162 (by decide) ?_
                refine G_perm (lv' := [(0, .ref (adL2 (200, 0, 0, 0))), (1, .int (zI m2)), (2, .int (zI v159))]) [1, 2, 0] rfl ?_
                exact ih33 m2 v159 adL2 nc2 ns2 T2 ⟨by omega, by rw [e159, ← hlg, lp_step (a := g) (n := Q 3 0 0) (by omega)]; rw [show zv3 Q g (T, m) = (T2, m2) from by unfold zv3; dsimp only; rw [← hlp, lp_end (by omega)]; exact Prod.ext rfl (by show m + (m2 - m) = m2; omega)], ⟨by assumption, hsT2⟩, hT26, hadL2, hc2⟩ (by omega)
              · refine G_iconst (pc := 59) dX7_setClock_59 ?_
                refine G_istore_e (pc := 60) (fun zw => [(4, .int (zI zw)), (0, .ref (adL2 (200, 0, 0, 0))), (1, .int (zI m2)), (2, .int (zI g)), (3, .int (zI p))]) dX7_setClock_60 (by decide) (fun _ => rfl) (fun v60 e60 => ?_)
                have hp : 0 ≤ p ∧ p < Q 1 (Q 4 g 0) 0 := ⟨by omega, by omega⟩
                have hM := hP.m hG hp
                have L62 : ∀ (n : Nat) (m3 : Int) (o : Int) (adL3 : zK → Nat) (nc3 ns3 : Nat) (T3 : zS), (((0 ≤ o ∧ o ≤ Q 2 (Q 4 g 0) p) ∧ m2 ≤ m3 ∧ m3 ≤ m2 + o) ∧ lp (zv1 g p) o (Q 2 (Q 4 g 0) p) (T3, m3 - m) = lp (zv1 g p) 0 (Q 2 (Q 4 g 0) p) (T2, m2 - m) ∧ (zWV Q T3 ∧ zSet Q T3) ∧ T3 (0, 0, 0, 0) 6 = x ∧ (∀ k : zK, k.1 ≠ 222 → k.1 ≠ 223 → k.1 ≠ 230 → k.1 ≠ 231 → adL3 k = ad k) ∧ ((nc3 : Int) ≤ 2 * m3 + 2 * (T3 (1, 0, 0, 0) 1 - D (1, 0, 0, 0) 1) ∧ ((ns3 : Int) ≤ 10 * m3 + 206 * (T3 (1, 0, 0, 0) 1 - D (1, 0, 0, 0) 1) ∨ (T3 (1, 0, 0, 0) 1 = 200 ∧ (ns3 : Int) ≤ 10 * m3 + 206 * (T3 (1, 0, 0, 0) 1 - D (1, 0, 0, 0) 1) + 206)) ∧ D (1, 0, 0, 0) 1 ≤ T3 (1, 0, 0, 0) 1 ∧ T3 (1, 0, 0, 0) 1 ≤ 200)) → (Q 2 (Q 4 g 0) p - o).toNat < n → G Γ (zRm 10 3000 55000) cX7_setClock 6 RX7 adL3 (pm (z_d Γ) adL3 Q T3 X) nc3 ns3 62 [(0, .ref (adL3 (200, 0, 0, 0))), (1, .int (zI m3)), (2, .int (zI g)), (3, .int (zI p)), (4, .int (zI o))] [] := by
                  intro n
                  induction n with
                  | zero => intro m3 o adL3 nc3 ns3 T3 _ hn; omega
                  | succ n ih62 =>
                    intro m3 o adL3 nc3 ns3 T3 hi62 hn62
                    obtain ⟨ho0, hlo, ⟨hVT3, hsT3⟩, hT36, hadL3, hc3⟩ := hi62
                    have hk3 := hVT3.W.k
                    have hcc3 := hVT3.W.c g p o
                    have hw3 := hVT3.W.w g p o
                    refine G_iload (pc := 62) 4 dX7_setClock_62 rfl ?_
                    refine G_aload_n (pc := 64) 0 0 dX7_setClock_64 rfl rfl ?_
                    refine G_getf (pc := 65) fl_X7_25 dX7_setClock_65 pg_200 rfl ?_
                    refine G_aload_n (pc := 68) 0 0 dX7_setClock_68 rfl rfl ?_
                    refine G_getf (pc := 69) fl_X7_51 dX7_setClock_69 pg_200 rfl ?_
                    refine G_iload_n (pc := 72) 2 2 dX7_setClock_72 rfl rfl ?_
                    refine G_ialdV (pc := 73) (Q 4 g 0) dX7_setClock_73 pg_213 ⟨by omega, by omega, by omega, by omega⟩ (hVT3.of (by first | assumption | omega | exact ⟨by omega, by omega⟩ | exact ⟨⟨by omega, by omega⟩, by omega⟩ | exact zWV.R (by assumption) _ _)) ?_
                    refine G_aldA (pc := 74) (t := 7) rfl dX7_setClock_74 pg_201 ⟨by omega, by omega, by omega, by omega⟩ rfl ?_
                    refine G_iload_n (pc := 75) 3 3 dX7_setClock_75 rfl rfl ?_
                    refine G_aldA (pc := 76) (t := 6) rfl dX7_setClock_76 (pg_202 (by first | assumption | omega | exact ⟨by omega, by omega⟩ | exact ⟨⟨by omega, by omega⟩, by omega⟩ | exact zWV.R (by assumption) _ _)) ⟨by omega, by omega, by omega, by omega⟩ rfl ?_
                    refine G_alenV (pc := 77) (t := 5) (Q 2 (Q 4 g 0) p) rfl dX7_setClock_77 (pg_203 (by first | assumption | omega | exact ⟨by omega, by omega⟩ | exact ⟨⟨by omega, by omega⟩, by omega⟩ | exact zWV.R (by assumption) _ _)) (by omega) ?_
                    refine G_icmp_ge (pc := 78) 153 dX7_setClock_78 (by decide) (by first | exact zWV.R (by assumption) _ _ | exact ⟨by omega, by omega⟩ | assumption | (subst_vars; first | exact zWV.R (by assumption) _ _ | exact ⟨by omega, by omega⟩)) (by first | exact zWV.R (by assumption) _ _ | exact ⟨by omega, by omega⟩ | assumption | (subst_vars; first | exact zWV.R (by assumption) _ _ | exact ⟨by omega, by omega⟩)) (fun c78 => ?_) (fun c78 => ?_)
                    · refine G_iinc_e (pc := 153) 3 (fun zw => [(3, .int (zI zw)), (0, .ref (adL3 (200, 0, 0, 0))), (1, .int (zI m3)), (2, .int (zI g)), (4, .int (zI o))]) dX7_setClock_153 rfl (by decide) (fun _ => rfl) (fun v153 e153 => ?_)
                      refine G_goto (pc := 156) 43 dX7_setClock_156 (by decide) ?_
                      refine G_perm (lv' := [(0, .ref (adL3 (200, 0, 0, 0))), (1, .int (zI m3)), (2, .int (zI g)), (3, .int (zI v153))]) [1, 2, 3, 0] rfl ?_
                      exact ih43 m3 v153 adL3 nc3 ns3 T3 ⟨by omega, by rw [e153, ← hlp, lp_step (a := p) (n := Q 1 (Q 4 g 0) 0) (by omega)]; rw [show zv2 Q g p (T2, m2 - m) = (T3, m3 - m) from by unfold zv2; rw [← hlo, lp_end (by omega)]], ⟨by assumption, hsT3⟩, hT36, hadL3, hc3⟩ (by omega)
                    · have ho : 0 ≤ o ∧ o < Q 2 (Q 4 g 0) p := ⟨by omega, by omega⟩
                      refine G_aload_n (pc := 81) 0 0 dX7_setClock_81 rfl rfl ?_
                      refine G_getf (pc := 82) fl_X7_25 dX7_setClock_82 pg_200 rfl ?_
                      refine G_aload_n (pc := 85) 0 0 dX7_setClock_85 rfl rfl ?_
                      refine G_getf (pc := 86) fl_X7_51 dX7_setClock_86 pg_200 rfl ?_
                      refine G_iload_n (pc := 89) 2 2 dX7_setClock_89 rfl rfl ?_
                      refine G_ialdV (pc := 90) (Q 4 g 0) dX7_setClock_90 pg_213 ⟨by omega, by omega, by omega, by omega⟩ (hVT3.of (by first | assumption | omega | exact ⟨by omega, by omega⟩ | exact ⟨⟨by omega, by omega⟩, by omega⟩ | exact zWV.R (by assumption) _ _)) ?_
                      refine G_aldA (pc := 91) (t := 7) rfl dX7_setClock_91 pg_201 ⟨by omega, by omega, by omega, by omega⟩ rfl ?_
                      refine G_iload_n (pc := 92) 3 3 dX7_setClock_92 rfl rfl ?_
                      refine G_aldA (pc := 93) (t := 6) rfl dX7_setClock_93 (pg_202 (by first | assumption | omega | exact ⟨by omega, by omega⟩ | exact ⟨⟨by omega, by omega⟩, by omega⟩ | exact zWV.R (by assumption) _ _)) ⟨by omega, by omega, by omega, by omega⟩ rfl ?_
                      refine G_iload (pc := 94) 4 dX7_setClock_94 rfl ?_
                      refine G_aldA (pc := 96) (t := 5) rfl dX7_setClock_96 (pg_203 (by first | assumption | omega | exact ⟨by omega, by omega⟩ | exact ⟨⟨by omega, by omega⟩, by omega⟩ | exact zWV.R (by assumption) _ _)) ⟨by omega, by omega, by omega, by omega⟩ rfl ?_
                      refine G_astore (pc := 97) [(5, .ref (adL3 (204, Q 4 g 0, p, o))), (0, .ref (adL3 (200, 0, 0, 0))), (1, .int (zI m3)), (2, .int (zI g)), (3, .int (zI p)), (4, .int (zI o))] dX7_setClock_97 (by decide) rfl ?_
                      refine G_aload (pc := 99) 0 dX7_setClock_99 rfl ?_
                      refine G_iconst (pc := 101) dX7_setClock_101 ?_
                      refine G_iconst (pc := 102) dX7_setClock_102 ?_
                      refine G_iload_n (pc := 103) 2 3 dX7_setClock_103 rfl rfl ?_
                      refine G_imul (pc := 104) dX7_setClock_104 ?_
                      refine G_iadd (pc := 105) dX7_setClock_105 ?_
                      refine G_ialdV (pc := 106) (T3 (19, g, p, 0) o) dX7_setClock_106 (pg_204 (by first | assumption | omega | exact ⟨by omega, by omega⟩ | exact ⟨⟨by omega, by omega⟩, by omega⟩ | exact zWV.R (by assumption) _ _)) ⟨by omega, by omega, by omega, by omega⟩ (zpr_5 (by first | assumption | omega | exact ⟨by omega, by omega⟩ | exact ⟨⟨by omega, by omega⟩, by omega⟩ | exact zWV.R (by assumption) _ _) rfl) ?_
                      refine G_iconst (pc := 107) dX7_setClock_107 ?_
                      refine G_icmp_ne (pc := 108) 147 dX7_setClock_108 (by decide) (by first | exact zWV.R (by assumption) _ _ | exact ⟨by omega, by omega⟩ | assumption | (subst_vars; first | exact zWV.R (by assumption) _ _ | exact ⟨by omega, by omega⟩)) (by first | exact zWV.R (by assumption) _ _ | exact ⟨by omega, by omega⟩ | assumption | (subst_vars; first | exact zWV.R (by assumption) _ _ | exact ⟨by omega, by omega⟩)) (fun c108 => ?_) (fun c108 => ?_)
                      · have hz1 : zv1 g p o (T3, m3 - m) = (T3, m3 - m) := by
                          first
                          | exact if_neg (fun q => by have q1 : T3 (19, g, p, 0) o = 1 := q.1; have q2 : T3 (0, 0, 0, 0) 8 ≤ T3 (0, 0, 0, 0) 6 - T3 (21, g, p, 0) o := q.2; omega)
                          | (rw [show zv1 g p o (T3, m3 - m) = (zB T3 g p o, m3 - m + 1) from if_pos ⟨by omega, by omega⟩, hT3]; exact Prod.ext rfl (by show m3 - m + 1 = v144 - m; omega))
                        have hs147 : zSet Q T3 := by first | exact hsT3 | (rw [hT3]; exact zB_set hsT3 hg hp ho (by omega))
                        have h6147 : T3 (0, 0, 0, 0) 6 = x := by first | exact hT36 | (rw [hT3, zB_k rfl]; exact hT36)
                        have hc147 : True := trivial
                        refine G_iinc_e (pc := 147) 5 (fun zw => [(4, .int (zI zw)), (5, .ref (adL3 (204, Q 4 g 0, p, o))), (0, .ref (adL3 (200, 0, 0, 0))), (1, .int (zI m3)), (2, .int (zI g)), (3, .int (zI p))]) dX7_setClock_147 rfl (by decide) (fun _ => rfl) (fun v147 e147 => ?_)
                        refine G_goto (pc := 150) 62 dX7_setClock_150 (by decide) ?_
                        refine G_perm (lv' := [(0, .ref (adL3 (200, 0, 0, 0))), (1, .int (zI m3)), (2, .int (zI g)), (3, .int (zI p)), (4, .int (zI v147))]) [2, 3, 4, 5, 0] rfl ?_
                        exact ih62 m3 v147 adL3 nc3 ns3 T3 ⟨by omega, by rw [e147, ← hlo, lp_step (a := o) (n := Q 2 (Q 4 g 0) p) (by omega), hz1], ⟨by assumption, hs147⟩, h6147, (fun k a b c d => by first | exact hadL3 k a b c d | exact (hadL3 k a b c d).trans (hadL3 k a b c d)), by omega, by omega, by omega, by omega⟩ (by omega)
                      · refine G_aload_n (pc := 111) 0 1 dX7_setClock_111 rfl rfl ?_
                        refine G_getf (pc := 112) fl_X7_119 dX7_setClock_112 pg_200 rfl ?_
                        refine G_aload (pc := 115) 0 dX7_setClock_115 rfl ?_
                        refine G_bipush (pc := 117) dX7_setClock_117 (by decide) ?_
                        refine G_iconst (pc := 119) dX7_setClock_119 ?_
                        refine G_iload_n (pc := 120) 2 3 dX7_setClock_120 rfl rfl ?_
                        refine G_imul (pc := 121) dX7_setClock_121 ?_
                        refine G_iadd (pc := 122) dX7_setClock_122 ?_
                        refine G_ialdV (pc := 123) (T3 (21, g, p, 0) o) dX7_setClock_123 (pg_204 (by first | assumption | omega | exact ⟨by omega, by omega⟩ | exact ⟨⟨by omega, by omega⟩, by omega⟩ | exact zWV.R (by assumption) _ _)) ⟨by omega, by omega, by omega, by omega⟩ (zpr_7 (by first | assumption | omega | exact ⟨by omega, by omega⟩ | exact ⟨⟨by omega, by omega⟩, by omega⟩ | exact zWV.R (by assumption) _ _) rfl) ?_
                        refine G_isub (pc := 124) dX7_setClock_124 ?_
                        refine G_aload_n (pc := 125) 0 1 dX7_setClock_125 rfl rfl ?_
                        refine G_getf (pc := 126) fl_X7_20 dX7_setClock_126 pg_200 rfl ?_
                        refine G_icmp_ge (pc := 129) 135 dX7_setClock_129 (by decide) (by first | exact zWV.R (by assumption) _ _ | exact ⟨by omega, by omega⟩ | assumption | (subst_vars; first | exact zWV.R (by assumption) _ _ | exact ⟨by omega, by omega⟩)) (by first | exact zWV.R (by assumption) _ _ | exact ⟨by omega, by omega⟩ | assumption | (subst_vars; first | exact zWV.R (by assumption) _ _ | exact ⟨by omega, by omega⟩)) (fun c129 => ?_) (fun c129 => ?_)
                        · refine G_aload_n (pc := 135) 0 1 dX7_setClock_135 rfl rfl ?_
                          refine G_iload_n (pc := 136) 2 3 dX7_setClock_136 rfl rfl ?_
                          refine G_iload_n (pc := 137) 3 4 dX7_setClock_137 rfl rfl ?_
                          refine G_iload (pc := 138) 5 dX7_setClock_138 rfl ?_
                          have h20 : 1 ≤ T3 (20, g, p, 0) o := by omega
                          rcases (show 200 ≤ T3 (1, 0, 0, 0) 1 ∨ ¬ 3 ≤ T3 (20, g, p, 0) o ∧ ¬ 200 ≤ T3 (1, 0, 0, 0) 1 ∨ 3 ≤ T3 (20, g, p, 0) o ∧ ¬ 200 ≤ T3 (1, 0, 0, 0) 1 by omega) with hfull | ⟨h3, hfull⟩ | ⟨h3, hfull⟩
                          · refine G_callV (pc := 140) gk_X7_172 dX7_setClock_140 pg_200 rfl (c_X7_nack_a (g := g) (p := p) (o := o) hP hVT3 hg hp ho h20 hX2 hfull) rfl rfl (Nat.le_of_ble_eq_true rfl) ⟨⟨(by exact Nat.le_of_ble_eq_true rfl), (by exact Nat.le_of_ble_eq_true rfl)⟩, (by show nc3 + 2 ≤ 3000; omega), (by show ns3 + 10 ≤ 55000; omega)⟩ (fun vx ad1 Mx hpo => ?_)
                            obtain ⟨rfl, had1, rfl⟩ := hpo
                            show G Γ _ _ _ _ _ _ (nc3 + 2) (ns3 + 10) 143 [(5, .ref (adL3 (204, Q 4 g 0, p, o))), (0, .ref (adL3 (200, 0, 0, 0))), (1, .int (zI m3)), (2, .int (zI g)), (3, .int (zI p)), (4, .int (zI o))] [.int (zI (zgbr T3 g p o (T3 (0, 0, 0, 0) 6) (T3 (0, 0, 0, 0) 7)))]
                            rw [← had1 (204, Q 4 g 0, p, o) (by simp) (by simp) (by simp) (by simp)]
                            rw [← had1 (200, 0, 0, 0) (by simp) (by simp) (by simp) (by simp)]
                            refine G_nameV (fun V4_140 hV4_140 => ?_)
                            have hVV4_140 : zWV Q V4_140 := by rw [hV4_140]; exact zB_V hVT3 (by first | assumption | omega | exact ⟨by omega, by omega⟩ | exact ⟨⟨by omega, by omega⟩, by omega⟩ | exact zWV.R (by assumption) _ _) (by first | assumption | omega | exact ⟨by omega, by omega⟩ | exact ⟨⟨by omega, by omega⟩, by omega⟩ | exact zWV.R (by assumption) _ _) (by first | assumption | omega | exact ⟨by omega, by omega⟩ | exact ⟨⟨by omega, by omega⟩, by omega⟩ | exact zWV.R (by assumption) _ _)
                            have hgr := zB_g (V := T3) (g := g) (p := p) (o := o)
                            rw [← hV4_140] at hgr
                            obtain ⟨hgr1, hgr2, hgr3⟩ := hgr
                            first | have hg1 := hgr1 hfull | have hg1 := hgr2 hfull h3 | have hg1 := hgr3 hfull h3
                            clear hgr1 hgr2 hgr3
                            refine G_pop (pc := 143) dX7_setClock_143 rfl ?_
                            refine G_iinc_e (pc := 144) 2 (fun zw => [(1, .int (zI zw)), (5, .ref (ad1 (204, Q 4 g 0, p, o))), (0, .ref (ad1 (200, 0, 0, 0))), (2, .int (zI g)), (3, .int (zI p)), (4, .int (zI o))]) dX7_setClock_144 rfl (by decide) (fun _ => rfl) (fun v144 e144 => ?_)
                            have hz1 : zv1 g p o (T3, m3 - m) = (V4_140, v144 - m) := by
                              first
                              | exact if_neg (fun q => by have q1 : T3 (19, g, p, 0) o = 1 := q.1; have q2 : T3 (0, 0, 0, 0) 8 ≤ T3 (0, 0, 0, 0) 6 - T3 (21, g, p, 0) o := q.2; omega)
                              | (rw [show zv1 g p o (T3, m3 - m) = (zB T3 g p o, m3 - m + 1) from if_pos ⟨by omega, by omega⟩, hV4_140]; exact Prod.ext rfl (by show m3 - m + 1 = v144 - m; omega))
                            have hs147 : zSet Q V4_140 := by first | exact hsT3 | (rw [hV4_140]; exact zB_set hsT3 hg hp ho (by omega))
                            have h6147 : V4_140 (0, 0, 0, 0) 6 = x := by first | exact hT36 | (rw [hV4_140, zB_k rfl]; exact hT36)
                            have hc147 : True := trivial
                            refine G_iinc_e (pc := 147) 5 (fun zw => [(4, .int (zI zw)), (1, .int (zI v144)), (5, .ref (ad1 (204, Q 4 g 0, p, o))), (0, .ref (ad1 (200, 0, 0, 0))), (2, .int (zI g)), (3, .int (zI p))]) dX7_setClock_147 rfl (by decide) (fun _ => rfl) (fun v147 e147 => ?_)
                            refine G_goto (pc := 150) 62 dX7_setClock_150 (by decide) ?_
                            refine G_perm (lv' := [(0, .ref (ad1 (200, 0, 0, 0))), (1, .int (zI v144)), (2, .int (zI g)), (3, .int (zI p)), (4, .int (zI v147))]) [3, 1, 4, 5, 0] rfl ?_
                            exact ih62 v144 v147 ad1 (nc3 + 2) (ns3 + 10) V4_140 ⟨by omega, by rw [e147, ← hlo, lp_step (a := o) (n := Q 2 (Q 4 g 0) p) (by omega), hz1], ⟨by assumption, hs147⟩, h6147, (fun k a b c d => by first | exact had1 k a b c d | exact (had1 k a b c d).trans (hadL3 k a b c d)), by omega, by omega, by omega, by omega⟩ (by omega)
                          · refine G_callV (pc := 140) gk_X7_172 dX7_setClock_140 pg_200 rfl (c_X7_nack_b (g := g) (p := p) (o := o) hP hVT3 hg hp ho h20 hX2 h3) rfl rfl (Nat.le_of_ble_eq_true rfl) ⟨⟨(by exact Nat.le_of_ble_eq_true rfl), (by exact Nat.le_of_ble_eq_true rfl)⟩, (by show nc3 + 2 ≤ 3000; omega), (by show ns3 + 206 ≤ 55000; omega)⟩ (fun vx ad2 Mx hpo => ?_)
                            obtain ⟨rfl, had2, rfl⟩ := hpo
                            show G Γ _ _ _ _ _ _ (nc3 + 2) (ns3 + 206) 143 [(5, .ref (adL3 (204, Q 4 g 0, p, o))), (0, .ref (adL3 (200, 0, 0, 0))), (1, .int (zI m3)), (2, .int (zI g)), (3, .int (zI p)), (4, .int (zI o))] [.int (zI (zgbr T3 g p o (T3 (0, 0, 0, 0) 6) (T3 (0, 0, 0, 0) 7)))]
                            rw [← had2 (204, Q 4 g 0, p, o) (by simp) (by simp) (by simp) (by simp)]
                            rw [← had2 (200, 0, 0, 0) (by simp) (by simp) (by simp) (by simp)]
                            refine G_nameV (fun V5_140 hV5_140 => ?_)
                            have hVV5_140 : zWV Q V5_140 := by rw [hV5_140]; exact zB_V hVT3 (by first | assumption | omega | exact ⟨by omega, by omega⟩ | exact ⟨⟨by omega, by omega⟩, by omega⟩ | exact zWV.R (by assumption) _ _) (by first | assumption | omega | exact ⟨by omega, by omega⟩ | exact ⟨⟨by omega, by omega⟩, by omega⟩ | exact zWV.R (by assumption) _ _) (by first | assumption | omega | exact ⟨by omega, by omega⟩ | exact ⟨⟨by omega, by omega⟩, by omega⟩ | exact zWV.R (by assumption) _ _)
                            have hgr := zB_g (V := T3) (g := g) (p := p) (o := o)
                            rw [← hV5_140] at hgr
                            obtain ⟨hgr1, hgr2, hgr3⟩ := hgr
                            first | have hg1 := hgr1 hfull | have hg1 := hgr2 hfull h3 | have hg1 := hgr3 hfull h3
                            clear hgr1 hgr2 hgr3
                            refine G_pop (pc := 143) dX7_setClock_143 rfl ?_
                            refine G_iinc_e (pc := 144) 2 (fun zw => [(1, .int (zI zw)), (5, .ref (ad2 (204, Q 4 g 0, p, o))), (0, .ref (ad2 (200, 0, 0, 0))), (2, .int (zI g)), (3, .int (zI p)), (4, .int (zI o))]) dX7_setClock_144 rfl (by decide) (fun _ => rfl) (fun v144 e144 => ?_)
                            have hz1 : zv1 g p o (T3, m3 - m) = (V5_140, v144 - m) := by
                              first
                              | exact if_neg (fun q => by have q1 : T3 (19, g, p, 0) o = 1 := q.1; have q2 : T3 (0, 0, 0, 0) 8 ≤ T3 (0, 0, 0, 0) 6 - T3 (21, g, p, 0) o := q.2; omega)
                              | (rw [show zv1 g p o (T3, m3 - m) = (zB T3 g p o, m3 - m + 1) from if_pos ⟨by omega, by omega⟩, hV5_140]; exact Prod.ext rfl (by show m3 - m + 1 = v144 - m; omega))
                            have hs147 : zSet Q V5_140 := by first | exact hsT3 | (rw [hV5_140]; exact zB_set hsT3 hg hp ho (by omega))
                            have h6147 : V5_140 (0, 0, 0, 0) 6 = x := by first | exact hT36 | (rw [hV5_140, zB_k rfl]; exact hT36)
                            have hc147 : True := trivial
                            refine G_iinc_e (pc := 147) 5 (fun zw => [(4, .int (zI zw)), (1, .int (zI v144)), (5, .ref (ad2 (204, Q 4 g 0, p, o))), (0, .ref (ad2 (200, 0, 0, 0))), (2, .int (zI g)), (3, .int (zI p))]) dX7_setClock_147 rfl (by decide) (fun _ => rfl) (fun v147 e147 => ?_)
                            refine G_goto (pc := 150) 62 dX7_setClock_150 (by decide) ?_
                            refine G_perm (lv' := [(0, .ref (ad2 (200, 0, 0, 0))), (1, .int (zI v144)), (2, .int (zI g)), (3, .int (zI p)), (4, .int (zI v147))]) [3, 1, 4, 5, 0] rfl ?_
                            exact ih62 v144 v147 ad2 (nc3 + 2) (ns3 + 206) V5_140 ⟨by omega, by rw [e147, ← hlo, lp_step (a := o) (n := Q 2 (Q 4 g 0) p) (by omega), hz1], ⟨by assumption, hs147⟩, h6147, (fun k a b c d => by first | exact had2 k a b c d | exact (had2 k a b c d).trans (hadL3 k a b c d)), by omega, by omega, by omega, by omega⟩ (by omega)
                          · refine G_callV (pc := 140) gk_X7_172 dX7_setClock_140 pg_200 rfl (c_X7_nack (g := g) (p := p) (o := o) hP hVT3 hg hp ho h20 hX2 ) rfl rfl (Nat.le_of_ble_eq_true rfl) ⟨⟨(by exact Nat.le_of_ble_eq_true rfl), (by exact Nat.le_of_ble_eq_true rfl)⟩, (by show nc3 + 4 ≤ 3000; omega), (by show ns3 + 412 ≤ 55000; omega)⟩ (fun vx ad3 Mx hpo => ?_)
                            obtain ⟨rfl, had3, rfl⟩ := hpo
                            show G Γ _ _ _ _ _ _ (nc3 + 4) (ns3 + 412) 143 [(5, .ref (adL3 (204, Q 4 g 0, p, o))), (0, .ref (adL3 (200, 0, 0, 0))), (1, .int (zI m3)), (2, .int (zI g)), (3, .int (zI p)), (4, .int (zI o))] [.int (zI (zgbr T3 g p o (T3 (0, 0, 0, 0) 6) (T3 (0, 0, 0, 0) 7)))]
                            rw [← had3 (204, Q 4 g 0, p, o) (by simp) (by simp) (by simp) (by simp)]
                            rw [← had3 (200, 0, 0, 0) (by simp) (by simp) (by simp) (by simp)]
                            refine G_nameV (fun V6_140 hV6_140 => ?_)
                            have hVV6_140 : zWV Q V6_140 := by rw [hV6_140]; exact zB_V hVT3 (by first | assumption | omega | exact ⟨by omega, by omega⟩ | exact ⟨⟨by omega, by omega⟩, by omega⟩ | exact zWV.R (by assumption) _ _) (by first | assumption | omega | exact ⟨by omega, by omega⟩ | exact ⟨⟨by omega, by omega⟩, by omega⟩ | exact zWV.R (by assumption) _ _) (by first | assumption | omega | exact ⟨by omega, by omega⟩ | exact ⟨⟨by omega, by omega⟩, by omega⟩ | exact zWV.R (by assumption) _ _)
                            have hgr := zB_g (V := T3) (g := g) (p := p) (o := o)
                            rw [← hV6_140] at hgr
                            obtain ⟨hgr1, hgr2, hgr3⟩ := hgr
                            first | have hg1 := hgr1 hfull | have hg1 := hgr2 hfull h3 | have hg1 := hgr3 hfull h3
                            clear hgr1 hgr2 hgr3
                            refine G_pop (pc := 143) dX7_setClock_143 rfl ?_
                            refine G_iinc_e (pc := 144) 2 (fun zw => [(1, .int (zI zw)), (5, .ref (ad3 (204, Q 4 g 0, p, o))), (0, .ref (ad3 (200, 0, 0, 0))), (2, .int (zI g)), (3, .int (zI p)), (4, .int (zI o))]) dX7_setClock_144 rfl (by decide) (fun _ => rfl) (fun v144 e144 => ?_)
                            have hz1 : zv1 g p o (T3, m3 - m) = (V6_140, v144 - m) := by
                              first
                              | exact if_neg (fun q => by have q1 : T3 (19, g, p, 0) o = 1 := q.1; have q2 : T3 (0, 0, 0, 0) 8 ≤ T3 (0, 0, 0, 0) 6 - T3 (21, g, p, 0) o := q.2; omega)
                              | (rw [show zv1 g p o (T3, m3 - m) = (zB T3 g p o, m3 - m + 1) from if_pos ⟨by omega, by omega⟩, hV6_140]; exact Prod.ext rfl (by show m3 - m + 1 = v144 - m; omega))
                            have hs147 : zSet Q V6_140 := by first | exact hsT3 | (rw [hV6_140]; exact zB_set hsT3 hg hp ho (by omega))
                            have h6147 : V6_140 (0, 0, 0, 0) 6 = x := by first | exact hT36 | (rw [hV6_140, zB_k rfl]; exact hT36)
                            have hc147 : True := trivial
                            refine G_iinc_e (pc := 147) 5 (fun zw => [(4, .int (zI zw)), (1, .int (zI v144)), (5, .ref (ad3 (204, Q 4 g 0, p, o))), (0, .ref (ad3 (200, 0, 0, 0))), (2, .int (zI g)), (3, .int (zI p))]) dX7_setClock_147 rfl (by decide) (fun _ => rfl) (fun v147 e147 => ?_)
                            refine G_goto (pc := 150) 62 dX7_setClock_150 (by decide) ?_
                            refine G_perm (lv' := [(0, .ref (ad3 (200, 0, 0, 0))), (1, .int (zI v144)), (2, .int (zI g)), (3, .int (zI p)), (4, .int (zI v147))]) [3, 1, 4, 5, 0] rfl ?_
                            exact ih62 v144 v147 ad3 (nc3 + 4) (ns3 + 412) V6_140 ⟨by omega, by rw [e147, ← hlo, lp_step (a := o) (n := Q 2 (Q 4 g 0) p) (by omega), hz1], ⟨by assumption, hs147⟩, h6147, (fun k a b c d => by first | exact had3 k a b c d | exact (had3 k a b c d).trans (hadL3 k a b c d)), by omega, by omega, by omega, by omega⟩ (by omega)
                        · refine G_goto (pc := 132) 147 dX7_setClock_132 (by decide) ?_
                          have hz1 : zv1 g p o (T3, m3 - m) = (T3, m3 - m) := by
                            first
                            | exact if_neg (fun q => by have q1 : T3 (19, g, p, 0) o = 1 := q.1; have q2 : T3 (0, 0, 0, 0) 8 ≤ T3 (0, 0, 0, 0) 6 - T3 (21, g, p, 0) o := q.2; omega)
                            | (rw [show zv1 g p o (T3, m3 - m) = (zB T3 g p o, m3 - m + 1) from if_pos ⟨by omega, by omega⟩, hT3]; exact Prod.ext rfl (by show m3 - m + 1 = v144 - m; omega))
                          have hs147 : zSet Q T3 := by first | exact hsT3 | (rw [hT3]; exact zB_set hsT3 hg hp ho (by omega))
                          have h6147 : T3 (0, 0, 0, 0) 6 = x := by first | exact hT36 | (rw [hT3, zB_k rfl]; exact hT36)
                          have hc147 : True := trivial
                          refine G_iinc_e (pc := 147) 5 (fun zw => [(4, .int (zI zw)), (5, .ref (adL3 (204, Q 4 g 0, p, o))), (0, .ref (adL3 (200, 0, 0, 0))), (1, .int (zI m3)), (2, .int (zI g)), (3, .int (zI p))]) dX7_setClock_147 rfl (by decide) (fun _ => rfl) (fun v147 e147 => ?_)
                          refine G_goto (pc := 150) 62 dX7_setClock_150 (by decide) ?_
                          refine G_perm (lv' := [(0, .ref (adL3 (200, 0, 0, 0))), (1, .int (zI m3)), (2, .int (zI g)), (3, .int (zI p)), (4, .int (zI v147))]) [2, 3, 4, 5, 0] rfl ?_
                          exact ih62 m3 v147 adL3 nc3 ns3 T3 ⟨by omega, by rw [e147, ← hlo, lp_step (a := o) (n := Q 2 (Q 4 g 0) p) (by omega), hz1], ⟨by assumption, hs147⟩, h6147, (fun k a b c d => by first | exact hadL3 k a b c d | exact (hadL3 k a b c d).trans (hadL3 k a b c d)), by omega, by omega, by omega, by omega⟩ (by omega)
                refine G_perm (lv' := [(0, .ref (adL2 (200, 0, 0, 0))), (1, .int (zI m2)), (2, .int (zI g)), (3, .int (zI p)), (4, .int (zI v60))]) [1, 2, 3, 4, 0] rfl ?_
                exact L62 _ m2 v60 adL2 nc2 ns2 T2 ⟨by omega, by rw [e60], ⟨by assumption, hsT2⟩, hT26, hadL2, hc2⟩ (Nat.lt_succ_self _)
          refine G_perm (lv' := [(0, .ref (adL1 (200, 0, 0, 0))), (1, .int (zI m)), (2, .int (zI g)), (3, .int (zI v42))]) [1, 2, 3, 0] rfl ?_
          exact L43 _ m v42 adL1 nc1 ns1 T ⟨by omega, by rw [e42, Int.sub_self], ⟨by assumption, hsT⟩, hT6, hadL1, hc1⟩ (Nat.lt_succ_self _)
    refine G_perm (lv' := [(0, .ref (ad (200, 0, 0, 0))), (1, .int (zI v30)), (2, .int (zI v32))]) [2, 1, 0] rfl ?_
    exact L33 _ v30 v32 ad 0 0 T0 ⟨by omega, by rw [e30, e32, hT0], ⟨by assumption, hs0⟩, h60, fun _ _ _ _ _ => rfl, by omega, Or.inl (by omega), by omega, by omega⟩ (Nat.lt_succ_self _)
  refine G_aload_n (pc := 0) 0 0 dX7_setClock_0 rfl rfl ?_
  refine G_dup (pc := 1) dX7_setClock_1 rfl ?_
  refine G_getf (pc := 2) fl_X7_119 dX7_setClock_2 pg_200 rfl ?_
  refine G_iconst (pc := 5) dX7_setClock_5 ?_
  refine G_aload_n (pc := 6) 0 0 dX7_setClock_6 rfl rfl ?_
  refine G_aload_n (pc := 7) 0 0 dX7_setClock_7 rfl rfl ?_
  refine G_iconst (pc := 8) dX7_setClock_8 ?_
  refine G_callV (pc := 9) gk_X7_94 dX7_setClock_9 pg_200 rfl (c_X7_draw (n := 3) hV (by assumption) ⟨by omega, by omega⟩) rfl rfl (Nat.le_of_ble_eq_true rfl) ⟨⟨Nat.le_of_ble_eq_true rfl, Nat.le_of_ble_eq_true rfl⟩, Nat.le_of_ble_eq_true rfl, Nat.le_of_ble_eq_true rfl⟩ (fun vx adx Mx hpo => ?_)
  obtain ⟨r9, hr9, rfl, hadx, rfl⟩ := hpo
  rw [hadx]
  show G Γ _ _ _ _ _ _ (0) (0) 12 [(0, .ref (ad (200, 0, 0, 0)))] [.int (zI r9), .ref (ad (200, 0, 0, 0)), .int (zI 1), .int (zI (V (0, 0, 0, 0) 6)), .ref (ad (200, 0, 0, 0))]
  refine G_nameV (fun V7_9 hV7_9 => ?_)
  have hVV7_9 : zWV Q V7_9 := by rw [hV7_9]; exact hV.s200_2 ⟨by omega, by omega⟩
  have hdV7_9 : V7_9 (200, 0, 0, 0) 2 = V (200, 0, 0, 0) 2 + 1 := by rw [hV7_9, zst_s]
  have hfV7_9 : ∀ k f, k ≠ (200, 0, 0, 0) → V7_9 k f = V k f := fun k f hk => by rw [hV7_9, zst_k _ _ _ _ hk]
  have hJV7_9 : zJ Q V7_9 := by rw [hV7_9]; exact zJ_dr hJ ⟨by omega, by omega⟩
  have hXV7_9 : X = mm (z_d Γ) ad Q V7_9 z00 := by rw [hV7_9, mm_st (by decide)]; exact hX
  refine G_if_ne (pc := 12) 20 dX7_setClock_12 (by decide) (by first | exact zWV.R (by assumption) _ _ | exact ⟨by omega, by omega⟩ | assumption | (subst_vars; first | exact zWV.R (by assumption) _ _ | exact ⟨by omega, by omega⟩)) (fun c12 => ?_) (fun c12 => ?_)
  · refine G_iconst (pc := 20) dX7_setClock_20 ?_
    refine G_callV (pc := 21) gk_X7_94 dX7_setClock_21 pg_200 rfl (c_X7_draw (n := 4) hVV7_9 (by assumption) ⟨by omega, by omega⟩) rfl rfl (Nat.le_of_ble_eq_true rfl) ⟨⟨Nat.le_of_ble_eq_true rfl, Nat.le_of_ble_eq_true rfl⟩, Nat.le_of_ble_eq_true rfl, Nat.le_of_ble_eq_true rfl⟩ (fun vx adx Mx hpo => ?_)
    obtain ⟨r21, hr21, rfl, hadx, rfl⟩ := hpo
    rw [hadx]
    show G Γ _ _ _ _ _ _ (0) (0) 24 [(0, .ref (ad (200, 0, 0, 0)))] [.int (zI r21), .int (zI 1), .int (zI (V (0, 0, 0, 0) 6)), .ref (ad (200, 0, 0, 0))]
    refine G_nameV (fun V8_21 hV8_21 => ?_)
    have hVV8_21 : zWV Q V8_21 := by rw [hV8_21]; exact hVV7_9.s200_2 ⟨by omega, by omega⟩
    have hdV8_21 : V8_21 (200, 0, 0, 0) 2 = V7_9 (200, 0, 0, 0) 2 + 1 := by rw [hV8_21, zst_s]
    have hfV8_21 : ∀ k f, k ≠ (200, 0, 0, 0) → V8_21 k f = V7_9 k f := fun k f hk => by rw [hV8_21, zst_k _ _ _ _ hk]
    have hJV8_21 : zJ Q V8_21 := by rw [hV8_21]; exact zJ_dr hJV7_9 ⟨by omega, by omega⟩
    have hXV8_21 : X = mm (z_d Γ) ad Q V8_21 z00 := by rw [hV8_21, mm_st (by decide)]; exact hXV7_9
    refine G_iadd (pc := 24) dX7_setClock_24 ?_
    refine G_iadd (pc := 25) dX7_setClock_25 ?_
    refine G_putf (pc := 26) fl_X7_119 fp_X7_3 dX7_setClock_26 pg_200 (Nat.le_of_ble_eq_true rfl) rfl rfl pp_200_3 ?_
    refine G_nameV (fun V9_26 hV9_26 => ?_)
    have hVV9_26 : zWV Q V9_26 := by rw [hV9_26]; exact hVV8_21.s0 ⟨by omega, by omega⟩ ⟨fun _ => by omega, fun q => by omega, fun q => by omega⟩ (fun q => by omega) (fun q => by omega)
    refine G_perm (lv' := [(0, .ref (ad (200, 0, 0, 0)))]) [0] rfl ?_
    exact K29 V9_26 ⟨V8_21, V (0, 0, 0, 0) 6 + (1 + r21), hJV8_21, hXV8_21, hV9_26, by rw [hfV8_21 _ _ (by decide), hfV7_9 _ _ (by decide)]; omega, by omega, (hfV8_21 _ _ (by decide)).trans (hfV7_9 _ _ (by decide)), (hfV8_21 _ _ (by decide)).trans (hfV7_9 _ _ (by decide)), (hfV8_21 _ _ (by decide)).trans (hfV7_9 _ _ (by decide))⟩
  · refine G_bipush (pc := 15) dX7_setClock_15 (by decide) ?_
    refine G_goto (pc := 17) 21 dX7_setClock_17 (by decide) ?_
    refine G_callV (pc := 21) gk_X7_94 dX7_setClock_21 pg_200 rfl (c_X7_draw (n := 14) hVV7_9 (by assumption) ⟨by omega, by omega⟩) rfl rfl (Nat.le_of_ble_eq_true rfl) ⟨⟨Nat.le_of_ble_eq_true rfl, Nat.le_of_ble_eq_true rfl⟩, Nat.le_of_ble_eq_true rfl, Nat.le_of_ble_eq_true rfl⟩ (fun vx adx Mx hpo => ?_)
    obtain ⟨r21, hr21, rfl, hadx, rfl⟩ := hpo
    rw [hadx]
    show G Γ _ _ _ _ _ _ (0) (0) 24 [(0, .ref (ad (200, 0, 0, 0)))] [.int (zI r21), .int (zI 1), .int (zI (V (0, 0, 0, 0) 6)), .ref (ad (200, 0, 0, 0))]
    refine G_nameV (fun V10_21 hV10_21 => ?_)
    have hVV10_21 : zWV Q V10_21 := by rw [hV10_21]; exact hVV7_9.s200_2 ⟨by omega, by omega⟩
    have hdV10_21 : V10_21 (200, 0, 0, 0) 2 = V7_9 (200, 0, 0, 0) 2 + 1 := by rw [hV10_21, zst_s]
    have hfV10_21 : ∀ k f, k ≠ (200, 0, 0, 0) → V10_21 k f = V7_9 k f := fun k f hk => by rw [hV10_21, zst_k _ _ _ _ hk]
    have hJV10_21 : zJ Q V10_21 := by rw [hV10_21]; exact zJ_dr hJV7_9 ⟨by omega, by omega⟩
    have hXV10_21 : X = mm (z_d Γ) ad Q V10_21 z00 := by rw [hV10_21, mm_st (by decide)]; exact hXV7_9
    refine G_iadd (pc := 24) dX7_setClock_24 ?_
    refine G_iadd (pc := 25) dX7_setClock_25 ?_
    refine G_putf (pc := 26) fl_X7_119 fp_X7_3 dX7_setClock_26 pg_200 (Nat.le_of_ble_eq_true rfl) rfl rfl pp_200_3 ?_
    refine G_nameV (fun V11_26 hV11_26 => ?_)
    have hVV11_26 : zWV Q V11_26 := by rw [hV11_26]; exact hVV10_21.s0 ⟨by omega, by omega⟩ ⟨fun _ => by omega, fun q => by omega, fun q => by omega⟩ (fun q => by omega) (fun q => by omega)
    refine G_perm (lv' := [(0, .ref (ad (200, 0, 0, 0)))]) [0] rfl ?_
    exact K29 V11_26 ⟨V10_21, V (0, 0, 0, 0) 6 + (1 + r21), hJV10_21, hXV10_21, hV11_26, by rw [hfV10_21 _ _ (by decide), hfV7_9 _ _ (by decide)]; omega, by omega, (hfV10_21 _ _ (by decide)).trans (hfV7_9 _ _ (by decide)), (hfV10_21 _ _ (by decide)).trans (hfV7_9 _ _ (by decide)), (hfV10_21 _ _ (by decide)).trans (hfV7_9 _ _ (by decide))⟩
