/-! ===== the relation in bundles; frames; the pointwise view of loops ===== -/
def fr (A : zK → Int → Bool) (S T : zS) : Prop := ∀ k f, A k f = false → T k f = S k f
theorem fr.rf {A : zK → Int → Bool} {S : zS} : fr A S S := fun _ _ _ => rfl
theorem fr.tr {A : zK → Int → Bool} {S T U : zS} (h : fr A S T) (h2 : fr A T U) : fr A S U := fun k f hk => (h2 k f hk).trans (h k f hk)
theorem fr.st {A : zK → Int → Bool} {S T : zS} (h : fr A S T) {k : zK} {f v : Int} (hn : A k f = true) : fr A S (zst T k f v) := fun k' f' hk => by
  rw [zst_at, if_neg (fun e => by rw [e.1, e.2, hn] at hk; cases hk)]
  exact h k' f' hk
theorem fr_z {A : zK → Int → Bool} {K : Nat → Bool} {S T : zS} (h : zfr K S T) (hA : ∀ k f, K k.1 = true → A k f = true) : fr A S T := fun k f hk => h k f (by
  cases hq : K k.1 with
  | false => rfl
  | true => rw [hA k f hq] at hk; cases hk)
theorem zfr.mono {K K' : Nat → Bool} {S T : zS} (h : zfr K S T) (hK : ∀ n, K n = true → K' n = true) : zfr K' S T := fun k f hk => h k f (by
  cases hq : K k.1 with
  | false => rfl
  | true => rw [hK _ hq] at hk; cases hk)
def rz (A : zK → Int → Bool) (M : zS) : zS := fun k f => if A k f = true then 0 else M k f
theorem rz_eq {A : zK → Int → Bool} {M M' : zS} (h : fr A M M') : rz A M' = rz A M := by
  funext k f
  show (if A k f = true then 0 else M' k f) = if A k f = true then 0 else M k f
  by_cases hk : A k f = true
  · rw [if_pos hk, if_pos hk]
  · rw [if_neg hk, if_neg hk, h k f (by
      cases hq : A k f with
      | false => rfl
      | true => exact absurd hq hk)]
def rq (K : Nat → Bool) (S : zS) : zS := fun k f => if K k.1 = true then 0 else S k f
theorem rq_eq {K : Nat → Bool} {S S' : zS} (h : zfr K S S') : rq K S' = rq K S := rz_eq (A := fun k _ => K k.1) h
/-- the bundles -/
def xa (P : zP) (S M : zS) : Prop := (rA S M ∧ rB P S M ∧ rC P S M ∧ rT P S M) ∧ rD S M ∧ rE P M ∧ rG P S M ∧ rJa P M
def xh (P : zP) (S M : zS) : Prop := rH P S M ∧ rI P M ∧ rJh P M ∧ rK P S ∧ rN M
def kA (n : Nat) : Bool := Nat.ble 40 n || (n == 1 || (n == 2 || (n == 18 || (n == 19 || (n == 20 || n == 21)))))
def mA (k : zK) (f : Int) : Bool := Nat.blt k.1 40 || ((k.1 == 40 && (f == 0 || f == 32)) || (k.1 == 65 || (k.1 == 66 || (k.1 == 67 || (k.1 == 69 || (k.1 == 70 || (k.1 == 71 || k.1 == 73)))))))
def kF (n : Nat) : Bool := !(n == 18)
def mF (n : Nat) : Bool := !(n == 65 || (n == 66 || n == 67))
def kH (n : Nat) : Bool := !(n == 14 || (n == 19 || (n == 20 || n == 21)))
def mH (k : zK) (f : Int) : Bool := !((k.1 == 40 && f == 11) || (k.1 == 59 || (k.1 == 69 || (k.1 == 70 || k.1 == 71))))
section BUND
variable {P : zP} {S S' M M' : zS}
theorem xa_fr (hc : zfr kA S S') (hm : fr mA M M') (h : xa P S M) : xa P S' M' := by
  obtain ⟨⟨h1, h2, h3, h4⟩, h5, h6, h7, h8⟩ := h
  refine ⟨⟨?_, ?_, ?_, ?_⟩, ?_, ?_, ?_, ?_⟩
  · show rA (rq kA S') (rz mA M')
    rw [rq_eq hc, rz_eq hm]
    exact h1
  · show rB P (rq kA S') (rz mA M')
    rw [rq_eq hc, rz_eq hm]
    exact h2
  · show rC P (rq kA S') (rz mA M')
    rw [rq_eq hc, rz_eq hm]
    exact h3
  · show rT P (rq kA S') (rz mA M')
    rw [rq_eq hc, rz_eq hm]
    exact h4
  · show rD (rq kA S') (rz mA M')
    rw [rq_eq hc, rz_eq hm]
    exact h5
  · show rE P (rz mA M')
    rw [rz_eq hm]
    exact h6
  · show rG P (rq kA S') (rz mA M')
    rw [rq_eq hc, rz_eq hm]
    exact h7
  · show rJa P (rz mA M')
    rw [rz_eq hm]
    exact h8
theorem xf_fr (hc : zfr kF S S') (hm : zfr mF M M') (h : rF P S M) : rF P S' M' := by
  show rF P (rq kF S') (rq mF M')
  rw [rq_eq hc, rq_eq hm]
  exact h
theorem xh_fr (hc : zfr kH S S') (hm : fr mH M M') (h : xh P S M) : xh P S' M' := by
  obtain ⟨h1, h2, h3, h4, h5⟩ := h
  refine ⟨?_, ?_, ?_, ?_, ?_⟩
  · show rH P (rq kH S') (rz mH M')
    rw [rq_eq hc, rz_eq hm]
    exact h1
  · show rI P (rz mH M')
    rw [rz_eq hm]
    exact h2
  · show rJh P (rz mH M')
    rw [rz_eq hm]
    exact h3
  · show rK P (rq kH S')
    rw [rq_eq hc]
    exact h4
  · show rN (rz mH M')
    rw [rz_eq hm]
    exact h5
theorem xa.A (h : xa P S M) : rA S M := h.1.1
theorem xa.B (h : xa P S M) : rB P S M := h.1.2.1
theorem xa.C (h : xa P S M) : rC P S M := h.1.2.2.1
theorem xa.T (h : xa P S M) : rT P S M := h.1.2.2.2
theorem xa.D (h : xa P S M) : rD S M := h.2.1
theorem xa.E (h : xa P S M) : rE P M := h.2.2.1
theorem xa.G (h : xa P S M) : rG P S M := h.2.2.2.1
theorem xa.J (h : xa P S M) : rJa P M := h.2.2.2.2
/-- settled -/
def sg (P : zP) (S : zS) (g p : Int) : Prop := (∀ o, inM P (P 4 g 0) p o → ¬ (¬ S (14, P 4 g 0, p, o) 5 = 0 ∧ ju S g p o)) ∧ ¬ zmc P g p S ∧ S (18, g, p, 0) 5 ≤ S (18, g, p, 0) 6
theorem sg_fr {g p : Int} (h14 : ∀ o f, S' (14, P 4 g 0, p, o) f = S (14, P 4 g 0, p, o) f) (h18 : ∀ f, f = 5 ∨ f = 6 → S' (18, g, p, 0) f = S (18, g, p, 0) f) (h19 : ∀ f, S' (19, g, p, 0) f = S (19, g, p, 0) f) (h : sg P S g p) : sg P S' g p := by
  obtain ⟨h1, h2, h3⟩ := h
  have e5 := h18 5 (Or.inl rfl)
  have e6 := h18 6 (Or.inr rfl)
  refine ⟨fun o ho q => h1 o ho ?_, fun q => h2 ?_, ?_⟩
  · have q2 : ¬ S' (14, P 4 g 0, p, o) 5 = 0 ∧ (S' (19, g, p, 0) o = 1 ∨ S' (19, g, p, 0) o = 2) := q
    rw [h14, h19] at q2
    exact q2
  · obtain ⟨q1, q2⟩ := q
    rw [e5] at q1
    refine ⟨q1, ?_⟩
    show ¬ S (14, P 4 g 0, p, S (18, g, p, 0) 5) 5 = 0 ∨ S (14, P 4 g 0, p, S (18, g, p, 0) 5) 4 = 1 ∨ (S (19, g, p, 0) (S (18, g, p, 0) 5) = 3 ∨ S (19, g, p, 0) (S (18, g, p, 0) 5) = 4)
    have q3 : ¬ S' (14, P 4 g 0, p, S' (18, g, p, 0) 5) 5 = 0 ∨ S' (14, P 4 g 0, p, S' (18, g, p, 0) 5) 4 = 1 ∨ (S' (19, g, p, 0) (S' (18, g, p, 0) 5) = 3 ∨ S' (19, g, p, 0) (S' (18, g, p, 0) 5) = 4) := q2
    rw [e5, h14, h14, h19] at q3
    exact q3
  · rw [e5, e6]
    exact h3
/-- only cells of (g, p) change -/
def cO (g p : Int) (S T : zS) : Prop := ∀ k f, ¬ (k = (18, g, p, 0) ∨ k = (19, g, p, 0) ∨ k = (20, g, p, 0) ∨ k = (21, g, p, 0)) → T k f = S k f
theorem cO.rf {g p : Int} : cO g p S S := fun _ _ _ => rfl
theorem cO.tr {g p : Int} {T U : zS} (h : cO g p S T) (h2 : cO g p T U) : cO g p S U := fun k f hk => (h2 k f hk).trans (h k f hk)
theorem cO.st {g p : Int} {T : zS} {k : zK} {f v : Int} (h : cO g p S T) (hk : k = (18, g, p, 0) ∨ k = (19, g, p, 0) ∨ k = (20, g, p, 0) ∨ k = (21, g, p, 0)) : cO g p S (zst T k f v) := fun k' f' hk' => by
  rw [zst_k _ _ _ _ (fun e => hk' (by rw [e]; exact hk))]
  exact h k' f' hk'
theorem sg_off {g p g' p' : Int} (h : cO g p S S') (hne : ¬ (g' = g ∧ p' = p)) (hs : sg P S g' p') : sg P S' g' p' := by
  refine sg_fr (fun o f => h _ _ ?_) (fun f _ => h _ _ ?_) (fun f => h _ _ ?_) hs
  · rintro (q | q | q | q) <;> cases q
  · rintro (q | q | q | q)
    · cases q; exact hne ⟨rfl, rfl⟩
    · cases q
    · cases q
    · cases q
  · rintro (q | q | q | q)
    · cases q
    · cases q; exact hne ⟨rfl, rfl⟩
    · cases q
    · cases q
/-- only the offset o of (g, p) changes -/
def cS (g p o : Int) (S T : zS) : Prop := ∀ k f, ¬ ((k = (19, g, p, 0) ∨ k = (20, g, p, 0) ∨ k = (21, g, p, 0)) ∧ f = o) → T k f = S k f
def cM (i : Int) (M N : zS) : Prop := ∀ k f, ¬ ((k = (69, 0, 0, 0) ∨ k = (70, 0, 0, 0) ∨ k = (71, 0, 0, 0)) ∧ f = i) → N k f = M k f
theorem cS.rf {g p o : Int} : cS g p o S S := fun _ _ _ => rfl
theorem cS.st {g p o : Int} {T : zS} {k : zK} {v : Int} (h : cS g p o S T) (hk : k = (19, g, p, 0) ∨ k = (20, g, p, 0) ∨ k = (21, g, p, 0)) : cS g p o S (zst T k o v) := fun k' f' hk' => by
  rw [zst_at, if_neg (fun e => hk' ⟨by rw [e.1]; exact hk, e.2⟩)]
  exact h k' f' hk'
theorem cM.rf {i : Int} : cM i M M := fun _ _ _ => rfl
theorem cM.st {i : Int} {T : zS} {k : zK} {v : Int} (h : cM i M T) (hk : k = (69, 0, 0, 0) ∨ k = (70, 0, 0, 0) ∨ k = (71, 0, 0, 0)) : cM i M (zst T k i v) := fun k' f' hk' => by
  rw [zst_at, if_neg (fun e => hk' ⟨by rw [e.1]; exact hk, e.2⟩)]
  exact h k' f' hk'
theorem cS.O {g p o : Int} (h : cS g p o S S') : cO g p S S' := fun k f hk => h k f (fun q => hk (Or.inr q.1))
theorem mi_inj (hC : rC P S M) {t p o t' p' o' : Int} (h1 : inT P t ∧ inP P t p ∧ inM P t p o) (h2 : inT P t' ∧ inP P t' p' ∧ inM P t' p' o') (hP : zWM P M) (e : mi M t p o = mi M t' p' o') : t = t' ∧ p = p' ∧ o = o' := by
  obtain ⟨-, a2, a3, -⟩ := hC t p o h1.1 h1.2.1 h1.2.2
  obtain ⟨-, b2, b3, -⟩ := hC t' p' o' h2.1 h2.2.1 h2.2.2
  have q1 := hP.qt h1.1
  have q2 := hP.qt h2.1
  have q3 := h1.2.1
  have q4 := h2.2.1
  rw [e] at a2 a3
  exact ⟨by omega, by omega, by omega⟩
/-- what became of one message in one group changes -/
theorem xh_cell (hC : rC P S M) (h : xh P S M) (hV : zWM P M) {g p o i : Int} (hg : inG P g) (hp : inQ P g p) (ho : inM P (P 4 g 0) p o) (hi : i = g * 80 + mi M (P 4 g 0) p o) (hS : cS g p o S S') (hM : cM i M M')
    (e1 : M' (69, 0, 0, 0) i = if ¬ S (14, P 4 g 0, p, o) 5 = 0 ∧ ju S' g p o then 0 else S' (19, g, p, 0) o) (e2 : M' (70, 0, 0, 0) i = if ¬ S (14, P 4 g 0, p, o) 5 = 0 ∧ ju S' g p o then 0 else S' (20, g, p, 0) o) (e3 : M' (71, 0, 0, 0) i = S' (21, g, p, 0) o) (hN : M' (69, 0, 0, 0) i = 1 → 1 ≤ M' (70, 0, 0, 0) i) : xh P S' M' := by
  obtain ⟨h1, h2, h3, h4, h5⟩ := h
  have hT := hV.qg hg
  have hc := (hC (P 4 g 0) p o hT hp ho).1
  have hf := hV.f11
  have hq := hV.q
  have s14 : ∀ a b c f, S' (14, a, b, c) f = S (14, a, b, c) f := fun a b c f => hS _ _ (by rintro ⟨q | q | q, -⟩ <;> cases q)
  have m59 : ∀ f, M' (59, 0, 0, 0) f = M (59, 0, 0, 0) f := fun f => hM _ _ (by rintro ⟨q | q | q, -⟩ <;> cases q)
  have m40 : ∀ f, M' (40, 0, 0, 0) f = M (40, 0, 0, 0) f := fun f => hM _ _ (by rintro ⟨q | q | q, -⟩ <;> cases q)
  have mne : ∀ (n : Nat) (j : Int), j ≠ i → M' (n, 0, 0, 0) j = M (n, 0, 0, 0) j := fun n j hj => hM _ _ (fun q => hj q.2)
  refine ⟨fun g' p' o' hg' hp' ho' => ?_, fun g' t' p' o' hg' ht' hne hp' ho' => ?_, fun g' m' a1 a2 a3 a4 a5 => ?_, fun g' p' o' hg' hp' a1 a2 => ?_, fun k hk => ?_⟩
  · show M' (69, 0, 0, 0) (g' * 80 + M' (59, 0, 0, 0) _) = _ ∧ M' (70, 0, 0, 0) (g' * 80 + M' (59, 0, 0, 0) _) = _ ∧ M' (71, 0, 0, 0) (g' * 80 + M' (59, 0, 0, 0) _) = _
    rw [m59, s14]
    by_cases hc' : g' = g ∧ p' = p ∧ o' = o
    · obtain ⟨rfl, rfl, rfl⟩ := hc'
      rw [← show i = g' * 80 + M (59, 0, 0, 0) ((P 4 g' 0 * 4 + p') * 80 + o') from hi]
      exact ⟨e1, e2, e3⟩
    · have hc2 := (hC (P 4 g' 0) p' o' (hV.qg hg') hp' ho').1
      have hne : g' * 80 + mi M (P 4 g' 0) p' o' ≠ i := fun q => by
        have hgg : g' = g := by omega
        subst hgg
        have := mi_inj hC ⟨hV.qg hg', hp', ho'⟩ ⟨hT, hp, ho⟩ hV (by omega)
        exact hc' ⟨rfl, this.2.1, this.2.2⟩
      have hs : ∀ n : Nat, S' (n, g', p', 0) o' = S (n, g', p', 0) o' := fun n => hS _ _ (by
        rintro ⟨q | q | q, rfl⟩ <;> cases q <;> exact hc' ⟨rfl, rfl, rfl⟩)
      rw [mne _ _ hne, mne _ _ hne, mne _ _ hne]
      have h9 := h1 g' p' o' hg' hp' ho'
      show _ = (if ¬ S (14, P 4 g' 0, p', o') 5 = 0 ∧ (S' (19, g', p', 0) o' = 1 ∨ S' (19, g', p', 0) o' = 2) then 0 else S' (19, g', p', 0) o') ∧ _ = (if ¬ S (14, P 4 g' 0, p', o') 5 = 0 ∧ (S' (19, g', p', 0) o' = 1 ∨ S' (19, g', p', 0) o' = 2) then 0 else S' (20, g', p', 0) o') ∧ _ = S' (21, g', p', 0) o'
      rw [hs 19, hs 20, hs 21]
      exact h9
  · show M' (69, 0, 0, 0) (g' * 80 + M' (59, 0, 0, 0) _) = 0
    rw [m59]
    have hc2 := (hC t' p' o' ht' hp' ho').1
    rw [mne _ _ (fun q => by
      have q : g' * 80 + mi M t' p' o' = i := q
      have hgg : g' = g := by omega
      subst hgg
      have := mi_inj hC ⟨ht', hp', ho'⟩ ⟨hT, hp, ho⟩ hV (by omega)
      exact hne this.1)]
    exact h2 g' t' p' o' hg' ht' hne hp' ho'
  · rw [m40] at a5
    have hne : g' * 80 + m' ≠ i := fun q => by omega
    rw [mne _ _ hne, mne _ _ hne, mne _ _ hne]
    exact h3 g' m' a1 a2 a3 a4 a5
  · have hs : ∀ n : Nat, S' (n, g', p', 0) o' = S (n, g', p', 0) o' := fun n => hS _ _ (by
      rintro ⟨q | q | q, rfl⟩ <;> cases q <;> omega)
    rw [hs, hs, hs]
    exact h4 g' p' o' hg' hp' a1 a2
  · by_cases hk2 : k = i
    · subst hk2
      exact hN hk
    · rw [mne _ _ hk2] at hk ⊢
      exact h5 k hk
end BUND
