/-! ===== the Pier's constructor: the memory on the way ===== -/
/-- what is made so far -/
def pI (S : Nat → Bool) (Δ : zDl) (ad : zK → Nat) (Q : zP) (V : zS) (fs : List Value) (X : zMem) : zMem := fun k => if k = (200, 0, 0, 0) then some (.inr (8, fs)) else if S k.1 = true then pcnt Δ ad Q V k else X k
theorem pcnt_ad {Δ : zDl} {ad ad' : zK → Nat} {Q : zP} {V : zS} {k : zK} (h : ∀ j : zK, j.1 = k.1 + 1 → ad' j = ad j) (h0 : k.1 ≠ 200) : pcnt Δ ad' Q V k = pcnt Δ ad Q V k := by
  obtain ⟨m, i, j, l⟩ := k
  have h0 : m ≠ 200 := h0
  have h : ∀ q : zK, q.1 = m + 1 → ad' q = ad q := h
  have cut : ∀ ad0 : zK → Nat, pcnt Δ ad0 Q V (m, i, j, l) = pcnt Δ (fun q => if q.1 = m + 1 then ad0 q else 0) Q V (m, i, j, l) := fun ad0 => by
    unfold pcnt
    refine ite_cg (fun q => absurd q h0) (fun _ => ?_)
    (iterate 23 refine ite_cg (fun q => by (have q : m = _ := q); subst q; rfl) (fun _ => ?_))
    rfl
  rw [cut ad', cut ad]
  have e : (fun q : zK => if q.1 = m + 1 then ad' q else 0) = fun q => if q.1 = m + 1 then ad q else 0 := by
    funext q
    by_cases hq : q.1 = m + 1
    · rw [if_pos hq, if_pos hq, h q hq]
    · rw [if_neg hq, if_neg hq]
  rw [e]
