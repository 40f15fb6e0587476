/-! ===== the Pier's memory: the law's own broker ===== -/
/-- a message's row of the Pier: key, value, time, transaction, dropped; for each group state, tries, when -/
def zpr (Q : zP) (V : zS) (t p o : Int) (j : Int) : Int := if j = 0 then V (14, t, p, o) 0 else if j = 1 then V (14, t, p, o) 1 else if j = 2 then V (14, t, p, o) 2 else if j = 3 then V (14, t, p, o) 6 else if j = 4 then V (14, t, p, o) 5
  else if (0 ≤ (j - 5) / 3 ∧ (j - 5) / 3 < Q 3 0 0 ∧ Q 4 ((j - 5) / 3) 0 = t) then (if (j - 5) % 3 = 0 then V (19, (j - 5) / 3, p, 0) o else if (j - 5) % 3 = 1 then V (20, (j - 5) / 3, p, 0) o else V (21, (j - 5) / 3, p, 0) o) else 0
section ZPR
variable {Q : zP} {V : zS} {t p o g : Int}
theorem zpr_0 : zpr Q V t p o 0 = V (14, t, p, o) 0 := if_pos rfl
theorem zpr_1 : zpr Q V t p o 1 = V (14, t, p, o) 1 := (if_neg (by decide)).trans (if_pos rfl)
theorem zpr_2 : zpr Q V t p o 2 = V (14, t, p, o) 2 := (if_neg (by decide)).trans ((if_neg (by decide)).trans (if_pos rfl))
theorem zpr_3 : zpr Q V t p o 3 = V (14, t, p, o) 6 := (if_neg (by decide)).trans ((if_neg (by decide)).trans ((if_neg (by decide)).trans (if_pos rfl)))
theorem zpr_4 : zpr Q V t p o 4 = V (14, t, p, o) 5 := (if_neg (by decide)).trans ((if_neg (by decide)).trans ((if_neg (by decide)).trans ((if_neg (by decide)).trans (if_pos rfl))))
theorem zpr_g {j : Int} (h : 5 ≤ j) : zpr Q V t p o j = if (0 ≤ (j - 5) / 3 ∧ (j - 5) / 3 < Q 3 0 0 ∧ Q 4 ((j - 5) / 3) 0 = t) then (if (j - 5) % 3 = 0 then V (19, (j - 5) / 3, p, 0) o else if (j - 5) % 3 = 1 then V (20, (j - 5) / 3, p, 0) o else V (21, (j - 5) / 3, p, 0) o) else 0 := by
  unfold zpr
  rw [if_neg (by omega), if_neg (by omega), if_neg (by omega), if_neg (by omega), if_neg (by omega)]
theorem zpr_5 (h : 0 ≤ g ∧ g < Q 3 0 0) (ht : Q 4 g 0 = t) : zpr Q V t p o (5 + 3 * g) = V (19, g, p, 0) o := by
  have e : (5 + 3 * g - 5) / 3 = g := by omega
  rw [zpr_g (by omega), e, if_pos ⟨h.1, h.2, ht⟩, if_pos (by omega)]
theorem zpr_6 (h : 0 ≤ g ∧ g < Q 3 0 0) (ht : Q 4 g 0 = t) : zpr Q V t p o (6 + 3 * g) = V (20, g, p, 0) o := by
  have e : (6 + 3 * g - 5) / 3 = g := by omega
  rw [zpr_g (by omega), e, if_pos ⟨h.1, h.2, ht⟩, if_neg (by omega), if_pos (by omega)]
theorem zpr_7 (h : 0 ≤ g ∧ g < Q 3 0 0) (ht : Q 4 g 0 = t) : zpr Q V t p o (7 + 3 * g) = V (21, g, p, 0) o := by
  have e : (7 + 3 * g - 5) / 3 = g := by omega
  rw [zpr_g (by omega), e, if_pos ⟨h.1, h.2, ht⟩, if_neg (by omega), if_neg (by omega)]
theorem zpr_5n (h : 0 ≤ g) (ht : ¬ (g < Q 3 0 0 ∧ Q 4 g 0 = t)) : zpr Q V t p o (5 + 3 * g) = 0 := by
  have e : (5 + 3 * g - 5) / 3 = g := by omega
  rw [zpr_g (by omega), e, if_neg (fun q => ht q.2)]
end ZPR
def pc200 (Δ : zDl) (ad : zK → Nat) (Q : zP) (V : zS) (i j o : Int) : Option va_E := if (i = 0 ∧ j = 0 ∧ o = 0) then some (.inr (8, [.ref (ad (0, 0, 0, 0)), .ref Δ.2.2.2.1, .int (zI (V (200, 0, 0, 0) 2)), .int (zI (V (0, 0, 0, 0) 6)), .int (zI (V (0, 0, 0, 0) 7)), .int (zI (V (0, 0, 0, 0) 8)), .int (zI (V (0, 0, 0, 0) 5)), .ref (ad (201, 0, 0, 0)), .ref (ad (205, 0, 0, 0)), .ref (ad (206, 0, 0, 0)), .ref (ad (207, 0, 0, 0)), .ref (ad (209, 0, 0, 0)), .int (zI (V (0, 0, 0, 0) 4)), .ref (ad (211, 0, 0, 0)), .ref (ad (212, 0, 0, 0)), .int (zI (V (200, 0, 0, 0) 15)), .ref (ad (213, 0, 0, 0)), .ref (ad (214, 0, 0, 0)), .ref (ad (216, 0, 0, 0)), .ref (ad (218, 0, 0, 0)), .ref (ad (220, 0, 0, 0)), .ref (ad (222, 0, 0, 0))])) else none
def pc201 (Δ : zDl) (ad : zK → Nat) (Q : zP) (V : zS) (i j o : Int) : Option va_E := if (i = 0 ∧ j = 0 ∧ o = 0) then some (.inl (Δ.2.1 7, (Q 0 0 0).toNat, .inr (.inr (.inr (.inr (zAq (fun x => some (ad (202, x, 0, 0))))))))) else none
def pc202 (Δ : zDl) (ad : zK → Nat) (Q : zP) (V : zS) (i j o : Int) : Option va_E := if ((0 ≤ i ∧ i < Q 0 0 0) ∧ j = 0 ∧ o = 0) then some (.inl (Δ.2.1 6, (Q 1 i 0).toNat, .inr (.inr (.inr (.inr (zAq (fun x => some (ad (203, i, x, 0))))))))) else none
def pc203 (Δ : zDl) (ad : zK → Nat) (Q : zP) (V : zS) (i j o : Int) : Option va_E := if (((0 ≤ i ∧ i < Q 0 0 0) ∧ (0 ≤ j ∧ j < Q 1 i 0)) ∧ o = 0) then some (.inl (Δ.2.1 5, (Q 2 i j).toNat, .inr (.inr (.inr (.inr (zAq (fun x => some (ad (204, i, j, x))))))))) else none
def pc204 (Δ : zDl) (ad : zK → Nat) (Q : zP) (V : zS) (i j o : Int) : Option va_E := if (((0 ≤ i ∧ i < Q 0 0 0) ∧ (0 ≤ j ∧ j < Q 1 i 0)) ∧ (0 ≤ o ∧ o < Q 2 i j)) then some (.inl (Δ.2.1 0, 17, .inl (zAi (zpr Q V i j o)))) else none
def pc205 (Δ : zDl) (ad : zK → Nat) (Q : zP) (V : zS) (i j o : Int) : Option va_E := if (i = 0 ∧ j = 0 ∧ o = 0) then some (.inl (Δ.2.1 1, 4, .inl (zAi (fun x => V (8, x, 0, 0) 1)))) else none
def pc206 (Δ : zDl) (ad : zK → Nat) (Q : zP) (V : zS) (i j o : Int) : Option va_E := if (i = 0 ∧ j = 0 ∧ o = 0) then some (.inl (Δ.2.1 0, 4, .inl (zAi (fun x => V (8, x, 0, 0) 3)))) else none
def pc207 (Δ : zDl) (ad : zK → Nat) (Q : zP) (V : zS) (i j o : Int) : Option va_E := if (i = 0 ∧ j = 0 ∧ o = 0) then some (.inl (Δ.2.1 5, 4, .inr (.inr (.inr (.inr (zAq (fun x => some (ad (208, x, 0, 0))))))))) else none
def pc208 (Δ : zDl) (ad : zK → Nat) (Q : zP) (V : zS) (i j o : Int) : Option va_E := if ((0 ≤ i ∧ i < 4) ∧ j = 0 ∧ o = 0) then some (.inl (Δ.2.1 0, 4, .inl (zAi (fun x => V (11, i, x, 0) 1)))) else none
def pc209 (Δ : zDl) (ad : zK → Nat) (Q : zP) (V : zS) (i j o : Int) : Option va_E := if (i = 0 ∧ j = 0 ∧ o = 0) then some (.inl (Δ.2.1 5, 4, .inr (.inr (.inr (.inr (zAq (fun x => some (ad (210, x, 0, 0))))))))) else none
def pc210 (Δ : zDl) (ad : zK → Nat) (Q : zP) (V : zS) (i j o : Int) : Option va_E := if ((0 ≤ i ∧ i < 4) ∧ j = 0 ∧ o = 0) then some (.inl (Δ.2.1 0, 4, .inl (zAi (fun x => V (10, i, 0, 0) x)))) else none
def pc211 (Δ : zDl) (ad : zK → Nat) (Q : zP) (V : zS) (i j o : Int) : Option va_E := if (i = 0 ∧ j = 0 ∧ o = 0) then some (.inl (Δ.2.1 0, 200, .inl (zAi (fun x => V (211, 0, 0, 0) x)))) else none
def pc212 (Δ : zDl) (ad : zK → Nat) (Q : zP) (V : zS) (i j o : Int) : Option va_E := if (i = 0 ∧ j = 0 ∧ o = 0) then some (.inl (Δ.2.1 0, 4, .inl (zAi (fun x => V (212, 0, 0, 0) x)))) else none
def pc213 (Δ : zDl) (ad : zK → Nat) (Q : zP) (V : zS) (i j o : Int) : Option va_E := if (i = 0 ∧ j = 0 ∧ o = 0) then some (.inl (Δ.2.1 0, 4, .inl (zAi (fun x => V (213, 0, 0, 0) x)))) else none
def pc214 (Δ : zDl) (ad : zK → Nat) (Q : zP) (V : zS) (i j o : Int) : Option va_E := if (i = 0 ∧ j = 0 ∧ o = 0) then some (.inl (Δ.2.1 5, 4, .inr (.inr (.inr (.inr (zAq (fun x => some (ad (215, x, 0, 0))))))))) else none
def pc215 (Δ : zDl) (ad : zK → Nat) (Q : zP) (V : zS) (i j o : Int) : Option va_E := if ((0 ≤ i ∧ i < 4) ∧ j = 0 ∧ o = 0) then some (.inl (Δ.2.1 0, 4, .inl (zAi (fun x => V (18, i, x, 0) 5)))) else none
def pc216 (Δ : zDl) (ad : zK → Nat) (Q : zP) (V : zS) (i j o : Int) : Option va_E := if (i = 0 ∧ j = 0 ∧ o = 0) then some (.inl (Δ.2.1 5, 4, .inr (.inr (.inr (.inr (zAq (fun x => some (ad (217, x, 0, 0))))))))) else none
def pc217 (Δ : zDl) (ad : zK → Nat) (Q : zP) (V : zS) (i j o : Int) : Option va_E := if ((0 ≤ i ∧ i < 4) ∧ j = 0 ∧ o = 0) then some (.inl (Δ.2.1 0, 4, .inl (zAi (fun x => V (18, i, x, 0) 6)))) else none
def pc218 (Δ : zDl) (ad : zK → Nat) (Q : zP) (V : zS) (i j o : Int) : Option va_E := if (i = 0 ∧ j = 0 ∧ o = 0) then some (.inl (Δ.2.1 5, 4, .inr (.inr (.inr (.inr (zAq (fun x => some (ad (219, x, 0, 0))))))))) else none
def pc219 (Δ : zDl) (ad : zK → Nat) (Q : zP) (V : zS) (i j o : Int) : Option va_E := if ((0 ≤ i ∧ i < 4) ∧ j = 0 ∧ o = 0) then some (.inl (Δ.2.1 0, 4, .inl (zAi (fun x => V (18, i, x, 0) 4)))) else none
def pc220 (Δ : zDl) (ad : zK → Nat) (Q : zP) (V : zS) (i j o : Int) : Option va_E := if (i = 0 ∧ j = 0 ∧ o = 0) then some (.inl (Δ.2.1 8, 4, .inr (.inr (.inr (.inr (zAq (fun x => some (ad (221, x, 0, 0))))))))) else none
def pc221 (Δ : zDl) (ad : zK → Nat) (Q : zP) (V : zS) (i j o : Int) : Option va_E := if ((0 ≤ i ∧ i < 4) ∧ j = 0 ∧ o = 0) then some (.inl (Δ.2.1 1, 6, .inl (zAi (fun x => V (17, i, 0, 0) x)))) else none
def pc222 (Δ : zDl) (ad : zK → Nat) (Q : zP) (V : zS) (i j o : Int) : Option va_E := if (i = 0 ∧ j = 0 ∧ o = 0) then some (.inl (Δ.2.1 5, (V (1, 0, 0, 0) 1).toNat, .inr (.inr (.inr (.inr (zAq (fun x => some (ad (223, x, 0, 0))))))))) else none
def pc223 (Δ : zDl) (ad : zK → Nat) (Q : zP) (V : zS) (i j o : Int) : Option va_E := if ((0 ≤ i ∧ i < V (1, 0, 0, 0) 1) ∧ j = 0 ∧ o = 0) then some (.inl (Δ.2.1 0, 5, .inl (zAi (fun x => if 0 ≤ x ∧ x < 5 then V (2, 0, 0, 0) (5 * i + x) else 0)))) else none
def pcnt (Δ : zDl) (ad : zK → Nat) (Q : zP) (V : zS) (k : zK) : Option va_E :=
  if k.1 = 200 then pc200 Δ ad Q V k.2.1 k.2.2.1 k.2.2.2
  else if k.1 = 201 then pc201 Δ ad Q V k.2.1 k.2.2.1 k.2.2.2
  else if k.1 = 202 then pc202 Δ ad Q V k.2.1 k.2.2.1 k.2.2.2
  else if k.1 = 203 then pc203 Δ ad Q V k.2.1 k.2.2.1 k.2.2.2
  else if k.1 = 204 then pc204 Δ ad Q V k.2.1 k.2.2.1 k.2.2.2
  else if k.1 = 205 then pc205 Δ ad Q V k.2.1 k.2.2.1 k.2.2.2
  else if k.1 = 206 then pc206 Δ ad Q V k.2.1 k.2.2.1 k.2.2.2
  else if k.1 = 207 then pc207 Δ ad Q V k.2.1 k.2.2.1 k.2.2.2
  else if k.1 = 208 then pc208 Δ ad Q V k.2.1 k.2.2.1 k.2.2.2
  else if k.1 = 209 then pc209 Δ ad Q V k.2.1 k.2.2.1 k.2.2.2
  else if k.1 = 210 then pc210 Δ ad Q V k.2.1 k.2.2.1 k.2.2.2
  else if k.1 = 211 then pc211 Δ ad Q V k.2.1 k.2.2.1 k.2.2.2
  else if k.1 = 212 then pc212 Δ ad Q V k.2.1 k.2.2.1 k.2.2.2
  else if k.1 = 213 then pc213 Δ ad Q V k.2.1 k.2.2.1 k.2.2.2
  else if k.1 = 214 then pc214 Δ ad Q V k.2.1 k.2.2.1 k.2.2.2
  else if k.1 = 215 then pc215 Δ ad Q V k.2.1 k.2.2.1 k.2.2.2
  else if k.1 = 216 then pc216 Δ ad Q V k.2.1 k.2.2.1 k.2.2.2
  else if k.1 = 217 then pc217 Δ ad Q V k.2.1 k.2.2.1 k.2.2.2
  else if k.1 = 218 then pc218 Δ ad Q V k.2.1 k.2.2.1 k.2.2.2
  else if k.1 = 219 then pc219 Δ ad Q V k.2.1 k.2.2.1 k.2.2.2
  else if k.1 = 220 then pc220 Δ ad Q V k.2.1 k.2.2.1 k.2.2.2
  else if k.1 = 221 then pc221 Δ ad Q V k.2.1 k.2.2.1 k.2.2.2
  else if k.1 = 222 then pc222 Δ ad Q V k.2.1 k.2.2.1 k.2.2.2
  else if k.1 = 223 then pc223 Δ ad Q V k.2.1 k.2.2.1 k.2.2.2
  else none
def pm (Δ : zDl) (ad : zK → Nat) (Q : zP) (V : zS) (X : zMem) : zMem := fun k => if 200 ≤ k.1 ∧ k.1 < 224 then pcnt Δ ad Q V k else X k
theorem pm_in {Δ : zDl} {ad : zK → Nat} {Q : zP} {V : zS} {X : zMem} (k : zK) (h : 200 ≤ k.1 ∧ k.1 < 224) : pm Δ ad Q V X k = pcnt Δ ad Q V k := if_pos h
theorem pm_out {Δ : zDl} {ad : zK → Nat} {Q : zP} {V : zS} {X : zMem} (k : zK) (h : ¬ (200 ≤ k.1 ∧ k.1 < 224)) : pm Δ ad Q V X k = X k := if_neg h
/-- what a cell of the Pier's tells of -/
def pD (Q : zP) (k k' : zK) (f : Int) : Prop :=
  if k.1 = 200 then (k.2 = (0, 0, 0) ∧ (k' = (0, 0, 0, 0) ∨ k' = (200, 0, 0, 0)))
  else if k.1 = 201 then False
  else if k.1 = 202 then False
  else if k.1 = 203 then False
  else if k.1 = 204 then (k' = (14, k.2.1, k.2.2.1, k.2.2.2) ∨ ∃ g, (0 ≤ g ∧ g < Q 3 0 0 ∧ Q 4 g 0 = k.2.1) ∧ f = k.2.2.2 ∧ (k' = (19, g, k.2.2.1, 0) ∨ k' = (20, g, k.2.2.1, 0) ∨ k' = (21, g, k.2.2.1, 0)))
  else if k.1 = 205 then (k.2 = (0, 0, 0) ∧ k'.1 = 8 ∧ f = 1)
  else if k.1 = 206 then (k.2 = (0, 0, 0) ∧ k'.1 = 8 ∧ f = 3)
  else if k.1 = 207 then False
  else if k.1 = 208 then (k.2.2 = (0, 0) ∧ k'.1 = 11 ∧ k'.2.1 = k.2.1)
  else if k.1 = 209 then False
  else if k.1 = 210 then (k.2.2 = (0, 0) ∧ k' = (10, k.2.1, 0, 0))
  else if k.1 = 211 then (k.2 = (0, 0, 0) ∧ k' = (211, 0, 0, 0))
  else if k.1 = 212 then (k.2 = (0, 0, 0) ∧ k' = (212, 0, 0, 0))
  else if k.1 = 213 then (k.2 = (0, 0, 0) ∧ k' = (213, 0, 0, 0))
  else if k.1 = 214 then False
  else if k.1 = 215 then (k.2.2 = (0, 0) ∧ k'.1 = 18 ∧ k'.2.1 = k.2.1 ∧ f = 5)
  else if k.1 = 216 then False
  else if k.1 = 217 then (k.2.2 = (0, 0) ∧ k'.1 = 18 ∧ k'.2.1 = k.2.1 ∧ f = 6)
  else if k.1 = 218 then False
  else if k.1 = 219 then (k.2.2 = (0, 0) ∧ k'.1 = 18 ∧ k'.2.1 = k.2.1 ∧ f = 4)
  else if k.1 = 220 then False
  else if k.1 = 221 then (k.2.2 = (0, 0) ∧ k' = (17, k.2.1, 0, 0))
  else if k.1 = 222 then (k.2 = (0, 0, 0) ∧ k' = (1, 0, 0, 0))
  else if k.1 = 223 then (k.2.2 = (0, 0) ∧ (k' = (1, 0, 0, 0) ∨ k' = (2, 0, 0, 0) ∧ 5 * k.2.1 ≤ f ∧ f < 5 * k.2.1 + 5))
  else False
section ZPM
variable {Δ : zDl} {ad : zK → Nat} {Q : zP} {V V' : zS} {X : zMem} {i j o : Int}
theorem pz_200 : pcnt Δ ad Q V (200, i, j, o) = pc200 Δ ad Q V i j o := rfl
theorem pg_200  : pm Δ ad Q V X (200, 0, 0, 0) = some (.inr (8, [.ref (ad (0, 0, 0, 0)), .ref Δ.2.2.2.1, .int (zI (V (200, 0, 0, 0) 2)), .int (zI (V (0, 0, 0, 0) 6)), .int (zI (V (0, 0, 0, 0) 7)), .int (zI (V (0, 0, 0, 0) 8)), .int (zI (V (0, 0, 0, 0) 5)), .ref (ad (201, 0, 0, 0)), .ref (ad (205, 0, 0, 0)), .ref (ad (206, 0, 0, 0)), .ref (ad (207, 0, 0, 0)), .ref (ad (209, 0, 0, 0)), .int (zI (V (0, 0, 0, 0) 4)), .ref (ad (211, 0, 0, 0)), .ref (ad (212, 0, 0, 0)), .int (zI (V (200, 0, 0, 0) 15)), .ref (ad (213, 0, 0, 0)), .ref (ad (214, 0, 0, 0)), .ref (ad (216, 0, 0, 0)), .ref (ad (218, 0, 0, 0)), .ref (ad (220, 0, 0, 0)), .ref (ad (222, 0, 0, 0))])) := (pm_in _ ⟨Nat.le_of_ble_eq_true rfl, Nat.le_of_ble_eq_true rfl⟩).trans ((pz_200).trans (if_pos ⟨rfl, rfl, rfl⟩))
theorem pv_200 (h : ∀ k' f, pD Q (200, i, j, o) k' f → V' k' f = V k' f) : pc200 Δ ad Q V' i j o = pc200 Δ ad Q V i j o := by
  unfold pc200
  refine ite_cg (fun c => ?_) (fun _ => rfl)
  obtain ⟨rfl, rfl, rfl⟩ := c
  rw [h (200, 0, 0, 0) 2 ⟨rfl, Or.inr rfl⟩, h (0, 0, 0, 0) 6 ⟨rfl, Or.inl rfl⟩, h (0, 0, 0, 0) 7 ⟨rfl, Or.inl rfl⟩, h (0, 0, 0, 0) 8 ⟨rfl, Or.inl rfl⟩, h (0, 0, 0, 0) 5 ⟨rfl, Or.inl rfl⟩, h (0, 0, 0, 0) 4 ⟨rfl, Or.inl rfl⟩, h (200, 0, 0, 0) 15 ⟨rfl, Or.inr rfl⟩]
theorem pz_201 : pcnt Δ ad Q V (201, i, j, o) = pc201 Δ ad Q V i j o := rfl
theorem pg_201  : pm Δ ad Q V X (201, 0, 0, 0) = some (.inl (Δ.2.1 7, (Q 0 0 0).toNat, .inr (.inr (.inr (.inr (zAq (fun x => some (ad (202, x, 0, 0))))))))) := (pm_in _ ⟨Nat.le_of_ble_eq_true rfl, Nat.le_of_ble_eq_true rfl⟩).trans ((pz_201).trans (if_pos ⟨rfl, rfl, rfl⟩))
theorem pv_201 (h : ∀ k' f, pD Q (201, i, j, o) k' f → V' k' f = V k' f) : pc201 Δ ad Q V' i j o = pc201 Δ ad Q V i j o := rfl
theorem pz_202 : pcnt Δ ad Q V (202, i, j, o) = pc202 Δ ad Q V i j o := rfl
theorem pg_202 (h : 0 ≤ i ∧ i < Q 0 0 0) : pm Δ ad Q V X (202, i, 0, 0) = some (.inl (Δ.2.1 6, (Q 1 i 0).toNat, .inr (.inr (.inr (.inr (zAq (fun x => some (ad (203, i, x, 0))))))))) := (pm_in _ ⟨Nat.le_of_ble_eq_true rfl, Nat.le_of_ble_eq_true rfl⟩).trans ((pz_202).trans (if_pos ⟨h, rfl, rfl⟩))
theorem pv_202 (h : ∀ k' f, pD Q (202, i, j, o) k' f → V' k' f = V k' f) : pc202 Δ ad Q V' i j o = pc202 Δ ad Q V i j o := rfl
theorem pz_203 : pcnt Δ ad Q V (203, i, j, o) = pc203 Δ ad Q V i j o := rfl
theorem pg_203 (h : (0 ≤ i ∧ i < Q 0 0 0) ∧ (0 ≤ j ∧ j < Q 1 i 0)) : pm Δ ad Q V X (203, i, j, 0) = some (.inl (Δ.2.1 5, (Q 2 i j).toNat, .inr (.inr (.inr (.inr (zAq (fun x => some (ad (204, i, j, x))))))))) := (pm_in _ ⟨Nat.le_of_ble_eq_true rfl, Nat.le_of_ble_eq_true rfl⟩).trans ((pz_203).trans (if_pos ⟨h, rfl⟩))
theorem pv_203 (h : ∀ k' f, pD Q (203, i, j, o) k' f → V' k' f = V k' f) : pc203 Δ ad Q V' i j o = pc203 Δ ad Q V i j o := rfl
theorem pz_204 : pcnt Δ ad Q V (204, i, j, o) = pc204 Δ ad Q V i j o := rfl
theorem pg_204 (h : ((0 ≤ i ∧ i < Q 0 0 0) ∧ (0 ≤ j ∧ j < Q 1 i 0)) ∧ (0 ≤ o ∧ o < Q 2 i j)) : pm Δ ad Q V X (204, i, j, o) = some (.inl (Δ.2.1 0, 17, .inl (zAi (zpr Q V i j o)))) := (pm_in _ ⟨Nat.le_of_ble_eq_true rfl, Nat.le_of_ble_eq_true rfl⟩).trans ((pz_204).trans (if_pos h))
theorem pv_204 (h : ∀ k' f, pD Q (204, i, j, o) k' f → V' k' f = V k' f) : pc204 Δ ad Q V' i j o = pc204 Δ ad Q V i j o := by
  have e : zpr Q V' i j o = zpr Q V i j o := by
    funext x
    unfold zpr
    rw [h (14, i, j, o) 0 (Or.inl rfl), h (14, i, j, o) 1 (Or.inl rfl), h (14, i, j, o) 2 (Or.inl rfl), h (14, i, j, o) 6 (Or.inl rfl), h (14, i, j, o) 5 (Or.inl rfl)]
    refine ite_cg (fun _ => rfl) (fun _ => ite_cg (fun _ => rfl) (fun _ => ite_cg (fun _ => rfl) (fun _ => ite_cg (fun _ => rfl) (fun _ => ite_cg (fun _ => rfl) (fun _ => ite_cg (fun c => ?_) (fun _ => rfl))))))
    rw [h (19, (x - 5) / 3, j, 0) o (Or.inr ⟨_, c, rfl, Or.inl rfl⟩), h (20, (x - 5) / 3, j, 0) o (Or.inr ⟨_, c, rfl, Or.inr (Or.inl rfl)⟩), h (21, (x - 5) / 3, j, 0) o (Or.inr ⟨_, c, rfl, Or.inr (Or.inr rfl)⟩)]
  unfold pc204
  rw [e]
theorem pz_205 : pcnt Δ ad Q V (205, i, j, o) = pc205 Δ ad Q V i j o := rfl
theorem pg_205  : pm Δ ad Q V X (205, 0, 0, 0) = some (.inl (Δ.2.1 1, 4, .inl (zAi (fun x => V (8, x, 0, 0) 1)))) := (pm_in _ ⟨Nat.le_of_ble_eq_true rfl, Nat.le_of_ble_eq_true rfl⟩).trans ((pz_205).trans (if_pos ⟨rfl, rfl, rfl⟩))
theorem pv_205 (h : ∀ k' f, pD Q (205, i, j, o) k' f → V' k' f = V k' f) : pc205 Δ ad Q V' i j o = pc205 Δ ad Q V i j o := by
  unfold pc205
  refine ite_cg (fun c => ?_) (fun _ => rfl)
  obtain ⟨rfl, rfl, rfl⟩ := c
  have e : (fun x => V' (8, x, 0, 0) 1) = fun x => V (8, x, 0, 0) 1 := funext fun x => h _ _ (show pD Q (205, 0, 0, 0) _ _ from ⟨rfl, rfl, rfl⟩)
  rw [e]
theorem pz_206 : pcnt Δ ad Q V (206, i, j, o) = pc206 Δ ad Q V i j o := rfl
theorem pg_206  : pm Δ ad Q V X (206, 0, 0, 0) = some (.inl (Δ.2.1 0, 4, .inl (zAi (fun x => V (8, x, 0, 0) 3)))) := (pm_in _ ⟨Nat.le_of_ble_eq_true rfl, Nat.le_of_ble_eq_true rfl⟩).trans ((pz_206).trans (if_pos ⟨rfl, rfl, rfl⟩))
theorem pv_206 (h : ∀ k' f, pD Q (206, i, j, o) k' f → V' k' f = V k' f) : pc206 Δ ad Q V' i j o = pc206 Δ ad Q V i j o := by
  unfold pc206
  refine ite_cg (fun c => ?_) (fun _ => rfl)
  obtain ⟨rfl, rfl, rfl⟩ := c
  have e : (fun x => V' (8, x, 0, 0) 3) = fun x => V (8, x, 0, 0) 3 := funext fun x => h _ _ (show pD Q (206, 0, 0, 0) _ _ from ⟨rfl, rfl, rfl⟩)
  rw [e]
theorem pz_207 : pcnt Δ ad Q V (207, i, j, o) = pc207 Δ ad Q V i j o := rfl
theorem pg_207  : pm Δ ad Q V X (207, 0, 0, 0) = some (.inl (Δ.2.1 5, 4, .inr (.inr (.inr (.inr (zAq (fun x => some (ad (208, x, 0, 0))))))))) := (pm_in _ ⟨Nat.le_of_ble_eq_true rfl, Nat.le_of_ble_eq_true rfl⟩).trans ((pz_207).trans (if_pos ⟨rfl, rfl, rfl⟩))
theorem pv_207 (h : ∀ k' f, pD Q (207, i, j, o) k' f → V' k' f = V k' f) : pc207 Δ ad Q V' i j o = pc207 Δ ad Q V i j o := rfl
theorem pz_208 : pcnt Δ ad Q V (208, i, j, o) = pc208 Δ ad Q V i j o := rfl
theorem pg_208 (h : 0 ≤ i ∧ i < 4) : pm Δ ad Q V X (208, i, 0, 0) = some (.inl (Δ.2.1 0, 4, .inl (zAi (fun x => V (11, i, x, 0) 1)))) := (pm_in _ ⟨Nat.le_of_ble_eq_true rfl, Nat.le_of_ble_eq_true rfl⟩).trans ((pz_208).trans (if_pos ⟨h, rfl, rfl⟩))
theorem pv_208 (h : ∀ k' f, pD Q (208, i, j, o) k' f → V' k' f = V k' f) : pc208 Δ ad Q V' i j o = pc208 Δ ad Q V i j o := by
  unfold pc208
  refine ite_cg (fun c => ?_) (fun _ => rfl)
  obtain ⟨-, rfl, rfl⟩ := c
  have e : (fun x => V' (11, i, x, 0) 1) = fun x => V (11, i, x, 0) 1 := funext fun x => h _ _ (show pD Q (208, i, 0, 0) _ _ from ⟨rfl, rfl, rfl⟩)
  rw [e]
theorem pz_209 : pcnt Δ ad Q V (209, i, j, o) = pc209 Δ ad Q V i j o := rfl
theorem pg_209  : pm Δ ad Q V X (209, 0, 0, 0) = some (.inl (Δ.2.1 5, 4, .inr (.inr (.inr (.inr (zAq (fun x => some (ad (210, x, 0, 0))))))))) := (pm_in _ ⟨Nat.le_of_ble_eq_true rfl, Nat.le_of_ble_eq_true rfl⟩).trans ((pz_209).trans (if_pos ⟨rfl, rfl, rfl⟩))
theorem pv_209 (h : ∀ k' f, pD Q (209, i, j, o) k' f → V' k' f = V k' f) : pc209 Δ ad Q V' i j o = pc209 Δ ad Q V i j o := rfl
theorem pz_210 : pcnt Δ ad Q V (210, i, j, o) = pc210 Δ ad Q V i j o := rfl
theorem pg_210 (h : 0 ≤ i ∧ i < 4) : pm Δ ad Q V X (210, i, 0, 0) = some (.inl (Δ.2.1 0, 4, .inl (zAi (fun x => V (10, i, 0, 0) x)))) := (pm_in _ ⟨Nat.le_of_ble_eq_true rfl, Nat.le_of_ble_eq_true rfl⟩).trans ((pz_210).trans (if_pos ⟨h, rfl, rfl⟩))
theorem pv_210 (h : ∀ k' f, pD Q (210, i, j, o) k' f → V' k' f = V k' f) : pc210 Δ ad Q V' i j o = pc210 Δ ad Q V i j o := by
  unfold pc210
  refine ite_cg (fun c => ?_) (fun _ => rfl)
  obtain ⟨-, rfl, rfl⟩ := c
  have e : (fun x => V' (10, i, 0, 0) x) = fun x => V (10, i, 0, 0) x := funext fun x => h _ _ (show pD Q (210, i, 0, 0) _ _ from ⟨rfl, rfl⟩)
  rw [e]
theorem pz_211 : pcnt Δ ad Q V (211, i, j, o) = pc211 Δ ad Q V i j o := rfl
theorem pg_211  : pm Δ ad Q V X (211, 0, 0, 0) = some (.inl (Δ.2.1 0, 200, .inl (zAi (fun x => V (211, 0, 0, 0) x)))) := (pm_in _ ⟨Nat.le_of_ble_eq_true rfl, Nat.le_of_ble_eq_true rfl⟩).trans ((pz_211).trans (if_pos ⟨rfl, rfl, rfl⟩))
theorem pv_211 (h : ∀ k' f, pD Q (211, i, j, o) k' f → V' k' f = V k' f) : pc211 Δ ad Q V' i j o = pc211 Δ ad Q V i j o := by
  unfold pc211
  refine ite_cg (fun c => ?_) (fun _ => rfl)
  obtain ⟨rfl, rfl, rfl⟩ := c
  have e : (fun x => V' (211, 0, 0, 0) x) = fun x => V (211, 0, 0, 0) x := funext fun x => h _ _ (show pD Q (211, 0, 0, 0) _ _ from ⟨rfl, rfl⟩)
  rw [e]
theorem pz_212 : pcnt Δ ad Q V (212, i, j, o) = pc212 Δ ad Q V i j o := rfl
theorem pg_212  : pm Δ ad Q V X (212, 0, 0, 0) = some (.inl (Δ.2.1 0, 4, .inl (zAi (fun x => V (212, 0, 0, 0) x)))) := (pm_in _ ⟨Nat.le_of_ble_eq_true rfl, Nat.le_of_ble_eq_true rfl⟩).trans ((pz_212).trans (if_pos ⟨rfl, rfl, rfl⟩))
theorem pv_212 (h : ∀ k' f, pD Q (212, i, j, o) k' f → V' k' f = V k' f) : pc212 Δ ad Q V' i j o = pc212 Δ ad Q V i j o := by
  unfold pc212
  refine ite_cg (fun c => ?_) (fun _ => rfl)
  obtain ⟨rfl, rfl, rfl⟩ := c
  have e : (fun x => V' (212, 0, 0, 0) x) = fun x => V (212, 0, 0, 0) x := funext fun x => h _ _ (show pD Q (212, 0, 0, 0) _ _ from ⟨rfl, rfl⟩)
  rw [e]
theorem pz_213 : pcnt Δ ad Q V (213, i, j, o) = pc213 Δ ad Q V i j o := rfl
theorem pg_213  : pm Δ ad Q V X (213, 0, 0, 0) = some (.inl (Δ.2.1 0, 4, .inl (zAi (fun x => V (213, 0, 0, 0) x)))) := (pm_in _ ⟨Nat.le_of_ble_eq_true rfl, Nat.le_of_ble_eq_true rfl⟩).trans ((pz_213).trans (if_pos ⟨rfl, rfl, rfl⟩))
theorem pv_213 (h : ∀ k' f, pD Q (213, i, j, o) k' f → V' k' f = V k' f) : pc213 Δ ad Q V' i j o = pc213 Δ ad Q V i j o := by
  unfold pc213
  refine ite_cg (fun c => ?_) (fun _ => rfl)
  obtain ⟨rfl, rfl, rfl⟩ := c
  have e : (fun x => V' (213, 0, 0, 0) x) = fun x => V (213, 0, 0, 0) x := funext fun x => h _ _ (show pD Q (213, 0, 0, 0) _ _ from ⟨rfl, rfl⟩)
  rw [e]
theorem pz_214 : pcnt Δ ad Q V (214, i, j, o) = pc214 Δ ad Q V i j o := rfl
theorem pg_214  : pm Δ ad Q V X (214, 0, 0, 0) = some (.inl (Δ.2.1 5, 4, .inr (.inr (.inr (.inr (zAq (fun x => some (ad (215, x, 0, 0))))))))) := (pm_in _ ⟨Nat.le_of_ble_eq_true rfl, Nat.le_of_ble_eq_true rfl⟩).trans ((pz_214).trans (if_pos ⟨rfl, rfl, rfl⟩))
theorem pv_214 (h : ∀ k' f, pD Q (214, i, j, o) k' f → V' k' f = V k' f) : pc214 Δ ad Q V' i j o = pc214 Δ ad Q V i j o := rfl
theorem pz_215 : pcnt Δ ad Q V (215, i, j, o) = pc215 Δ ad Q V i j o := rfl
theorem pg_215 (h : 0 ≤ i ∧ i < 4) : pm Δ ad Q V X (215, i, 0, 0) = some (.inl (Δ.2.1 0, 4, .inl (zAi (fun x => V (18, i, x, 0) 5)))) := (pm_in _ ⟨Nat.le_of_ble_eq_true rfl, Nat.le_of_ble_eq_true rfl⟩).trans ((pz_215).trans (if_pos ⟨h, rfl, rfl⟩))
theorem pv_215 (h : ∀ k' f, pD Q (215, i, j, o) k' f → V' k' f = V k' f) : pc215 Δ ad Q V' i j o = pc215 Δ ad Q V i j o := by
  unfold pc215
  refine ite_cg (fun c => ?_) (fun _ => rfl)
  obtain ⟨-, rfl, rfl⟩ := c
  have e : (fun x => V' (18, i, x, 0) 5) = fun x => V (18, i, x, 0) 5 := funext fun x => h _ _ (show pD Q (215, i, 0, 0) _ _ from ⟨rfl, rfl, rfl, rfl⟩)
  rw [e]
theorem pz_216 : pcnt Δ ad Q V (216, i, j, o) = pc216 Δ ad Q V i j o := rfl
theorem pg_216  : pm Δ ad Q V X (216, 0, 0, 0) = some (.inl (Δ.2.1 5, 4, .inr (.inr (.inr (.inr (zAq (fun x => some (ad (217, x, 0, 0))))))))) := (pm_in _ ⟨Nat.le_of_ble_eq_true rfl, Nat.le_of_ble_eq_true rfl⟩).trans ((pz_216).trans (if_pos ⟨rfl, rfl, rfl⟩))
theorem pv_216 (h : ∀ k' f, pD Q (216, i, j, o) k' f → V' k' f = V k' f) : pc216 Δ ad Q V' i j o = pc216 Δ ad Q V i j o := rfl
theorem pz_217 : pcnt Δ ad Q V (217, i, j, o) = pc217 Δ ad Q V i j o := rfl
theorem pg_217 (h : 0 ≤ i ∧ i < 4) : pm Δ ad Q V X (217, i, 0, 0) = some (.inl (Δ.2.1 0, 4, .inl (zAi (fun x => V (18, i, x, 0) 6)))) := (pm_in _ ⟨Nat.le_of_ble_eq_true rfl, Nat.le_of_ble_eq_true rfl⟩).trans ((pz_217).trans (if_pos ⟨h, rfl, rfl⟩))
theorem pv_217 (h : ∀ k' f, pD Q (217, i, j, o) k' f → V' k' f = V k' f) : pc217 Δ ad Q V' i j o = pc217 Δ ad Q V i j o := by
  unfold pc217
  refine ite_cg (fun c => ?_) (fun _ => rfl)
  obtain ⟨-, rfl, rfl⟩ := c
  have e : (fun x => V' (18, i, x, 0) 6) = fun x => V (18, i, x, 0) 6 := funext fun x => h _ _ (show pD Q (217, i, 0, 0) _ _ from ⟨rfl, rfl, rfl, rfl⟩)
  rw [e]
theorem pz_218 : pcnt Δ ad Q V (218, i, j, o) = pc218 Δ ad Q V i j o := rfl
theorem pg_218  : pm Δ ad Q V X (218, 0, 0, 0) = some (.inl (Δ.2.1 5, 4, .inr (.inr (.inr (.inr (zAq (fun x => some (ad (219, x, 0, 0))))))))) := (pm_in _ ⟨Nat.le_of_ble_eq_true rfl, Nat.le_of_ble_eq_true rfl⟩).trans ((pz_218).trans (if_pos ⟨rfl, rfl, rfl⟩))
theorem pv_218 (h : ∀ k' f, pD Q (218, i, j, o) k' f → V' k' f = V k' f) : pc218 Δ ad Q V' i j o = pc218 Δ ad Q V i j o := rfl
theorem pz_219 : pcnt Δ ad Q V (219, i, j, o) = pc219 Δ ad Q V i j o := rfl
theorem pg_219 (h : 0 ≤ i ∧ i < 4) : pm Δ ad Q V X (219, i, 0, 0) = some (.inl (Δ.2.1 0, 4, .inl (zAi (fun x => V (18, i, x, 0) 4)))) := (pm_in _ ⟨Nat.le_of_ble_eq_true rfl, Nat.le_of_ble_eq_true rfl⟩).trans ((pz_219).trans (if_pos ⟨h, rfl, rfl⟩))
theorem pv_219 (h : ∀ k' f, pD Q (219, i, j, o) k' f → V' k' f = V k' f) : pc219 Δ ad Q V' i j o = pc219 Δ ad Q V i j o := by
  unfold pc219
  refine ite_cg (fun c => ?_) (fun _ => rfl)
  obtain ⟨-, rfl, rfl⟩ := c
  have e : (fun x => V' (18, i, x, 0) 4) = fun x => V (18, i, x, 0) 4 := funext fun x => h _ _ (show pD Q (219, i, 0, 0) _ _ from ⟨rfl, rfl, rfl, rfl⟩)
  rw [e]
theorem pz_220 : pcnt Δ ad Q V (220, i, j, o) = pc220 Δ ad Q V i j o := rfl
theorem pg_220  : pm Δ ad Q V X (220, 0, 0, 0) = some (.inl (Δ.2.1 8, 4, .inr (.inr (.inr (.inr (zAq (fun x => some (ad (221, x, 0, 0))))))))) := (pm_in _ ⟨Nat.le_of_ble_eq_true rfl, Nat.le_of_ble_eq_true rfl⟩).trans ((pz_220).trans (if_pos ⟨rfl, rfl, rfl⟩))
theorem pv_220 (h : ∀ k' f, pD Q (220, i, j, o) k' f → V' k' f = V k' f) : pc220 Δ ad Q V' i j o = pc220 Δ ad Q V i j o := rfl
theorem pz_221 : pcnt Δ ad Q V (221, i, j, o) = pc221 Δ ad Q V i j o := rfl
theorem pg_221 (h : 0 ≤ i ∧ i < 4) : pm Δ ad Q V X (221, i, 0, 0) = some (.inl (Δ.2.1 1, 6, .inl (zAi (fun x => V (17, i, 0, 0) x)))) := (pm_in _ ⟨Nat.le_of_ble_eq_true rfl, Nat.le_of_ble_eq_true rfl⟩).trans ((pz_221).trans (if_pos ⟨h, rfl, rfl⟩))
theorem pv_221 (h : ∀ k' f, pD Q (221, i, j, o) k' f → V' k' f = V k' f) : pc221 Δ ad Q V' i j o = pc221 Δ ad Q V i j o := by
  unfold pc221
  refine ite_cg (fun c => ?_) (fun _ => rfl)
  obtain ⟨-, rfl, rfl⟩ := c
  have e : (fun x => V' (17, i, 0, 0) x) = fun x => V (17, i, 0, 0) x := funext fun x => h _ _ (show pD Q (221, i, 0, 0) _ _ from ⟨rfl, rfl⟩)
  rw [e]
theorem pz_222 : pcnt Δ ad Q V (222, i, j, o) = pc222 Δ ad Q V i j o := rfl
theorem pg_222  : pm Δ ad Q V X (222, 0, 0, 0) = some (.inl (Δ.2.1 5, (V (1, 0, 0, 0) 1).toNat, .inr (.inr (.inr (.inr (zAq (fun x => some (ad (223, x, 0, 0))))))))) := (pm_in _ ⟨Nat.le_of_ble_eq_true rfl, Nat.le_of_ble_eq_true rfl⟩).trans ((pz_222).trans (if_pos ⟨rfl, rfl, rfl⟩))
theorem pv_222 (h : ∀ k' f, pD Q (222, i, j, o) k' f → V' k' f = V k' f) : pc222 Δ ad Q V' i j o = pc222 Δ ad Q V i j o := by
  unfold pc222
  refine ite_cg (fun c => ?_) (fun _ => rfl)
  obtain ⟨rfl, rfl, rfl⟩ := c
  rw [h (1, 0, 0, 0) 1 ⟨rfl, rfl⟩]
theorem pz_223 : pcnt Δ ad Q V (223, i, j, o) = pc223 Δ ad Q V i j o := rfl
theorem pg_223 (h : 0 ≤ i ∧ i < V (1, 0, 0, 0) 1) : pm Δ ad Q V X (223, i, 0, 0) = some (.inl (Δ.2.1 0, 5, .inl (zAi (fun x => if 0 ≤ x ∧ x < 5 then V (2, 0, 0, 0) (5 * i + x) else 0)))) := (pm_in _ ⟨Nat.le_of_ble_eq_true rfl, Nat.le_of_ble_eq_true rfl⟩).trans ((pz_223).trans (if_pos ⟨h, rfl, rfl⟩))
theorem pv_223 (h : ∀ k' f, pD Q (223, i, j, o) k' f → V' k' f = V k' f) : pc223 Δ ad Q V' i j o = pc223 Δ ad Q V i j o := by
  unfold pc223
  by_cases hj : j = 0 ∧ o = 0
  · obtain ⟨rfl, rfl⟩ := hj
    rw [h (1, 0, 0, 0) 1 ⟨rfl, Or.inl rfl⟩]
    have e : (fun x => if 0 ≤ x ∧ x < 5 then V' (2, 0, 0, 0) (5 * i + x) else 0) = fun x => if 0 ≤ x ∧ x < 5 then V (2, 0, 0, 0) (5 * i + x) else 0 := funext fun x => ite_cg (fun c => h _ _ ⟨rfl, Or.inr ⟨rfl, by show 5 * i ≤ _; omega, by show _ < 5 * i + 5; omega⟩⟩) (fun _ => rfl)
    rw [e]
  · rw [if_neg (fun q => hj q.2), if_neg (fun q => hj q.2)]
theorem pcnt_V {k : zK} (h : ∀ k' f, pD Q k k' f → V' k' f = V k' f) : pcnt Δ ad Q V' k = pcnt Δ ad Q V k := by
  obtain ⟨n, i, j, o⟩ := k
  unfold pcnt
  refine ite_cg (fun e => by have e' : n = 200 := e; subst e'; exact pv_200 h) (fun _ => ?_)
  refine ite_cg (fun e => by have e' : n = 201 := e; subst e'; exact pv_201 h) (fun _ => ?_)
  refine ite_cg (fun e => by have e' : n = 202 := e; subst e'; exact pv_202 h) (fun _ => ?_)
  refine ite_cg (fun e => by have e' : n = 203 := e; subst e'; exact pv_203 h) (fun _ => ?_)
  refine ite_cg (fun e => by have e' : n = 204 := e; subst e'; exact pv_204 h) (fun _ => ?_)
  refine ite_cg (fun e => by have e' : n = 205 := e; subst e'; exact pv_205 h) (fun _ => ?_)
  refine ite_cg (fun e => by have e' : n = 206 := e; subst e'; exact pv_206 h) (fun _ => ?_)
  refine ite_cg (fun e => by have e' : n = 207 := e; subst e'; exact pv_207 h) (fun _ => ?_)
  refine ite_cg (fun e => by have e' : n = 208 := e; subst e'; exact pv_208 h) (fun _ => ?_)
  refine ite_cg (fun e => by have e' : n = 209 := e; subst e'; exact pv_209 h) (fun _ => ?_)
  refine ite_cg (fun e => by have e' : n = 210 := e; subst e'; exact pv_210 h) (fun _ => ?_)
  refine ite_cg (fun e => by have e' : n = 211 := e; subst e'; exact pv_211 h) (fun _ => ?_)
  refine ite_cg (fun e => by have e' : n = 212 := e; subst e'; exact pv_212 h) (fun _ => ?_)
  refine ite_cg (fun e => by have e' : n = 213 := e; subst e'; exact pv_213 h) (fun _ => ?_)
  refine ite_cg (fun e => by have e' : n = 214 := e; subst e'; exact pv_214 h) (fun _ => ?_)
  refine ite_cg (fun e => by have e' : n = 215 := e; subst e'; exact pv_215 h) (fun _ => ?_)
  refine ite_cg (fun e => by have e' : n = 216 := e; subst e'; exact pv_216 h) (fun _ => ?_)
  refine ite_cg (fun e => by have e' : n = 217 := e; subst e'; exact pv_217 h) (fun _ => ?_)
  refine ite_cg (fun e => by have e' : n = 218 := e; subst e'; exact pv_218 h) (fun _ => ?_)
  refine ite_cg (fun e => by have e' : n = 219 := e; subst e'; exact pv_219 h) (fun _ => ?_)
  refine ite_cg (fun e => by have e' : n = 220 := e; subst e'; exact pv_220 h) (fun _ => ?_)
  refine ite_cg (fun e => by have e' : n = 221 := e; subst e'; exact pv_221 h) (fun _ => ?_)
  refine ite_cg (fun e => by have e' : n = 222 := e; subst e'; exact pv_222 h) (fun _ => ?_)
  refine ite_cg (fun e => by have e' : n = 223 := e; subst e'; exact pv_223 h) (fun _ => ?_)
  rfl
/-- one number is written -/
theorem pm_wr {k k0 : zK} {f0 v : Int} {e : va_E} (hk : 200 ≤ k.1 ∧ k.1 < 224) (he : pcnt Δ ad Q (zst V k0 f0 v) k = some e) (hd : ∀ j, j ≠ k → ¬ pD Q j k0 f0) : zup1 (pm Δ ad Q V X) k (some e) = pm Δ ad Q (zst V k0 f0 v) X := by
  funext j
  by_cases h : j = k
  · subst h
    rw [zup1_s, pm_in _ hk, he]
  · rw [zup1_n _ _ h]
    show (if _ then pcnt Δ ad Q V j else X j) = if _ then pcnt Δ ad Q (zst V k0 f0 v) j else X j
    refine ite_cg (fun _ => (pcnt_V (fun k' f hp => ?_)).symm) (fun _ => rfl)
    rw [zst_at, if_neg (fun q => hd j h (by rw [← q.1, ← q.2]; exact hp))]
theorem pD_no {P : Prop} (h : P) (n : ¬ P) {R : Prop} : R := absurd h n
end ZPM
section ZPP
variable {Δ : zDl} {ad : zK → Nat} {Q : zP} {V : zS} {X : zMem}
theorem pp_205 {a v : Int} : zup1 (pm Δ ad Q V X) (205, 0, 0, 0) (some (.inl (Δ.2.1 1, 4, .inl (zAi (zup (fun x => V (8, x, 0, 0) 1) a v))))) = pm Δ ad Q (zst V (8, a, 0, 0) 1 v) X := pm_wr ⟨Nat.le_of_ble_eq_true rfl, Nat.le_of_ble_eq_true rfl⟩ ((pz_205).trans ((if_pos ⟨rfl, rfl, rfl⟩).trans (by rw [← show (fun x => zst V (8, a, 0, 0) 1 v (8, x, 0, 0) 1) = zup (fun x => V (8, x, 0, 0) 1) a v from funext fun x => by simp [zst_at, zup]]))) (fun j hj h => by obtain ⟨n, a1, a2, a3⟩ := j; unfold pD at h; (repeat' split at h) <;> simp_all)
theorem pp_206 {a v : Int} : zup1 (pm Δ ad Q V X) (206, 0, 0, 0) (some (.inl (Δ.2.1 0, 4, .inl (zAi (zup (fun x => V (8, x, 0, 0) 3) a v))))) = pm Δ ad Q (zst V (8, a, 0, 0) 3 v) X := pm_wr ⟨Nat.le_of_ble_eq_true rfl, Nat.le_of_ble_eq_true rfl⟩ ((pz_206).trans ((if_pos ⟨rfl, rfl, rfl⟩).trans (by rw [← show (fun x => zst V (8, a, 0, 0) 3 v (8, x, 0, 0) 3) = zup (fun x => V (8, x, 0, 0) 3) a v from funext fun x => by simp [zst_at, zup]]))) (fun j hj h => by obtain ⟨n, a1, a2, a3⟩ := j; unfold pD at h; (repeat' split at h) <;> simp_all)
theorem pp_208 {i a v : Int} (h : 0 ≤ i ∧ i < 4) : zup1 (pm Δ ad Q V X) (208, i, 0, 0) (some (.inl (Δ.2.1 0, 4, .inl (zAi (zup (fun x => V (11, i, x, 0) 1) a v))))) = pm Δ ad Q (zst V (11, i, a, 0) 1 v) X := pm_wr ⟨Nat.le_of_ble_eq_true rfl, Nat.le_of_ble_eq_true rfl⟩ ((pz_208).trans ((if_pos ⟨h, rfl, rfl⟩).trans (by rw [← show (fun x => zst V (11, i, a, 0) 1 v (11, i, x, 0) 1) = zup (fun x => V (11, i, x, 0) 1) a v from funext fun x => by simp [zst_at, zup]]))) (fun j hj h => by obtain ⟨n, a1, a2, a3⟩ := j; unfold pD at h; (repeat' split at h) <;> simp_all)
theorem pp_210 {i a v : Int} (h : 0 ≤ i ∧ i < 4) : zup1 (pm Δ ad Q V X) (210, i, 0, 0) (some (.inl (Δ.2.1 0, 4, .inl (zAi (zup (fun x => V (10, i, 0, 0) x) a v))))) = pm Δ ad Q (zst V (10, i, 0, 0) a v) X := pm_wr ⟨Nat.le_of_ble_eq_true rfl, Nat.le_of_ble_eq_true rfl⟩ ((pz_210).trans ((if_pos ⟨h, rfl, rfl⟩).trans (by rw [← show (fun x => zst V (10, i, 0, 0) a v (10, i, 0, 0) x) = zup (fun x => V (10, i, 0, 0) x) a v from funext fun x => by simp [zst_at, zup]]))) (fun j hj h => by obtain ⟨n, a1, a2, a3⟩ := j; unfold pD at h; (repeat' split at h) <;> simp_all)
theorem pp_211 {a v : Int} : zup1 (pm Δ ad Q V X) (211, 0, 0, 0) (some (.inl (Δ.2.1 0, 200, .inl (zAi (zup (fun x => V (211, 0, 0, 0) x) a v))))) = pm Δ ad Q (zst V (211, 0, 0, 0) a v) X := pm_wr ⟨Nat.le_of_ble_eq_true rfl, Nat.le_of_ble_eq_true rfl⟩ ((pz_211).trans ((if_pos ⟨rfl, rfl, rfl⟩).trans (by rw [← show (fun x => zst V (211, 0, 0, 0) a v (211, 0, 0, 0) x) = zup (fun x => V (211, 0, 0, 0) x) a v from funext fun x => by simp [zst_at, zup]]))) (fun j hj h => by obtain ⟨n, a1, a2, a3⟩ := j; unfold pD at h; (repeat' split at h) <;> simp_all)
theorem pp_212 {a v : Int} : zup1 (pm Δ ad Q V X) (212, 0, 0, 0) (some (.inl (Δ.2.1 0, 4, .inl (zAi (zup (fun x => V (212, 0, 0, 0) x) a v))))) = pm Δ ad Q (zst V (212, 0, 0, 0) a v) X := pm_wr ⟨Nat.le_of_ble_eq_true rfl, Nat.le_of_ble_eq_true rfl⟩ ((pz_212).trans ((if_pos ⟨rfl, rfl, rfl⟩).trans (by rw [← show (fun x => zst V (212, 0, 0, 0) a v (212, 0, 0, 0) x) = zup (fun x => V (212, 0, 0, 0) x) a v from funext fun x => by simp [zst_at, zup]]))) (fun j hj h => by obtain ⟨n, a1, a2, a3⟩ := j; unfold pD at h; (repeat' split at h) <;> simp_all)
theorem pp_213 {a v : Int} : zup1 (pm Δ ad Q V X) (213, 0, 0, 0) (some (.inl (Δ.2.1 0, 4, .inl (zAi (zup (fun x => V (213, 0, 0, 0) x) a v))))) = pm Δ ad Q (zst V (213, 0, 0, 0) a v) X := pm_wr ⟨Nat.le_of_ble_eq_true rfl, Nat.le_of_ble_eq_true rfl⟩ ((pz_213).trans ((if_pos ⟨rfl, rfl, rfl⟩).trans (by rw [← show (fun x => zst V (213, 0, 0, 0) a v (213, 0, 0, 0) x) = zup (fun x => V (213, 0, 0, 0) x) a v from funext fun x => by simp [zst_at, zup]]))) (fun j hj h => by obtain ⟨n, a1, a2, a3⟩ := j; unfold pD at h; (repeat' split at h) <;> simp_all)
theorem pp_215 {i a v : Int} (h : 0 ≤ i ∧ i < 4) : zup1 (pm Δ ad Q V X) (215, i, 0, 0) (some (.inl (Δ.2.1 0, 4, .inl (zAi (zup (fun x => V (18, i, x, 0) 5) a v))))) = pm Δ ad Q (zst V (18, i, a, 0) 5 v) X := pm_wr ⟨Nat.le_of_ble_eq_true rfl, Nat.le_of_ble_eq_true rfl⟩ ((pz_215).trans ((if_pos ⟨h, rfl, rfl⟩).trans (by rw [← show (fun x => zst V (18, i, a, 0) 5 v (18, i, x, 0) 5) = zup (fun x => V (18, i, x, 0) 5) a v from funext fun x => by simp [zst_at, zup]]))) (fun j hj h => by obtain ⟨n, a1, a2, a3⟩ := j; unfold pD at h; (repeat' split at h) <;> simp_all)
theorem pp_217 {i a v : Int} (h : 0 ≤ i ∧ i < 4) : zup1 (pm Δ ad Q V X) (217, i, 0, 0) (some (.inl (Δ.2.1 0, 4, .inl (zAi (zup (fun x => V (18, i, x, 0) 6) a v))))) = pm Δ ad Q (zst V (18, i, a, 0) 6 v) X := pm_wr ⟨Nat.le_of_ble_eq_true rfl, Nat.le_of_ble_eq_true rfl⟩ ((pz_217).trans ((if_pos ⟨h, rfl, rfl⟩).trans (by rw [← show (fun x => zst V (18, i, a, 0) 6 v (18, i, x, 0) 6) = zup (fun x => V (18, i, x, 0) 6) a v from funext fun x => by simp [zst_at, zup]]))) (fun j hj h => by obtain ⟨n, a1, a2, a3⟩ := j; unfold pD at h; (repeat' split at h) <;> simp_all)
theorem pp_219 {i a v : Int} (h : 0 ≤ i ∧ i < 4) : zup1 (pm Δ ad Q V X) (219, i, 0, 0) (some (.inl (Δ.2.1 0, 4, .inl (zAi (zup (fun x => V (18, i, x, 0) 4) a v))))) = pm Δ ad Q (zst V (18, i, a, 0) 4 v) X := pm_wr ⟨Nat.le_of_ble_eq_true rfl, Nat.le_of_ble_eq_true rfl⟩ ((pz_219).trans ((if_pos ⟨h, rfl, rfl⟩).trans (by rw [← show (fun x => zst V (18, i, a, 0) 4 v (18, i, x, 0) 4) = zup (fun x => V (18, i, x, 0) 4) a v from funext fun x => by simp [zst_at, zup]]))) (fun j hj h => by obtain ⟨n, a1, a2, a3⟩ := j; unfold pD at h; (repeat' split at h) <;> simp_all)
theorem pp_221 {i a v : Int} (h : 0 ≤ i ∧ i < 4) : zup1 (pm Δ ad Q V X) (221, i, 0, 0) (some (.inl (Δ.2.1 1, 6, .inl (zAi (zup (fun x => V (17, i, 0, 0) x) a v))))) = pm Δ ad Q (zst V (17, i, 0, 0) a v) X := pm_wr ⟨Nat.le_of_ble_eq_true rfl, Nat.le_of_ble_eq_true rfl⟩ ((pz_221).trans ((if_pos ⟨h, rfl, rfl⟩).trans (by rw [← show (fun x => zst V (17, i, 0, 0) a v (17, i, 0, 0) x) = zup (fun x => V (17, i, 0, 0) x) a v from funext fun x => by simp [zst_at, zup]]))) (fun j hj h => by obtain ⟨n, a1, a2, a3⟩ := j; unfold pD at h; (repeat' split at h) <;> simp_all)
theorem pp_200_2 {v : Int} : zup1 (pm Δ ad Q V X) (200, 0, 0, 0) (some (.inr (8, List.set [.ref (ad (0, 0, 0, 0)), .ref Δ.2.2.2.1, .int (zI (V (200, 0, 0, 0) 2)), .int (zI (V (0, 0, 0, 0) 6)), .int (zI (V (0, 0, 0, 0) 7)), .int (zI (V (0, 0, 0, 0) 8)), .int (zI (V (0, 0, 0, 0) 5)), .ref (ad (201, 0, 0, 0)), .ref (ad (205, 0, 0, 0)), .ref (ad (206, 0, 0, 0)), .ref (ad (207, 0, 0, 0)), .ref (ad (209, 0, 0, 0)), .int (zI (V (0, 0, 0, 0) 4)), .ref (ad (211, 0, 0, 0)), .ref (ad (212, 0, 0, 0)), .int (zI (V (200, 0, 0, 0) 15)), .ref (ad (213, 0, 0, 0)), .ref (ad (214, 0, 0, 0)), .ref (ad (216, 0, 0, 0)), .ref (ad (218, 0, 0, 0)), .ref (ad (220, 0, 0, 0)), .ref (ad (222, 0, 0, 0))] 2 (.int (zI v))))) = pm Δ ad Q (zst V (200, 0, 0, 0) 2 v) X := pm_wr ⟨Nat.le_of_ble_eq_true rfl, Nat.le_of_ble_eq_true rfl⟩ ((pz_200).trans ((if_pos ⟨rfl, rfl, rfl⟩).trans (by simp [zst_at]))) (fun j hj h => by obtain ⟨n, a1, a2, a3⟩ := j; unfold pD at h; (repeat' split at h) <;> simp_all)
theorem pp_200_3 {v : Int} : zup1 (pm Δ ad Q V X) (200, 0, 0, 0) (some (.inr (8, List.set [.ref (ad (0, 0, 0, 0)), .ref Δ.2.2.2.1, .int (zI (V (200, 0, 0, 0) 2)), .int (zI (V (0, 0, 0, 0) 6)), .int (zI (V (0, 0, 0, 0) 7)), .int (zI (V (0, 0, 0, 0) 8)), .int (zI (V (0, 0, 0, 0) 5)), .ref (ad (201, 0, 0, 0)), .ref (ad (205, 0, 0, 0)), .ref (ad (206, 0, 0, 0)), .ref (ad (207, 0, 0, 0)), .ref (ad (209, 0, 0, 0)), .int (zI (V (0, 0, 0, 0) 4)), .ref (ad (211, 0, 0, 0)), .ref (ad (212, 0, 0, 0)), .int (zI (V (200, 0, 0, 0) 15)), .ref (ad (213, 0, 0, 0)), .ref (ad (214, 0, 0, 0)), .ref (ad (216, 0, 0, 0)), .ref (ad (218, 0, 0, 0)), .ref (ad (220, 0, 0, 0)), .ref (ad (222, 0, 0, 0))] 3 (.int (zI v))))) = pm Δ ad Q (zst V (0, 0, 0, 0) 6 v) X := pm_wr ⟨Nat.le_of_ble_eq_true rfl, Nat.le_of_ble_eq_true rfl⟩ ((pz_200).trans ((if_pos ⟨rfl, rfl, rfl⟩).trans (by simp [zst_at]))) (fun j hj h => by obtain ⟨n, a1, a2, a3⟩ := j; unfold pD at h; (repeat' split at h) <;> simp_all)
theorem pp_200_4 {v : Int} : zup1 (pm Δ ad Q V X) (200, 0, 0, 0) (some (.inr (8, List.set [.ref (ad (0, 0, 0, 0)), .ref Δ.2.2.2.1, .int (zI (V (200, 0, 0, 0) 2)), .int (zI (V (0, 0, 0, 0) 6)), .int (zI (V (0, 0, 0, 0) 7)), .int (zI (V (0, 0, 0, 0) 8)), .int (zI (V (0, 0, 0, 0) 5)), .ref (ad (201, 0, 0, 0)), .ref (ad (205, 0, 0, 0)), .ref (ad (206, 0, 0, 0)), .ref (ad (207, 0, 0, 0)), .ref (ad (209, 0, 0, 0)), .int (zI (V (0, 0, 0, 0) 4)), .ref (ad (211, 0, 0, 0)), .ref (ad (212, 0, 0, 0)), .int (zI (V (200, 0, 0, 0) 15)), .ref (ad (213, 0, 0, 0)), .ref (ad (214, 0, 0, 0)), .ref (ad (216, 0, 0, 0)), .ref (ad (218, 0, 0, 0)), .ref (ad (220, 0, 0, 0)), .ref (ad (222, 0, 0, 0))] 4 (.int (zI v))))) = pm Δ ad Q (zst V (0, 0, 0, 0) 7 v) X := pm_wr ⟨Nat.le_of_ble_eq_true rfl, Nat.le_of_ble_eq_true rfl⟩ ((pz_200).trans ((if_pos ⟨rfl, rfl, rfl⟩).trans (by simp [zst_at]))) (fun j hj h => by obtain ⟨n, a1, a2, a3⟩ := j; unfold pD at h; (repeat' split at h) <;> simp_all)
theorem pp_200_5 {v : Int} : zup1 (pm Δ ad Q V X) (200, 0, 0, 0) (some (.inr (8, List.set [.ref (ad (0, 0, 0, 0)), .ref Δ.2.2.2.1, .int (zI (V (200, 0, 0, 0) 2)), .int (zI (V (0, 0, 0, 0) 6)), .int (zI (V (0, 0, 0, 0) 7)), .int (zI (V (0, 0, 0, 0) 8)), .int (zI (V (0, 0, 0, 0) 5)), .ref (ad (201, 0, 0, 0)), .ref (ad (205, 0, 0, 0)), .ref (ad (206, 0, 0, 0)), .ref (ad (207, 0, 0, 0)), .ref (ad (209, 0, 0, 0)), .int (zI (V (0, 0, 0, 0) 4)), .ref (ad (211, 0, 0, 0)), .ref (ad (212, 0, 0, 0)), .int (zI (V (200, 0, 0, 0) 15)), .ref (ad (213, 0, 0, 0)), .ref (ad (214, 0, 0, 0)), .ref (ad (216, 0, 0, 0)), .ref (ad (218, 0, 0, 0)), .ref (ad (220, 0, 0, 0)), .ref (ad (222, 0, 0, 0))] 5 (.int (zI v))))) = pm Δ ad Q (zst V (0, 0, 0, 0) 8 v) X := pm_wr ⟨Nat.le_of_ble_eq_true rfl, Nat.le_of_ble_eq_true rfl⟩ ((pz_200).trans ((if_pos ⟨rfl, rfl, rfl⟩).trans (by simp [zst_at]))) (fun j hj h => by obtain ⟨n, a1, a2, a3⟩ := j; unfold pD at h; (repeat' split at h) <;> simp_all)
theorem pp_200_6 {v : Int} : zup1 (pm Δ ad Q V X) (200, 0, 0, 0) (some (.inr (8, List.set [.ref (ad (0, 0, 0, 0)), .ref Δ.2.2.2.1, .int (zI (V (200, 0, 0, 0) 2)), .int (zI (V (0, 0, 0, 0) 6)), .int (zI (V (0, 0, 0, 0) 7)), .int (zI (V (0, 0, 0, 0) 8)), .int (zI (V (0, 0, 0, 0) 5)), .ref (ad (201, 0, 0, 0)), .ref (ad (205, 0, 0, 0)), .ref (ad (206, 0, 0, 0)), .ref (ad (207, 0, 0, 0)), .ref (ad (209, 0, 0, 0)), .int (zI (V (0, 0, 0, 0) 4)), .ref (ad (211, 0, 0, 0)), .ref (ad (212, 0, 0, 0)), .int (zI (V (200, 0, 0, 0) 15)), .ref (ad (213, 0, 0, 0)), .ref (ad (214, 0, 0, 0)), .ref (ad (216, 0, 0, 0)), .ref (ad (218, 0, 0, 0)), .ref (ad (220, 0, 0, 0)), .ref (ad (222, 0, 0, 0))] 6 (.int (zI v))))) = pm Δ ad Q (zst V (0, 0, 0, 0) 5 v) X := pm_wr ⟨Nat.le_of_ble_eq_true rfl, Nat.le_of_ble_eq_true rfl⟩ ((pz_200).trans ((if_pos ⟨rfl, rfl, rfl⟩).trans (by simp [zst_at]))) (fun j hj h => by obtain ⟨n, a1, a2, a3⟩ := j; unfold pD at h; (repeat' split at h) <;> simp_all)
theorem pp_200_12 {v : Int} : zup1 (pm Δ ad Q V X) (200, 0, 0, 0) (some (.inr (8, List.set [.ref (ad (0, 0, 0, 0)), .ref Δ.2.2.2.1, .int (zI (V (200, 0, 0, 0) 2)), .int (zI (V (0, 0, 0, 0) 6)), .int (zI (V (0, 0, 0, 0) 7)), .int (zI (V (0, 0, 0, 0) 8)), .int (zI (V (0, 0, 0, 0) 5)), .ref (ad (201, 0, 0, 0)), .ref (ad (205, 0, 0, 0)), .ref (ad (206, 0, 0, 0)), .ref (ad (207, 0, 0, 0)), .ref (ad (209, 0, 0, 0)), .int (zI (V (0, 0, 0, 0) 4)), .ref (ad (211, 0, 0, 0)), .ref (ad (212, 0, 0, 0)), .int (zI (V (200, 0, 0, 0) 15)), .ref (ad (213, 0, 0, 0)), .ref (ad (214, 0, 0, 0)), .ref (ad (216, 0, 0, 0)), .ref (ad (218, 0, 0, 0)), .ref (ad (220, 0, 0, 0)), .ref (ad (222, 0, 0, 0))] 12 (.int (zI v))))) = pm Δ ad Q (zst V (0, 0, 0, 0) 4 v) X := pm_wr ⟨Nat.le_of_ble_eq_true rfl, Nat.le_of_ble_eq_true rfl⟩ ((pz_200).trans ((if_pos ⟨rfl, rfl, rfl⟩).trans (by simp [zst_at]))) (fun j hj h => by obtain ⟨n, a1, a2, a3⟩ := j; unfold pD at h; (repeat' split at h) <;> simp_all)
theorem pp_200_15 {v : Int} : zup1 (pm Δ ad Q V X) (200, 0, 0, 0) (some (.inr (8, List.set [.ref (ad (0, 0, 0, 0)), .ref Δ.2.2.2.1, .int (zI (V (200, 0, 0, 0) 2)), .int (zI (V (0, 0, 0, 0) 6)), .int (zI (V (0, 0, 0, 0) 7)), .int (zI (V (0, 0, 0, 0) 8)), .int (zI (V (0, 0, 0, 0) 5)), .ref (ad (201, 0, 0, 0)), .ref (ad (205, 0, 0, 0)), .ref (ad (206, 0, 0, 0)), .ref (ad (207, 0, 0, 0)), .ref (ad (209, 0, 0, 0)), .int (zI (V (0, 0, 0, 0) 4)), .ref (ad (211, 0, 0, 0)), .ref (ad (212, 0, 0, 0)), .int (zI (V (200, 0, 0, 0) 15)), .ref (ad (213, 0, 0, 0)), .ref (ad (214, 0, 0, 0)), .ref (ad (216, 0, 0, 0)), .ref (ad (218, 0, 0, 0)), .ref (ad (220, 0, 0, 0)), .ref (ad (222, 0, 0, 0))] 15 (.int (zI v))))) = pm Δ ad Q (zst V (200, 0, 0, 0) 15 v) X := pm_wr ⟨Nat.le_of_ble_eq_true rfl, Nat.le_of_ble_eq_true rfl⟩ ((pz_200).trans ((if_pos ⟨rfl, rfl, rfl⟩).trans (by simp [zst_at]))) (fun j hj h => by obtain ⟨n, a1, a2, a3⟩ := j; unfold pD at h; (repeat' split at h) <;> simp_all)
theorem zpr_w4 {t p o v : Int} : zpr Q (zst V (14, t, p, o) 5 v) t p o = zup (zpr Q V t p o) 4 v := by
  funext x
  by_cases h : x = 4
  · subst h
    show _ = if (4 : Int) = 4 then v else _
    rw [if_pos rfl, zpr_4, zst_s]
  · show _ = if x = 4 then v else zpr Q V t p o x
    rw [if_neg h]
    unfold zpr
    rw [zst_f _ _ _ (by decide), zst_f _ _ _ (by decide), zst_f _ _ _ (by decide), zst_f _ _ _ (by decide), if_neg h, if_neg h, zst_k _ _ _ _ (by simp), zst_k _ _ _ _ (by simp), zst_k _ _ _ _ (by simp)]
theorem zpr_w5 {t p o g v : Int} (hg : 0 ≤ g ∧ g < Q 3 0 0) (ht : Q 4 g 0 = t) : zpr Q (zst V (19, g, p, 0) o v) t p o = zup (zpr Q V t p o) (5 + 3 * g) v := by
  funext x
  by_cases h : x = 5 + 3 * g
  · subst h
    show _ = if 5 + 3 * g = 5 + 3 * g then v else _
    rw [if_pos rfl, zpr_5 hg ht, zst_s]
  · show _ = if x = 5 + 3 * g then v else zpr Q V t p o x
    rw [if_neg h]
    unfold zpr
    rw [zst_k _ _ _ _ (by simp)]
    refine ite_cg (fun _ => rfl) (fun _ => ite_cg (fun _ => rfl) (fun _ => ite_cg (fun _ => rfl) (fun _ => ite_cg (fun _ => rfl) (fun _ => ite_cg (fun _ => rfl) (fun _ => ite_cg (fun c => ?_) (fun _ => rfl))))))
    by_cases e : (x - 5) / 3 = g
    · refine ite_cg (fun q => ?_) (fun q => ite_cg (fun q2 => ?_) (fun q2 => ?_))
      · exact absurd (show x = 5 + 3 * g by omega) h
      · exact zst_k _ _ _ _ (by simp)
      · exact zst_k _ _ _ _ (by simp)
    · rw [zst_k _ _ _ _ (fun q => e (congrArg (fun z => z.2.1) q)), zst_k _ _ _ _ (fun q => e (congrArg (fun z => z.2.1) q)), zst_k _ _ _ _ (fun q => e (congrArg (fun z => z.2.1) q))]
theorem zpr_w6 {t p o g v : Int} (hg : 0 ≤ g ∧ g < Q 3 0 0) (ht : Q 4 g 0 = t) : zpr Q (zst V (20, g, p, 0) o v) t p o = zup (zpr Q V t p o) (6 + 3 * g) v := by
  funext x
  by_cases h : x = 6 + 3 * g
  · subst h
    show _ = if 6 + 3 * g = 6 + 3 * g then v else _
    rw [if_pos rfl, zpr_6 hg ht, zst_s]
  · show _ = if x = 6 + 3 * g then v else zpr Q V t p o x
    rw [if_neg h]
    unfold zpr
    rw [zst_k _ _ _ _ (by simp)]
    refine ite_cg (fun _ => rfl) (fun _ => ite_cg (fun _ => rfl) (fun _ => ite_cg (fun _ => rfl) (fun _ => ite_cg (fun _ => rfl) (fun _ => ite_cg (fun _ => rfl) (fun _ => ite_cg (fun c => ?_) (fun _ => rfl))))))
    by_cases e : (x - 5) / 3 = g
    · refine ite_cg (fun q => ?_) (fun q => ite_cg (fun q2 => ?_) (fun q2 => ?_))
      · exact zst_k _ _ _ _ (by simp)
      · exact absurd (show x = 6 + 3 * g by omega) h
      · exact zst_k _ _ _ _ (by simp)
    · rw [zst_k _ _ _ _ (fun q => e (congrArg (fun z => z.2.1) q)), zst_k _ _ _ _ (fun q => e (congrArg (fun z => z.2.1) q)), zst_k _ _ _ _ (fun q => e (congrArg (fun z => z.2.1) q))]
theorem zpr_w7 {t p o g v : Int} (hg : 0 ≤ g ∧ g < Q 3 0 0) (ht : Q 4 g 0 = t) : zpr Q (zst V (21, g, p, 0) o v) t p o = zup (zpr Q V t p o) (7 + 3 * g) v := by
  funext x
  by_cases h : x = 7 + 3 * g
  · subst h
    show _ = if 7 + 3 * g = 7 + 3 * g then v else _
    rw [if_pos rfl, zpr_7 hg ht, zst_s]
  · show _ = if x = 7 + 3 * g then v else zpr Q V t p o x
    rw [if_neg h]
    unfold zpr
    rw [zst_k _ _ _ _ (by simp)]
    refine ite_cg (fun _ => rfl) (fun _ => ite_cg (fun _ => rfl) (fun _ => ite_cg (fun _ => rfl) (fun _ => ite_cg (fun _ => rfl) (fun _ => ite_cg (fun _ => rfl) (fun _ => ite_cg (fun c => ?_) (fun _ => rfl))))))
    by_cases e : (x - 5) / 3 = g
    · refine ite_cg (fun q => ?_) (fun q => ite_cg (fun q2 => ?_) (fun q2 => ?_))
      · exact zst_k _ _ _ _ (by simp)
      · exact zst_k _ _ _ _ (by simp)
      · exact absurd (show x = 7 + 3 * g by omega) h
    · rw [zst_k _ _ _ _ (fun q => e (congrArg (fun z => z.2.1) q)), zst_k _ _ _ _ (fun q => e (congrArg (fun z => z.2.1) q)), zst_k _ _ _ _ (fun q => e (congrArg (fun z => z.2.1) q))]
theorem pp_204_4 {t p o v : Int} (h : ((0 ≤ t ∧ t < Q 0 0 0) ∧ (0 ≤ p ∧ p < Q 1 t 0)) ∧ (0 ≤ o ∧ o < Q 2 t p)) : zup1 (pm Δ ad Q V X) (204, t, p, o) (some (.inl (Δ.2.1 0, 17, .inl (zAi (zup (zpr Q V t p o) 4 v))))) = pm Δ ad Q (zst V (14, t, p, o) 5 v) X := pm_wr ⟨Nat.le_of_ble_eq_true rfl, Nat.le_of_ble_eq_true rfl⟩ ((pz_204).trans ((if_pos h).trans (by rw [zpr_w4]))) (fun j hj h => by obtain ⟨n, a1, a2, a3⟩ := j; unfold pD at h; (repeat' split at h) <;> simp_all)
theorem pp_204_5 {t p o g v : Int} (h : ((0 ≤ t ∧ t < Q 0 0 0) ∧ (0 ≤ p ∧ p < Q 1 t 0)) ∧ (0 ≤ o ∧ o < Q 2 t p)) (hg : 0 ≤ g ∧ g < Q 3 0 0) (ht : Q 4 g 0 = t) : zup1 (pm Δ ad Q V X) (204, t, p, o) (some (.inl (Δ.2.1 0, 17, .inl (zAi (zup (zpr Q V t p o) (5 + 3 * g) v))))) = pm Δ ad Q (zst V (19, g, p, 0) o v) X := pm_wr ⟨Nat.le_of_ble_eq_true rfl, Nat.le_of_ble_eq_true rfl⟩ ((pz_204).trans ((if_pos h).trans (by rw [zpr_w5 hg ht]))) (fun j hj h => by
    obtain ⟨n, a1, a2, a3⟩ := j
    by_cases hn : n = 204
    · subst hn
      have h2 : ((19, g, p, 0) : zK) = (14, a1, a2, a3) ∨ ∃ g', (0 ≤ g' ∧ g' < Q 3 0 0 ∧ Q 4 g' 0 = a1) ∧ o = a3 ∧ (((19, g, p, 0) : zK) = (19, g', a2, 0) ∨ ((19, g, p, 0) : zK) = (20, g', a2, 0) ∨ ((19, g, p, 0) : zK) = (21, g', a2, 0)) := h
      rcases h2 with h2 | ⟨g', ⟨-, -, q3⟩, q4, h2⟩
      · cases h2
      · simp at h2
        obtain ⟨rfl, rfl⟩ := h2
        exact hj (by rw [← q3, ← q4, ht])
    · simp [pD, hn] at h)
theorem pp_204_6 {t p o g v : Int} (h : ((0 ≤ t ∧ t < Q 0 0 0) ∧ (0 ≤ p ∧ p < Q 1 t 0)) ∧ (0 ≤ o ∧ o < Q 2 t p)) (hg : 0 ≤ g ∧ g < Q 3 0 0) (ht : Q 4 g 0 = t) : zup1 (pm Δ ad Q V X) (204, t, p, o) (some (.inl (Δ.2.1 0, 17, .inl (zAi (zup (zpr Q V t p o) (6 + 3 * g) v))))) = pm Δ ad Q (zst V (20, g, p, 0) o v) X := pm_wr ⟨Nat.le_of_ble_eq_true rfl, Nat.le_of_ble_eq_true rfl⟩ ((pz_204).trans ((if_pos h).trans (by rw [zpr_w6 hg ht]))) (fun j hj h => by
    obtain ⟨n, a1, a2, a3⟩ := j
    by_cases hn : n = 204
    · subst hn
      have h2 : ((20, g, p, 0) : zK) = (14, a1, a2, a3) ∨ ∃ g', (0 ≤ g' ∧ g' < Q 3 0 0 ∧ Q 4 g' 0 = a1) ∧ o = a3 ∧ (((20, g, p, 0) : zK) = (19, g', a2, 0) ∨ ((20, g, p, 0) : zK) = (20, g', a2, 0) ∨ ((20, g, p, 0) : zK) = (21, g', a2, 0)) := h
      rcases h2 with h2 | ⟨g', ⟨-, -, q3⟩, q4, h2⟩
      · cases h2
      · simp at h2
        obtain ⟨rfl, rfl⟩ := h2
        exact hj (by rw [← q3, ← q4, ht])
    · simp [pD, hn] at h)
theorem pp_204_7 {t p o g v : Int} (h : ((0 ≤ t ∧ t < Q 0 0 0) ∧ (0 ≤ p ∧ p < Q 1 t 0)) ∧ (0 ≤ o ∧ o < Q 2 t p)) (hg : 0 ≤ g ∧ g < Q 3 0 0) (ht : Q 4 g 0 = t) : zup1 (pm Δ ad Q V X) (204, t, p, o) (some (.inl (Δ.2.1 0, 17, .inl (zAi (zup (zpr Q V t p o) (7 + 3 * g) v))))) = pm Δ ad Q (zst V (21, g, p, 0) o v) X := pm_wr ⟨Nat.le_of_ble_eq_true rfl, Nat.le_of_ble_eq_true rfl⟩ ((pz_204).trans ((if_pos h).trans (by rw [zpr_w7 hg ht]))) (fun j hj h => by
    obtain ⟨n, a1, a2, a3⟩ := j
    by_cases hn : n = 204
    · subst hn
      have h2 : ((21, g, p, 0) : zK) = (14, a1, a2, a3) ∨ ∃ g', (0 ≤ g' ∧ g' < Q 3 0 0 ∧ Q 4 g' 0 = a1) ∧ o = a3 ∧ (((21, g, p, 0) : zK) = (19, g', a2, 0) ∨ ((21, g, p, 0) : zK) = (20, g', a2, 0) ∨ ((21, g, p, 0) : zK) = (21, g', a2, 0)) := h
      rcases h2 with h2 | ⟨g', ⟨-, -, q3⟩, q4, h2⟩
      · cases h2
      · simp at h2
        obtain ⟨rfl, rfl⟩ := h2
        exact hj (by rw [← q3, ← q4, ht])
    · simp [pD, hn] at h)
end ZPP
