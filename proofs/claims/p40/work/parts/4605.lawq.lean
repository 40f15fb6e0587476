/-! ===== the law's questions about messages ===== -/
section LAWQ
variable {l : Launch} {Δ : zDl} {ad : zK → Nat} {P : zP} {S : zS} {X : zMem} {t p o : Int}
theorem q_msg3 (hP : zWP P) (ht : 0 ≤ t ∧ t < P 0 0 0) (hp : 0 ≤ p ∧ p < P 1 t 0) (ho : 0 ≤ o ∧ o < P 2 t p) (hW : zWS P S) : zMn l Δ yX6_message cX6_message 6 (some .int) 9 0 0 [.ref (ad (0, 0, 0, 0)), .int (zI t), .int (zI p), .int (zI o), .int (zI 3)] ad (mm Δ ad P S X) (zD (some (.int (zI (S (14, t, p, o) 4)))) ad (mm Δ ad P S X)) := by
  have h := c_X6_message (l := l) (Δ := Δ) (ad := ad) (X := X) (w := 3) hP ht hp ho hW ⟨by omega, by omega⟩
  have e : ztl S t p o 3 = S (14, t, p, o) 4 := by unfold ztl; simp
  rw [e] at h
  exact h
theorem q_msg4 (hP : zWP P) (ht : 0 ≤ t ∧ t < P 0 0 0) (hp : 0 ≤ p ∧ p < P 1 t 0) (ho : 0 ≤ o ∧ o < P 2 t p) (hW : zWS P S) : zMn l Δ yX6_message cX6_message 6 (some .int) 9 0 0 [.ref (ad (0, 0, 0, 0)), .int (zI t), .int (zI p), .int (zI o), .int (zI 4)] ad (mm Δ ad P S X) (zD (some (.int (zI (zdq S t p o)))) ad (mm Δ ad P S X)) := by
  have h := c_X6_message (l := l) (Δ := Δ) (ad := ad) (X := X) (w := 4) hP ht hp ho hW ⟨by omega, by omega⟩
  have e : ztl S t p o 4 = zdq S t p o := by unfold ztl zdq; simp
  rw [e] at h
  exact h
end LAWQ
