/-! ===== where nothing is ===== -/
theorem zno_V0 {Δ : zDl} {ad : zK → Nat} {d : Int} {k : zK} (hk : 200 ≤ k.1 ∧ k.1 < 224) (hn : ¬ (k.1 = 201 ∨ k.1 = 205 ∨ k.1 = 206 ∨ k.1 = 207 ∨ k.1 = 208 ∨ k.1 = 209 ∨ k.1 = 210 ∨ k.1 = 211 ∨ k.1 = 212 ∨ k.1 = 213 ∨ k.1 = 214 ∨ k.1 = 215 ∨ k.1 = 216 ∨ k.1 = 217 ∨ k.1 = 218 ∨ k.1 = 219 ∨ k.1 = 220 ∨ k.1 = 221 ∨ k.1 = 222)) (hne : k ≠ (200, 0, 0, 0)) : pcnt Δ ad zP0 (zV0d d) k = none := by
  obtain ⟨m, i, j, l⟩ := k
  have hk : 200 ≤ m ∧ m < 224 := hk
  have hm : m = 200 ∨ m = 202 ∨ m = 203 ∨ m = 204 ∨ m = 223 := by
    simp only at hn
    omega
  have z0 : zP0 0 0 0 = 0 := rfl
  have z1 : zV0d d (1, 0, 0, 0) 1 = 0 := zV0d_z (by simp) (by simp) (by simp) (by simp)
  rcases hm with rfl | rfl | rfl | rfl | rfl
  · show pc200 Δ ad zP0 (zV0d d) i j l = none
    unfold pc200
    exact if_neg (fun q => hne (by rw [q.1, q.2.1, q.2.2]))
  · show pc202 Δ ad zP0 (zV0d d) i j l = none
    unfold pc202
    exact if_neg (fun q => by rw [z0] at q; omega)
  · show pc203 Δ ad zP0 (zV0d d) i j l = none
    unfold pc203
    exact if_neg (fun q => by rw [z0] at q; omega)
  · show pc204 Δ ad zP0 (zV0d d) i j l = none
    unfold pc204
    exact if_neg (fun q => by rw [z0] at q; omega)
  · show pc223 Δ ad zP0 (zV0d d) i j l = none
    unfold pc223
    exact if_neg (fun q => by rw [z1] at q; omega)
