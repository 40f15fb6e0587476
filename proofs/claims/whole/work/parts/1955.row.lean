/-! ===== a whole row is written anew ===== -/
theorem mm_row {Δ : zDl} {ad : zK → Nat} {P : zP} {S : zS} {X : zMem} (k : zK) (hk : k.1 < 80) (r : Int → Int) (e : va_E) (he : zcnt Δ ad P k r = some e) : zup1 (mm Δ ad P S X) k (some e) = mm Δ ad P (zup1 S k r) X := by
  funext j
  by_cases h : j = k
  · subst h
    rw [zup1_s, mm_lt _ hk, zup1_s, he]
  · rw [zup1_n _ _ h]
    show (if j.1 < 80 then zcnt Δ ad P j (S j) else X j) = if j.1 < 80 then zcnt Δ ad P j (zup1 S k r j) else X j
    rw [zup1_n _ _ h]
theorem zcp5 (S : zS) (k : zK) (d a b c x y : Int) : zup1 S k (zcp (zup (zup (zup (zup (zup (fun _ => 0) 0 a) 1 b) 2 c) 3 x) 4 y) (S k) 0 d 5) = zst (zst (zst (zst (zst S k d a) k (d + 1) b) k (d + 2) c) k (d + 3) x) k (d + 4) y := by
  funext k' f
  by_cases hk : k' = k
  · subst hk
    rw [zup1_s, zst_at, zst_at, zst_at, zst_at, zst_at]
    show (if d ≤ f ∧ f < d + 5 then _ else _) = _
    by_cases h4 : f = d + 4
    · subst h4
      rw [if_pos ⟨by omega, by omega⟩, if_pos ⟨rfl, rfl⟩]
      exact if_pos (by omega)
    · rw [if_neg (c := k' = k' ∧ f = d + 4) (fun q => h4 q.2)]
      by_cases h3 : f = d + 3
      · subst h3
        rw [if_pos ⟨by omega, by omega⟩, if_pos ⟨rfl, rfl⟩]
        exact (if_neg (by omega)).trans (if_pos (by omega))
      · rw [if_neg (c := k' = k' ∧ f = d + 3) (fun q => h3 q.2)]
        by_cases h2 : f = d + 2
        · subst h2
          rw [if_pos ⟨by omega, by omega⟩, if_pos ⟨rfl, rfl⟩]
          exact (if_neg (by omega)).trans ((if_neg (by omega)).trans (if_pos (by omega)))
        · rw [if_neg (c := k' = k' ∧ f = d + 2) (fun q => h2 q.2)]
          by_cases h1 : f = d + 1
          · subst h1
            rw [if_pos ⟨by omega, by omega⟩, if_pos ⟨rfl, rfl⟩]
            exact (if_neg (by omega)).trans ((if_neg (by omega)).trans ((if_neg (by omega)).trans (if_pos (by omega))))
          · rw [if_neg (c := k' = k' ∧ f = d + 1) (fun q => h1 q.2)]
            by_cases h0 : f = d
            · subst h0
              rw [if_pos ⟨by omega, by omega⟩, if_pos ⟨rfl, rfl⟩]
              exact (if_neg (by omega)).trans ((if_neg (by omega)).trans ((if_neg (by omega)).trans ((if_neg (by omega)).trans (if_pos (by omega)))))
            · rw [if_neg (c := k' = k' ∧ f = d) (fun q => h0 q.2)]
              exact if_neg (fun q => by omega)
  · rw [zup1_n _ _ hk, zst_k _ _ _ _ hk, zst_k _ _ _ _ hk, zst_k _ _ _ _ hk, zst_k _ _ _ _ hk, zst_k _ _ _ _ hk]
