/-! ===== the class's first memory ===== -/
set_option maxHeartbeats 2000000 in
set_option maxRecDepth 100000 in
theorem mm_c0 {Δ : zDl} {ad : zK → Nat} {M X : zMem} {d : Int} (f0 : M (0, 0, 0, 0) = some (.inr (7, [.ref (ad (4, 0, 0, 0)), .ref (ad (6, 0, 0, 0)), .ref (ad (1, 0, 0, 0)), .ref (ad (3, 0, 0, 0)), .int (zI 0), .int (zI 0), .int (zI 0), .int (zI 2), .int (zI 10)]))) (f1 : M (1, 0, 0, 0) = some (.inr (2, [.ref (ad (2, 0, 0, 0)), .int (zI 0)]))) (f2 : M (2, 0, 0, 0) = some (.inl (Δ.2.1 0, 1000, .inl (zAi (fun _ => 0))))) (f3 : M (3, 0, 0, 0) = some (.inl (Δ.2.1 1, 4, .inl (zAi (fun _ => 0))))) (f4 : M (4, 0, 0, 0) = some (zLi 0 Δ.2.2.1 0)) (f6 : M (6, 0, 0, 0) = some (zLi 0 Δ.2.2.1 0)) : ∀ k e, k.1 < 80 → mm Δ ad zP0 (zV0d d) X k = some e → M k = some e := by
  intro k e h80 hk
  rw [mm_cg (S := zT0) (S' := zV0d d) (fun k f hk => zV0d_lo ⟨by omega, by omega⟩), mm_lt _ h80] at hk
  have hin := zcnt_in hk
  obtain ⟨n, i, j, o⟩ := k
  have h8 : ¬ (8 ≤ n ∧ n ≤ 14) := fun q => nT0 (hin.2.1 q).1
  have h15 : ¬ (15 ≤ n ∧ n ≤ 21) := fun q => nG0 (hin.2.2 q).1
  unfold zcnt at hk
  revert hk
  refine ite_mp (fun q hk => ?_) (fun _ => ?_)
  · have e9 : n = 0 := q
    subst e9
    have hk' : zc0 Δ ad zP0 i j o (zT0 (0, i, j, o)) = some e := hk
    obtain ⟨rfl, rfl, rfl⟩ := zif_some hk'
    exact by rw [f0, ← hk']; rfl
  refine ite_mp (fun q hk => ?_) (fun _ => ?_)
  · have e9 : n = 1 := q
    subst e9
    have hk' : zc1 Δ ad zP0 i j o (zT0 (1, i, j, o)) = some e := hk
    obtain ⟨rfl, rfl, rfl⟩ := zif_some hk'
    exact by rw [f1, ← hk']; rfl
  refine ite_mp (fun q hk => ?_) (fun _ => ?_)
  · have e9 : n = 2 := q
    subst e9
    have hk' : zc2 Δ ad zP0 i j o (zT0 (2, i, j, o)) = some e := hk
    obtain ⟨rfl, rfl, rfl⟩ := zif_some hk'
    exact by rw [f2, ← hk']; rfl
  refine ite_mp (fun q hk => ?_) (fun _ => ?_)
  · have e9 : n = 3 := q
    subst e9
    have hk' : zc3 Δ ad zP0 i j o (zT0 (3, i, j, o)) = some e := hk
    obtain ⟨rfl, rfl, rfl⟩ := zif_some hk'
    exact by rw [f3, ← hk']; rfl
  refine ite_mp (fun q hk => ?_) (fun _ => ?_)
  · have e9 : n = 4 := q
    subst e9
    have hk' : zc4 Δ ad zP0 i j o (zT0 (4, i, j, o)) = some e := hk
    obtain ⟨rfl, rfl, rfl⟩ := zif_some hk'
    exact by rw [f4, ← hk']; rfl
  refine ite_mp (fun q hk => absurd (zif_some (show zc5 Δ ad zP0 i j o (zT0 (n, i, j, o)) = some e from hk)).2 (by decide)) (fun _ => ?_)
  refine ite_mp (fun q hk => ?_) (fun _ => ?_)
  · have e9 : n = 6 := q
    subst e9
    have hk' : zc6 Δ ad zP0 i j o (zT0 (6, i, j, o)) = some e := hk
    obtain ⟨rfl, rfl, rfl⟩ := zif_some hk'
    exact by rw [f6, ← hk']; rfl
  refine ite_mp (fun q hk => absurd (zif_some (show zc7 Δ ad zP0 i j o (zT0 (n, i, j, o)) = some e from hk)).2 (by decide)) (fun _ => ?_)
  refine ite_mp (fun q => absurd (show n = 8 from q) (by omega)) (fun _ => ?_)
  refine ite_mp (fun q => absurd (show n = 9 from q) (by omega)) (fun _ => ?_)
  refine ite_mp (fun q => absurd (show n = 10 from q) (by omega)) (fun _ => ?_)
  refine ite_mp (fun q => absurd (show n = 11 from q) (by omega)) (fun _ => ?_)
  refine ite_mp (fun q => absurd (show n = 12 from q) (by omega)) (fun _ => ?_)
  refine ite_mp (fun q => absurd (show n = 13 from q) (by omega)) (fun _ => ?_)
  refine ite_mp (fun q => absurd (show n = 14 from q) (by omega)) (fun _ => ?_)
  refine ite_mp (fun q => absurd (show n = 15 from q) (by omega)) (fun _ => ?_)
  refine ite_mp (fun q => absurd (show n = 16 from q) (by omega)) (fun _ => ?_)
  refine ite_mp (fun q => absurd (show n = 17 from q) (by omega)) (fun _ => ?_)
  refine ite_mp (fun q => absurd (show n = 18 from q) (by omega)) (fun _ => ?_)
  refine ite_mp (fun q => absurd (show n = 19 from q) (by omega)) (fun _ => ?_)
  refine ite_mp (fun q => absurd (show n = 20 from q) (by omega)) (fun _ => ?_)
  refine ite_mp (fun q => absurd (show n = 21 from q) (by omega)) (fun _ => ?_)
  intro q
  cases q
