/-! ===== the Pier's constructor: arrays of arrays ===== -/
theorem cl_X7_37 : Cond.classLink RX7 37 ("[" ++ (FieldType.array .int).toString) ∈ zAW := zAW_of 517 (by decide +kernel) (by decide +kernel)
theorem cl_X7_63 : Cond.classLink RX7 63 ("[" ++ (FieldType.array .boolean).toString) ∈ zAW := zAW_of 519 (by decide +kernel) (by decide +kernel)
theorem aw_int : Cond.arrayClass .int ∈ zAW := zAW_of 485 (by decide +kernel) (by decide +kernel)
theorem aw_bool : Cond.arrayClass .boolean ∈ zAW := zAW_of 514 (by decide +kernel) (by decide +kernel)
section ZMUL
variable {Γ : zCx} {R : Room} {cc : ByteArray} {nL : Nat} {ad : zK → Nat} {M : zMem} {nc ns pc : Nat} {lv : List (Nat × Value)} {st : List Value}
/-- new int[4][4] -/
theorem G_mI {n : Nat} (hd : decode cc pc = .ok (.multianewarray 37 2, 4)) (hko : M (n, 0, 0, 0) = none) (hki : ∀ j : Int, M (n + 1, j, 0, 0) = none) (hR : nc + 5 ≤ R.cells ∧ ns + 20 ≤ R.slots)
    (kk : ∀ (ad' : zK → Nat) (M2 : zMem), (∀ k, k ≠ (n, 0, 0, 0) → (∀ j : Int, 0 ≤ j → j < 4 → k ≠ (n + 1, j, 0, 0)) → ad' k = ad k ∧ M2 k = M k) → M2 (n, 0, 0, 0) = some (.inl ((z_d Γ).2.1 5, 4, .inr (.inr (.inr (.inr (zAq (fun x => some (ad' (n + 1, x, 0, 0))))))))) → (∀ j : Int, 0 ≤ j → j < 4 → M2 (n + 1, j, 0, 0) = some (.inl ((z_d Γ).2.1 0, 4, .inl (zAi (fun _ => 0))))) → G Γ R cc nL RX7 ad' M2 (nc + 5) (ns + 20) (pc + 4) lv (.ref (ad' (n, 0, 0, 0)) :: st)) : G Γ R cc nL RX7 ad M nc ns pc lv (.int (zI 4) :: .int (zI 4) :: st) :=
  G_multi (pc := pc) (t := 5) (ti := 0) (N := 4) (K := 4) (ty := .int) (z := (4, .inl (zAi (fun _ => 0)))) (n, 0, 0, 0) (fun j => (n + 1, j, 0, 0)) cl_X7_37 (by decide) rfl rfl (fun C => C.2.2.2.2.1 _ aw_int) hd hko (fun j _ _ => hki j) (fun j _ _ => by simp) (fun i j h => by simp at h; exact h) rfl rfl ⟨by omega, by omega⟩ (by decide) rfl rfl (fun c => rfl) ⟨by omega, by omega⟩ (fun ad' M2 h1 h2 h3 => kk ad' M2 h1 h2 h3)
/-- new boolean[4][6] -/
theorem G_mZ {n : Nat} (hd : decode cc pc = .ok (.multianewarray 63 2, 4)) (hko : M (n, 0, 0, 0) = none) (hki : ∀ j : Int, M (n + 1, j, 0, 0) = none) (hR : nc + 5 ≤ R.cells ∧ ns + 28 ≤ R.slots)
    (kk : ∀ (ad' : zK → Nat) (M2 : zMem), (∀ k, k ≠ (n, 0, 0, 0) → (∀ j : Int, 0 ≤ j → j < 4 → k ≠ (n + 1, j, 0, 0)) → ad' k = ad k ∧ M2 k = M k) → M2 (n, 0, 0, 0) = some (.inl ((z_d Γ).2.1 8, 4, .inr (.inr (.inr (.inr (zAq (fun x => some (ad' (n + 1, x, 0, 0))))))))) → (∀ j : Int, 0 ≤ j → j < 4 → M2 (n + 1, j, 0, 0) = some (.inl ((z_d Γ).2.1 1, 6, .inl (zAi (fun _ => 0))))) → G Γ R cc nL RX7 ad' M2 (nc + 5) (ns + 28) (pc + 4) lv (.ref (ad' (n, 0, 0, 0)) :: st)) : G Γ R cc nL RX7 ad M nc ns pc lv (.int (zI 6) :: .int (zI 4) :: st) :=
  G_multi (pc := pc) (t := 8) (ti := 1) (N := 4) (K := 6) (ty := .boolean) (z := (6, .inl (zAi (fun _ => 0)))) (n, 0, 0, 0) (fun j => (n + 1, j, 0, 0)) cl_X7_63 (by decide) rfl rfl (fun C => C.2.2.2.2.1 _ aw_bool) hd hko (fun j _ _ => hki j) (fun j _ _ => by simp) (fun i j h => by simp at h; exact h) rfl rfl ⟨by omega, by omega⟩ (by decide) rfl rfl (fun c => rfl) ⟨by omega, by omega⟩ (fun ad' M2 h1 h2 h3 => kk ad' M2 h1 h2 h3)
end ZMUL
