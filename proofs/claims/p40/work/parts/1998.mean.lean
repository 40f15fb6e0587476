/-! ===== means: no NaN ===== -/
def zdvB (a b : Nat) : Bool := decide ((FP.ddiv (FP.i2d (Int32.ofInt a)) (FP.i2d (Int32.ofInt (b + 1)))) &&& 0x7fffffffffffffff ≤ 0x7ff0000000000000)
theorem zdvT : ((List.range 241).all fun a => (List.range 80).all fun b => zdvB a b) = true := by decide +kernel
theorem zdv {a b : Int} (ha : 0 ≤ a ∧ a ≤ 240) (hb : 1 ≤ b ∧ b ≤ 80) : vf_n64 (FP.ddiv (FP.i2d (zI a)) (FP.i2d (zI b))) := by
  have h := List.all_eq_true.mp (List.all_eq_true.mp zdvT a.toNat (List.mem_range.mpr (by omega))) (b - 1).toNat (List.mem_range.mpr (by omega))
  have h2 := of_decide_eq_true h
  rw [show ((a.toNat : Nat) : Int) = a by omega, show (((b - 1).toNat : Nat) : Int) + 1 = b by omega] at h2
  exact h2
