/-! ===== the memory under a larger shape and other addresses ===== -/
theorem ite_cg {α : Type} {c : Prop} [Decidable c] {a a' b b' : α} (h1 : c → a = a') (h2 : ¬ c → b = b') : (if c then a else b) = if c then a' else b' := by
  by_cases h : c
  · rw [if_pos h, if_pos h, h1 h]
  · rw [if_neg h, if_neg h, h2 h]
theorem ite_iff {α : Type} {c c' : Prop} [Decidable c] [Decidable c'] {a a' b : α} (hc : c ↔ c') (h1 : c' → a = a') : (if c then a else b) = if c' then a' else b := by
  by_cases h : c'
  · rw [if_pos h, if_pos (hc.mpr h), h1 h]
  · rw [if_neg h, if_neg (fun q => h (hc.mp q))]
/-- a cell's contents refer to q -/
def zRef (P : zP) (k q : zK) : Prop :=
  (k.1 = 0 ∧ (q = (4, 0, 0, 0) ∨ q = (6, 0, 0, 0) ∨ q = (1, 0, 0, 0) ∨ q = (3, 0, 0, 0))) ∨ (k.1 = 1 ∧ q = (2, 0, 0, 0)) ∨ (k.1 = 4 ∧ q = (5, 0, 0, 0)) ∨ (k.1 = 5 ∧ ∃ x, (0 ≤ x ∧ x < P 0 0 0) ∧ q = (8, x, 0, 0)) ∨ (k.1 = 6 ∧ q = (7, 0, 0, 0)) ∨ (k.1 = 7 ∧ ∃ x, (0 ≤ x ∧ x < P 3 0 0) ∧ q = (15, x, 0, 0)) ∨
  (k.1 = 8 ∧ (0 ≤ k.2.1 ∧ k.2.1 < P 0 0 0) ∧ (q = (9, k.2.1, 0, 0) ∨ q = (10, k.2.1, 0, 0))) ∨ (k.1 = 9 ∧ (0 ≤ k.2.1 ∧ k.2.1 < P 0 0 0) ∧ ∃ x, q = (11, k.2.1, x, 0)) ∨ (k.1 = 11 ∧ ((0 ≤ k.2.1 ∧ k.2.1 < P 0 0 0) ∧ (0 ≤ k.2.2.1 ∧ k.2.2.1 < P 1 k.2.1 0)) ∧ q = (12, k.2.1, k.2.2.1, 0)) ∨ (k.1 = 12 ∧ ((0 ≤ k.2.1 ∧ k.2.1 < P 0 0 0) ∧ (0 ≤ k.2.2.1 ∧ k.2.2.1 < P 1 k.2.1 0)) ∧ q = (13, k.2.1, k.2.2.1, 0)) ∨ (k.1 = 13 ∧ ((0 ≤ k.2.1 ∧ k.2.1 < P 0 0 0) ∧ (0 ≤ k.2.2.1 ∧ k.2.2.1 < P 1 k.2.1 0)) ∧ ∃ x, (0 ≤ x ∧ x < P 2 k.2.1 k.2.2.1) ∧ q = (14, k.2.1, k.2.2.1, x)) ∨
  (k.1 = 15 ∧ (0 ≤ k.2.1 ∧ k.2.1 < P 3 0 0) ∧ (q = (16, k.2.1, 0, 0) ∨ q = (17, k.2.1, 0, 0))) ∨ (k.1 = 16 ∧ (0 ≤ k.2.1 ∧ k.2.1 < P 3 0 0) ∧ ∃ x, q = (18, k.2.1, x, 0)) ∨ (k.1 = 18 ∧ ((0 ≤ k.2.1 ∧ k.2.1 < P 3 0 0) ∧ (0 ≤ k.2.2.1 ∧ k.2.2.1 < P 1 (P 4 k.2.1 0) 0)) ∧ (q = (11, P 4 k.2.1 0, k.2.2.1, 0) ∨ q = (19, k.2.1, k.2.2.1, 0) ∨ q = (20, k.2.1, k.2.2.1, 0) ∨ q = (21, k.2.1, k.2.2.1, 0))) ∨ (k.1 = 40 ∧ ∃ n : Nat, (45 ≤ n ∧ n < 80) ∧ q = (n, 0, 0, 0))
/-- the shapes are one for the cell k -/
def zPk (P P' : zP) (k : zK) : Prop :=
  (k.1 = 4 ∨ k.1 = 5 → P' 5 0 0 = P 5 0 0 ∧ P' 0 0 0 = P 0 0 0) ∧ (k.1 = 6 ∨ k.1 = 7 → P' 7 0 0 = P 7 0 0 ∧ P' 3 0 0 = P 3 0 0) ∧
  (8 ≤ k.1 ∧ k.1 ≤ 14 → (0 ≤ k.2.1 ∧ k.2.1 < P' 0 0 0 ↔ 0 ≤ k.2.1 ∧ k.2.1 < P 0 0 0) ∧ (0 ≤ k.2.1 ∧ k.2.1 < P 0 0 0 → P' 1 k.2.1 0 = P 1 k.2.1 0 ∧ (12 ≤ k.1 → P' 2 k.2.1 k.2.2.1 = P 2 k.2.1 k.2.2.1 ∧ P' 13 k.2.1 k.2.2.1 = P 13 k.2.1 k.2.2.1))) ∧
  (15 ≤ k.1 ∧ k.1 ≤ 21 → (0 ≤ k.2.1 ∧ k.2.1 < P' 3 0 0 ↔ 0 ≤ k.2.1 ∧ k.2.1 < P 3 0 0) ∧ (0 ≤ k.2.1 ∧ k.2.1 < P 3 0 0 → P' 4 k.2.1 0 = P 4 k.2.1 0 ∧ P' 1 (P 4 k.2.1 0) 0 = P 1 (P 4 k.2.1 0) 0)) ∧ (k.1 = 61 → P' 61 0 0 = P 61 0 0)
section ZCG
variable {Δ : zDl} {ad ad' : zK → Nat} {P P' : zP} {i j o : Int} {r : Int → Int}
theorem zc0_cg (h : zPk P P' (0, i, j, o)) (ha : ∀ q, zRef P (0, i, j, o) q → ad' q = ad q) : zc0 Δ ad' P' i j o r = zc0 Δ ad P i j o r := by
  unfold zc0
  rw [ha (4, 0, 0, 0) (by simp [zRef]), ha (6, 0, 0, 0) (by simp [zRef]), ha (1, 0, 0, 0) (by simp [zRef]), ha (3, 0, 0, 0) (by simp [zRef])]
theorem zc1_cg (h : zPk P P' (1, i, j, o)) (ha : ∀ q, zRef P (1, i, j, o) q → ad' q = ad q) : zc1 Δ ad' P' i j o r = zc1 Δ ad P i j o r := by
  unfold zc1
  rw [ha (2, 0, 0, 0) (by simp [zRef])]
theorem zc4_cg (h : zPk P P' (4, i, j, o)) (ha : ∀ q, zRef P (4, i, j, o) q → ad' q = ad q) : zc4 Δ ad' P' i j o r = zc4 Δ ad P i j o r := by
  unfold zc4
  obtain ⟨e1, e2⟩ := h.1 (Or.inl rfl)
  rw [e1, e2, ha (5, 0, 0, 0) (by simp [zRef])]
theorem zc6_cg (h : zPk P P' (6, i, j, o)) (ha : ∀ q, zRef P (6, i, j, o) q → ad' q = ad q) : zc6 Δ ad' P' i j o r = zc6 Δ ad P i j o r := by
  unfold zc6
  obtain ⟨e1, e2⟩ := h.2.1 (Or.inl rfl)
  rw [e1, e2, ha (7, 0, 0, 0) (by simp [zRef])]
theorem zc5_cg (h : zPk P P' (5, i, j, o)) (ha : ∀ q, zRef P (5, i, j, o) q → ad' q = ad q) : zc5 Δ ad' P' i j o r = zc5 Δ ad P i j o r := by
  unfold zc5
  obtain ⟨e1, e2⟩ := h.1 (Or.inr rfl)
  rw [e1, e2]
  have e : (fun x => if 0 ≤ x ∧ x < P 0 0 0 then some (ad' (8, x, 0, 0)) else none) = fun x => if 0 ≤ x ∧ x < P 0 0 0 then some (ad (8, x, 0, 0)) else none := by
    funext x
    exact ite_cg (fun hx => by rw [ha (8, x, 0, 0) (by simp [zRef]; omega)]) (fun _ => rfl)
  rw [e]
theorem zc7_cg (h : zPk P P' (7, i, j, o)) (ha : ∀ q, zRef P (7, i, j, o) q → ad' q = ad q) : zc7 Δ ad' P' i j o r = zc7 Δ ad P i j o r := by
  unfold zc7
  obtain ⟨e1, e2⟩ := h.2.1 (Or.inr rfl)
  rw [e1, e2]
  have e : (fun x => if 0 ≤ x ∧ x < P 3 0 0 then some (ad' (15, x, 0, 0)) else none) = fun x => if 0 ≤ x ∧ x < P 3 0 0 then some (ad (15, x, 0, 0)) else none := by
    funext x
    exact ite_cg (fun hx => by rw [ha (15, x, 0, 0) (by simp [zRef]; omega)]) (fun _ => rfl)
  rw [e]
theorem zc8_cg (h : zPk P P' (8, i, j, o)) (ha : ∀ q, zRef P (8, i, j, o) q → ad' q = ad q) : zc8 Δ ad' P' i j o r = zc8 Δ ad P i j o r := by
  unfold zc8
  obtain ⟨hi, hp⟩ := h.2.2.1 ⟨Nat.le_of_ble_eq_true rfl, Nat.le_of_ble_eq_true rfl⟩
  refine ite_iff (and_congr_left' hi) (fun hc => ?_)
  rw [ha (9, i, 0, 0) (by simp [zRef]; exact hc.1), ha (10, i, 0, 0) (by simp [zRef]; exact hc.1)]
theorem zc9_cg (h : zPk P P' (9, i, j, o)) (ha : ∀ q, zRef P (9, i, j, o) q → ad' q = ad q) : zc9 Δ ad' P' i j o r = zc9 Δ ad P i j o r := by
  unfold zc9
  obtain ⟨hi, hp⟩ := h.2.2.1 ⟨Nat.le_of_ble_eq_true rfl, Nat.le_of_ble_eq_true rfl⟩
  refine ite_iff (and_congr_left' hi) (fun hc => ?_)
  rw [(hp hc.1).1]
  have e : (fun x => some (ad' (11, i, x, 0))) = fun x => some (ad (11, i, x, 0)) := by
    funext x
    rw [ha (11, i, x, 0) (by simp [zRef]; exact hc.1)]
  rw [e]
theorem zc10_cg (h : zPk P P' (10, i, j, o)) (ha : ∀ q, zRef P (10, i, j, o) q → ad' q = ad q) : zc10 Δ ad' P' i j o r = zc10 Δ ad P i j o r := by
  unfold zc10
  obtain ⟨hi, hp⟩ := h.2.2.1 ⟨Nat.le_of_ble_eq_true rfl, Nat.le_of_ble_eq_true rfl⟩
  exact ite_iff (and_congr_left' hi) (fun hc => rfl)
theorem zc11_cg (h : zPk P P' (11, i, j, o)) (ha : ∀ q, zRef P (11, i, j, o) q → ad' q = ad q) : zc11 Δ ad' P' i j o r = zc11 Δ ad P i j o r := by
  unfold zc11
  obtain ⟨hi, hp⟩ := h.2.2.1 ⟨Nat.le_of_ble_eq_true rfl, Nat.le_of_ble_eq_true rfl⟩
  have hij : ((0 ≤ i ∧ i < P' 0 0 0) ∧ (0 ≤ j ∧ j < P' 1 i 0)) ↔ ((0 ≤ i ∧ i < P 0 0 0) ∧ (0 ≤ j ∧ j < P 1 i 0)) := by
    constructor
    · rintro ⟨q1, q2⟩
      have q3 := hi.mp q1
      rw [(hp q3).1] at q2
      exact ⟨q3, q2⟩
    · rintro ⟨q1, q2⟩
      rw [(hp q1).1]
      exact ⟨hi.mpr q1, q2⟩
  refine ite_iff (and_congr_left' hij) (fun hc => ?_)
  rw [ha (12, i, j, 0) (by simp [zRef]; exact hc.1)]
theorem zc12_cg (h : zPk P P' (12, i, j, o)) (ha : ∀ q, zRef P (12, i, j, o) q → ad' q = ad q) : zc12 Δ ad' P' i j o r = zc12 Δ ad P i j o r := by
  unfold zc12
  obtain ⟨hi, hp⟩ := h.2.2.1 ⟨Nat.le_of_ble_eq_true rfl, Nat.le_of_ble_eq_true rfl⟩
  have hij : ((0 ≤ i ∧ i < P' 0 0 0) ∧ (0 ≤ j ∧ j < P' 1 i 0)) ↔ ((0 ≤ i ∧ i < P 0 0 0) ∧ (0 ≤ j ∧ j < P 1 i 0)) := by
    constructor
    · rintro ⟨q1, q2⟩
      have q3 := hi.mp q1
      rw [(hp q3).1] at q2
      exact ⟨q3, q2⟩
    · rintro ⟨q1, q2⟩
      rw [(hp q1).1]
      exact ⟨hi.mpr q1, q2⟩
  refine ite_iff (and_congr_left' hij) (fun hc => ?_)
  obtain ⟨e2, e13⟩ := (hp hc.1.1).2 (Nat.le_of_ble_eq_true rfl)
  rw [show P' 2 i j = P 2 i j from e2, show P' 13 i j = P 13 i j from e13, ha (13, i, j, 0) (by simp [zRef]; exact hc.1)]
theorem zc13_cg (h : zPk P P' (13, i, j, o)) (ha : ∀ q, zRef P (13, i, j, o) q → ad' q = ad q) : zc13 Δ ad' P' i j o r = zc13 Δ ad P i j o r := by
  unfold zc13
  obtain ⟨hi, hp⟩ := h.2.2.1 ⟨Nat.le_of_ble_eq_true rfl, Nat.le_of_ble_eq_true rfl⟩
  refine ite_iff ?_ (fun hc => ?_)
  · constructor
    · rintro ⟨⟨⟨q1, q2⟩, q3⟩, q4⟩
      have q5 := hi.mp q1
      obtain ⟨e1, e2⟩ := hp q5
      obtain ⟨e3, e4⟩ := e2 (Nat.le_of_ble_eq_true rfl)
      rw [show P' 1 i 0 = P 1 i 0 from e1] at q2
      rw [show P' 13 i j = P 13 i j from e4] at q4
      exact ⟨⟨⟨q5, q2⟩, q3⟩, q4⟩
    · rintro ⟨⟨⟨q1, q2⟩, q3⟩, q4⟩
      obtain ⟨e1, e2⟩ := hp q1
      obtain ⟨e3, e4⟩ := e2 (Nat.le_of_ble_eq_true rfl)
      rw [← show P' 1 i 0 = P 1 i 0 from e1] at q2
      rw [← show P' 13 i j = P 13 i j from e4] at q4
      exact ⟨⟨⟨hi.mpr q1, q2⟩, q3⟩, q4⟩
  · obtain ⟨e2, e13⟩ := (hp hc.1.1.1).2 (Nat.le_of_ble_eq_true rfl)
    have e2' : P' 2 i j = P 2 i j := e2
    have e13' : P' 13 i j = P 13 i j := e13
    rw [e2', e13']
    have e : (fun x => if 0 ≤ x ∧ x < P 2 i j then some (ad' (14, i, j, x)) else none) = fun x => if 0 ≤ x ∧ x < P 2 i j then some (ad (14, i, j, x)) else none := by
      funext x
      exact ite_cg (fun hx => by rw [ha (14, i, j, x) (by simp [zRef]; exact ⟨hc.1.1, hx⟩)]) (fun _ => rfl)
    rw [e]
theorem zc14_cg (h : zPk P P' (14, i, j, o)) (ha : ∀ q, zRef P (14, i, j, o) q → ad' q = ad q) : zc14 Δ ad' P' i j o r = zc14 Δ ad P i j o r := by
  unfold zc14
  obtain ⟨hi, hp⟩ := h.2.2.1 ⟨Nat.le_of_ble_eq_true rfl, Nat.le_of_ble_eq_true rfl⟩
  refine ite_iff ?_ (fun hc => rfl)
  constructor
  · rintro ⟨⟨q1, q2⟩, q3⟩
    have q5 := hi.mp q1
    obtain ⟨e1, e2⟩ := hp q5
    rw [show P' 1 i 0 = P 1 i 0 from e1] at q2
    rw [show P' 2 i j = P 2 i j from (e2 (Nat.le_of_ble_eq_true rfl)).1] at q3
    exact ⟨⟨q5, q2⟩, q3⟩
  · rintro ⟨⟨q1, q2⟩, q3⟩
    obtain ⟨e1, e2⟩ := hp q1
    rw [← show P' 1 i 0 = P 1 i 0 from e1] at q2
    rw [← show P' 2 i j = P 2 i j from (e2 (Nat.le_of_ble_eq_true rfl)).1] at q3
    exact ⟨⟨hi.mpr q1, q2⟩, q3⟩
theorem zc15_cg (h : zPk P P' (15, i, j, o)) (ha : ∀ q, zRef P (15, i, j, o) q → ad' q = ad q) : zc15 Δ ad' P' i j o r = zc15 Δ ad P i j o r := by
  unfold zc15
  obtain ⟨hi, hp⟩ := h.2.2.2.1 ⟨Nat.le_of_ble_eq_true rfl, Nat.le_of_ble_eq_true rfl⟩
  refine ite_iff (and_congr_left' hi) (fun hc => ?_)
  rw [ha (16, i, 0, 0) (by simp [zRef]; exact hc.1), ha (17, i, 0, 0) (by simp [zRef]; exact hc.1)]
theorem zc16_cg (h : zPk P P' (16, i, j, o)) (ha : ∀ q, zRef P (16, i, j, o) q → ad' q = ad q) : zc16 Δ ad' P' i j o r = zc16 Δ ad P i j o r := by
  unfold zc16
  obtain ⟨hi, hp⟩ := h.2.2.2.1 ⟨Nat.le_of_ble_eq_true rfl, Nat.le_of_ble_eq_true rfl⟩
  refine ite_iff (and_congr_left' hi) (fun hc => ?_)
  obtain ⟨e4, e1⟩ := hp hc.1
  rw [show P' 4 i 0 = P 4 i 0 from e4, show P' 1 (P 4 i 0) 0 = P 1 (P 4 i 0) 0 from e1]
  have e : (fun x => some (ad' (18, i, x, 0))) = fun x => some (ad (18, i, x, 0)) := by
    funext x
    rw [ha (18, i, x, 0) (by simp [zRef]; exact hc.1)]
  rw [e]
theorem zc17_cg (h : zPk P P' (17, i, j, o)) (ha : ∀ q, zRef P (17, i, j, o) q → ad' q = ad q) : zc17 Δ ad' P' i j o r = zc17 Δ ad P i j o r := by
  unfold zc17
  obtain ⟨hi, hp⟩ := h.2.2.2.1 ⟨Nat.le_of_ble_eq_true rfl, Nat.le_of_ble_eq_true rfl⟩
  exact ite_iff (and_congr_left' hi) (fun hc => rfl)
theorem zc18_cg (h : zPk P P' (18, i, j, o)) (ha : ∀ q, zRef P (18, i, j, o) q → ad' q = ad q) : zc18 Δ ad' P' i j o r = zc18 Δ ad P i j o r := by
  unfold zc18
  obtain ⟨hi, hp⟩ := h.2.2.2.1 ⟨Nat.le_of_ble_eq_true rfl, Nat.le_of_ble_eq_true rfl⟩
  have hij : ((0 ≤ i ∧ i < P' 3 0 0) ∧ (0 ≤ j ∧ j < P' 1 (P' 4 i 0) 0)) ↔ ((0 ≤ i ∧ i < P 3 0 0) ∧ (0 ≤ j ∧ j < P 1 (P 4 i 0) 0)) := by
    constructor
    · rintro ⟨q1, q2⟩
      have q3 := hi.mp q1
      obtain ⟨e4, e1⟩ := hp q3
      rw [show P' 4 i 0 = P 4 i 0 from e4, show P' 1 (P 4 i 0) 0 = P 1 (P 4 i 0) 0 from e1] at q2
      exact ⟨q3, q2⟩
    · rintro ⟨q1, q2⟩
      obtain ⟨e4, e1⟩ := hp q1
      rw [show P' 4 i 0 = P 4 i 0 from e4, show P' 1 (P 4 i 0) 0 = P 1 (P 4 i 0) 0 from e1]
      exact ⟨hi.mpr q1, q2⟩
  refine ite_iff (and_congr_left' hij) (fun hc => ?_)
  obtain ⟨e4, -⟩ := hp hc.1.1
  rw [show P' 4 i 0 = P 4 i 0 from e4, ha (11, P 4 i 0, j, 0) (by simp [zRef]; exact hc.1), ha (19, i, j, 0) (by simp [zRef]; exact hc.1), ha (20, i, j, 0) (by simp [zRef]; exact hc.1), ha (21, i, j, 0) (by simp [zRef]; exact hc.1)]
theorem zc19_cg (h : zPk P P' (19, i, j, o)) (ha : ∀ q, zRef P (19, i, j, o) q → ad' q = ad q) : zc19 Δ ad' P' i j o r = zc19 Δ ad P i j o r := by
  unfold zc19
  obtain ⟨hi, hp⟩ := h.2.2.2.1 ⟨Nat.le_of_ble_eq_true rfl, Nat.le_of_ble_eq_true rfl⟩
  have hij : ((0 ≤ i ∧ i < P' 3 0 0) ∧ (0 ≤ j ∧ j < P' 1 (P' 4 i 0) 0)) ↔ ((0 ≤ i ∧ i < P 3 0 0) ∧ (0 ≤ j ∧ j < P 1 (P 4 i 0) 0)) := by
    constructor
    · rintro ⟨q1, q2⟩
      have q3 := hi.mp q1
      obtain ⟨e4, e1⟩ := hp q3
      rw [show P' 4 i 0 = P 4 i 0 from e4, show P' 1 (P 4 i 0) 0 = P 1 (P 4 i 0) 0 from e1] at q2
      exact ⟨q3, q2⟩
    · rintro ⟨q1, q2⟩
      obtain ⟨e4, e1⟩ := hp q1
      rw [show P' 4 i 0 = P 4 i 0 from e4, show P' 1 (P 4 i 0) 0 = P 1 (P 4 i 0) 0 from e1]
      exact ⟨hi.mpr q1, q2⟩
  exact ite_iff (and_congr_left' hij) (fun hc => rfl)
theorem zc20_cg (h : zPk P P' (20, i, j, o)) (ha : ∀ q, zRef P (20, i, j, o) q → ad' q = ad q) : zc20 Δ ad' P' i j o r = zc20 Δ ad P i j o r := by
  unfold zc20
  obtain ⟨hi, hp⟩ := h.2.2.2.1 ⟨Nat.le_of_ble_eq_true rfl, Nat.le_of_ble_eq_true rfl⟩
  have hij : ((0 ≤ i ∧ i < P' 3 0 0) ∧ (0 ≤ j ∧ j < P' 1 (P' 4 i 0) 0)) ↔ ((0 ≤ i ∧ i < P 3 0 0) ∧ (0 ≤ j ∧ j < P 1 (P 4 i 0) 0)) := by
    constructor
    · rintro ⟨q1, q2⟩
      have q3 := hi.mp q1
      obtain ⟨e4, e1⟩ := hp q3
      rw [show P' 4 i 0 = P 4 i 0 from e4, show P' 1 (P 4 i 0) 0 = P 1 (P 4 i 0) 0 from e1] at q2
      exact ⟨q3, q2⟩
    · rintro ⟨q1, q2⟩
      obtain ⟨e4, e1⟩ := hp q1
      rw [show P' 4 i 0 = P 4 i 0 from e4, show P' 1 (P 4 i 0) 0 = P 1 (P 4 i 0) 0 from e1]
      exact ⟨hi.mpr q1, q2⟩
  exact ite_iff (and_congr_left' hij) (fun hc => rfl)
theorem zc21_cg (h : zPk P P' (21, i, j, o)) (ha : ∀ q, zRef P (21, i, j, o) q → ad' q = ad q) : zc21 Δ ad' P' i j o r = zc21 Δ ad P i j o r := by
  unfold zc21
  obtain ⟨hi, hp⟩ := h.2.2.2.1 ⟨Nat.le_of_ble_eq_true rfl, Nat.le_of_ble_eq_true rfl⟩
  have hij : ((0 ≤ i ∧ i < P' 3 0 0) ∧ (0 ≤ j ∧ j < P' 1 (P' 4 i 0) 0)) ↔ ((0 ≤ i ∧ i < P 3 0 0) ∧ (0 ≤ j ∧ j < P 1 (P 4 i 0) 0)) := by
    constructor
    · rintro ⟨q1, q2⟩
      have q3 := hi.mp q1
      obtain ⟨e4, e1⟩ := hp q3
      rw [show P' 4 i 0 = P 4 i 0 from e4, show P' 1 (P 4 i 0) 0 = P 1 (P 4 i 0) 0 from e1] at q2
      exact ⟨q3, q2⟩
    · rintro ⟨q1, q2⟩
      obtain ⟨e4, e1⟩ := hp q1
      rw [show P' 4 i 0 = P 4 i 0 from e4, show P' 1 (P 4 i 0) 0 = P 1 (P 4 i 0) 0 from e1]
      exact ⟨hi.mpr q1, q2⟩
  exact ite_iff (and_congr_left' hij) (fun hc => rfl)
set_option maxRecDepth 100000 in
theorem zcnt_cg {k : zK} (h : zPk P P' k) (ha : ∀ q, zRef P k q → ad' q = ad q) : zcnt Δ ad' P' k r = zcnt Δ ad P k r := by
  obtain ⟨n, i, j, o⟩ := k
  unfold zcnt
  refine ite_cg (fun e => by have e' : n = 0 := e; subst e'; exact zc0_cg h ha) (fun _ => ?_)
  refine ite_cg (fun e => by have e' : n = 1 := e; subst e'; exact zc1_cg h ha) (fun _ => ?_)
  refine ite_cg (fun _ => rfl) (fun _ => ?_)
  refine ite_cg (fun _ => rfl) (fun _ => ?_)
  refine ite_cg (fun e => by have e' : n = 4 := e; subst e'; exact zc4_cg h ha) (fun _ => ?_)
  refine ite_cg (fun e => by have e' : n = 5 := e; subst e'; exact zc5_cg h ha) (fun _ => ?_)
  refine ite_cg (fun e => by have e' : n = 6 := e; subst e'; exact zc6_cg h ha) (fun _ => ?_)
  refine ite_cg (fun e => by have e' : n = 7 := e; subst e'; exact zc7_cg h ha) (fun _ => ?_)
  refine ite_cg (fun e => by have e' : n = 8 := e; subst e'; exact zc8_cg h ha) (fun _ => ?_)
  refine ite_cg (fun e => by have e' : n = 9 := e; subst e'; exact zc9_cg h ha) (fun _ => ?_)
  refine ite_cg (fun e => by have e' : n = 10 := e; subst e'; exact zc10_cg h ha) (fun _ => ?_)
  refine ite_cg (fun e => by have e' : n = 11 := e; subst e'; exact zc11_cg h ha) (fun _ => ?_)
  refine ite_cg (fun e => by have e' : n = 12 := e; subst e'; exact zc12_cg h ha) (fun _ => ?_)
  refine ite_cg (fun e => by have e' : n = 13 := e; subst e'; exact zc13_cg h ha) (fun _ => ?_)
  refine ite_cg (fun e => by have e' : n = 14 := e; subst e'; exact zc14_cg h ha) (fun _ => ?_)
  refine ite_cg (fun e => by have e' : n = 15 := e; subst e'; exact zc15_cg h ha) (fun _ => ?_)
  refine ite_cg (fun e => by have e' : n = 16 := e; subst e'; exact zc16_cg h ha) (fun _ => ?_)
  refine ite_cg (fun e => by have e' : n = 17 := e; subst e'; exact zc17_cg h ha) (fun _ => ?_)
  refine ite_cg (fun e => by have e' : n = 18 := e; subst e'; exact zc18_cg h ha) (fun _ => ?_)
  refine ite_cg (fun e => by have e' : n = 19 := e; subst e'; exact zc19_cg h ha) (fun _ => ?_)
  refine ite_cg (fun e => by have e' : n = 20 := e; subst e'; exact zc20_cg h ha) (fun _ => ?_)
  refine ite_cg (fun e => by have e' : n = 21 := e; subst e'; exact zc21_cg h ha) (fun _ => ?_)
  rfl
end ZCG
/-- contents of arrays matter below the length alone -/
theorem G_eqv {Γ : zCx} {R : Room} {cc : ByteArray} {nL : Nat} {own : String} {ad : zK → Nat} {M M' : zMem} {nc ns pc : Nat} {lv : List (Nat × Value)} {st : List Value} (h : ∀ k e', M' k = some e' → ∃ e, M k = some e ∧ ∀ H : Heap, va_at (z_d Γ).1 vwCl (ad k, e) H → va_at (z_d Γ).1 vwCl (ad k, e') H) (kk : G Γ R cc nL own ad M' nc ns pc lv st) : G Γ R cc nL own ad M nc ns pc lv st := by
  intro C H locs ls h1 h2 h3 h4
  have hd : ∀ k, M' k ≠ none → M k ≠ none := fun k hk => by
    cases hm : M' k with
    | none => exact absurd hm hk
    | some e' =>
      obtain ⟨e, g1, -⟩ := h k e' hm
      rw [g1]
      exact fun q => by cases q
  refine kk C H locs ls ⟨fun k e' hk => ?_, fun k k' hk hk' e => h1.2 k k' (hd k hk) (hd k' hk') e⟩ (fun k hk => h2 k (hd k hk)) h3 h4
  obtain ⟨e, g1, g2⟩ := h k e' hk
  exact g2 H (h1.1 k e g1)
theorem va_eqF {D : va_G} {q n : Nat} {c : ClassId} {F F' : Int → Option Nat} (hF : ∀ x : Int, 0 ≤ x → x < n → F x = F' x) (H : Heap) (h : va_at D vwCl (q, .inl (c, n, .inr (.inr (.inr (.inr (zAq F)))))) H) : va_at D vwCl (q, .inl (c, n, .inr (.inr (.inr (.inr (zAq F')))))) H := by
  have e : vp_cell c (n, .inr (.inr (.inr (.inr (zAq F))))) = vp_cell c (n, .inr (.inr (.inr (.inr (zAq F'))))) := by
    rw [vp_cell_q, vp_cell_q]
    unfold arrV
    congr 1
    congr 1
    funext j
    show va_rf (F ((j.val : Nat) : Int)) = va_rf (F' ((j.val : Nat) : Int))
    rw [hF _ (by omega) (by have := j.isLt; omega)]
  have h' : H[q]? = some (vp_cell c (n, .inr (.inr (.inr (.inr (zAq F)))))) := h
  rw [e] at h'
  exact h'
