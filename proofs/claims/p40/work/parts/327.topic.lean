/-! ===== topic ===== -/
theorem ca_Topic : Cond.castable RX5 "java/lang/Object" ∈ zNW := zNW_of 1064 (by decide +kernel) (by decide +kernel)
theorem ca_Message : Cond.castable RX2 "java/lang/Object" ∈ zNW := zNW_of 1067 (by decide +kernel) (by decide +kernel)
theorem ca_Group : Cond.castable RX0 "java/lang/Object" ∈ zNW := zNW_of 1066 (by decide +kernel) (by decide +kernel)
theorem zif_some {α : Type} {c : Prop} [Decidable c] {a e : α} (h : (if c then some a else none) = some e) : c := by
  by_cases q : c
  · exact q
  · rw [if_neg q] at h; cases h
theorem mm_old {Δ : zDl} {ad ad' : zK → Nat} {P P2 : zP} {S S2 : zS} {X : zMem} {k : zK} (h : k.1 < 80 → zPk P P2 k ∧ (∀ q, zRef P k q → ad' q = ad q) ∧ S2 k = S k) : mm Δ ad' P2 S2 X k = mm Δ ad P S X k := by
  by_cases h80 : k.1 < 80
  · obtain ⟨g1, g2, g3⟩ := h h80
    rw [mm_lt k h80, mm_lt k h80, g3]
    exact zcnt_cg g1 g2
  · rw [mm_ge k h80, mm_ge k h80]
/-- where a cell stands, its place is within the shape -/
theorem zcnt_in {Δ : zDl} {ad : zK → Nat} {P : zP} {k : zK} {r : Int → Int} {e : va_E} (h : zcnt Δ ad P k r = some e) : (k.1 = 4 ∨ k.1 = 5 ∨ k.1 = 6 ∨ k.1 = 7 → k.2.1 = 0 ∧ k.2.2.1 = 0 ∧ k.2.2.2 = 0) ∧ (8 ≤ k.1 ∧ k.1 ≤ 14 → (0 ≤ k.2.1 ∧ k.2.1 < P 0 0 0) ∧ (k.1 ≤ 10 → k.2.2.1 = 0) ∧ (11 ≤ k.1 → 0 ≤ k.2.2.1 ∧ k.2.2.1 < P 1 k.2.1 0) ∧ (k.1 ≤ 13 → k.2.2.2 = 0) ∧ (k.1 = 13 → 0 < P 13 k.2.1 k.2.2.1) ∧ (k.1 = 14 → 0 ≤ k.2.2.2 ∧ k.2.2.2 < P 2 k.2.1 k.2.2.1)) ∧ (15 ≤ k.1 ∧ k.1 ≤ 21 → (0 ≤ k.2.1 ∧ k.2.1 < P 3 0 0) ∧ (k.1 ≤ 17 → k.2.2.1 = 0) ∧ (18 ≤ k.1 → 0 ≤ k.2.2.1 ∧ k.2.2.1 < P 1 (P 4 k.2.1 0) 0) ∧ k.2.2.2 = 0) := by
  obtain ⟨n, i, j, o⟩ := k
  refine ⟨fun q => ?_, fun q => ?_, fun q => ?_⟩
  · rcases (show n = 4 ∨ n = 5 ∨ n = 6 ∨ n = 7 from q) with rfl | rfl | rfl | rfl
    · exact (zif_some (show zc4 Δ ad P i j o r = some e from h))
    · exact (zif_some (show zc5 Δ ad P i j o r = some e from h)).1
    · exact (zif_some (show zc6 Δ ad P i j o r = some e from h))
    · exact (zif_some (show zc7 Δ ad P i j o r = some e from h)).1
  · have q' : n = 8 ∨ n = 9 ∨ n = 10 ∨ n = 11 ∨ n = 12 ∨ n = 13 ∨ n = 14 := by
      have := show 8 ≤ n ∧ n ≤ 14 from q
      omega
    rcases q' with rfl | rfl | rfl | rfl | rfl | rfl | rfl
    · have c := zif_some (show zc8 Δ ad P i j o r = some e from h)
      exact ⟨c.1, fun _ => c.2.1, fun q => absurd q (by simp), fun _ => c.2.2, fun q => absurd q (by simp), fun q => absurd q (by simp)⟩
    · have c := zif_some (show zc9 Δ ad P i j o r = some e from h)
      exact ⟨c.1, fun _ => c.2.1, fun q => absurd q (by simp), fun _ => c.2.2, fun q => absurd q (by simp), fun q => absurd q (by simp)⟩
    · have c := zif_some (show zc10 Δ ad P i j o r = some e from h)
      exact ⟨c.1, fun _ => c.2.1, fun q => absurd q (by simp), fun _ => c.2.2, fun q => absurd q (by simp), fun q => absurd q (by simp)⟩
    · have c := zif_some (show zc11 Δ ad P i j o r = some e from h)
      exact ⟨c.1.1, fun q => absurd q (by simp), fun _ => c.1.2, fun _ => c.2, fun q => absurd q (by simp), fun q => absurd q (by simp)⟩
    · have c := zif_some (show zc12 Δ ad P i j o r = some e from h)
      exact ⟨c.1.1, fun q => absurd q (by simp), fun _ => c.1.2, fun _ => c.2, fun q => absurd q (by simp), fun q => absurd q (by simp)⟩
    · have c := zif_some (show zc13 Δ ad P i j o r = some e from h)
      exact ⟨c.1.1.1, fun q => absurd q (by simp), fun _ => c.1.1.2, fun _ => c.1.2, fun _ => c.2, fun q => absurd q (by simp)⟩
    · have c := zif_some (show zc14 Δ ad P i j o r = some e from h)
      exact ⟨c.1.1, fun q => absurd q (by simp), fun _ => c.1.2, fun q => absurd q (by simp), fun q => absurd q (by simp), fun _ => c.2⟩
  · have q' : n = 15 ∨ n = 16 ∨ n = 17 ∨ n = 18 ∨ n = 19 ∨ n = 20 ∨ n = 21 := by
      have := show 15 ≤ n ∧ n ≤ 21 from q
      omega
    rcases q' with rfl | rfl | rfl | rfl | rfl | rfl | rfl
    · have c := zif_some (show zc15 Δ ad P i j o r = some e from h)
      exact ⟨c.1, fun _ => c.2.1, fun q => absurd q (by simp), c.2.2⟩
    · have c := zif_some (show zc16 Δ ad P i j o r = some e from h)
      exact ⟨c.1, fun _ => c.2.1, fun q => absurd q (by simp), c.2.2⟩
    · have c := zif_some (show zc17 Δ ad P i j o r = some e from h)
      exact ⟨c.1, fun _ => c.2.1, fun q => absurd q (by simp), c.2.2⟩
    · have c := zif_some (show zc18 Δ ad P i j o r = some e from h)
      exact ⟨c.1.1, fun q => absurd q (by simp), fun _ => c.1.2, c.2⟩
    · have c := zif_some (show zc19 Δ ad P i j o r = some e from h)
      exact ⟨c.1.1, fun q => absurd q (by simp), fun _ => c.1.2, c.2⟩
    · have c := zif_some (show zc20 Δ ad P i j o r = some e from h)
      exact ⟨c.1.1, fun q => absurd q (by simp), fun _ => c.1.2, c.2⟩
    · have c := zif_some (show zc21 Δ ad P i j o r = some e from h)
      exact ⟨c.1.1, fun q => absurd q (by simp), fun _ => c.1.2, c.2⟩
def zPt (P : zP) (n c : Int) : zP := fun m i j => if m = 0 ∧ i = 0 ∧ j = 0 then P 0 0 0 + 1 else if m = 1 ∧ i = P 0 0 0 then n else if (m = 2 ∨ m = 13) ∧ i = P 0 0 0 then 0 else if m = 5 ∧ i = 0 ∧ j = 0 then c else P m i j
def zSt (P : zP) (S : zS) (b z : Int) : zS := fun k f => if k = (4, 0, 0, 0) then (if f = 0 then z else S k f) else if k = (8, P 0 0 0, 0, 0) then (if f = 1 then b else 0) else if (k.1 = 10 ∨ k.1 = 11 ∨ k.1 = 12) ∧ k.2.1 = P 0 0 0 then 0 else S k f
theorem zPt_0 {P : zP} {n c : Int} : zPt P n c 0 0 0 = P 0 0 0 + 1 := if_pos ⟨rfl, rfl, rfl⟩
theorem zPt_1 {P : zP} {n c t : Int} : zPt P n c 1 t 0 = if t = P 0 0 0 then n else P 1 t 0 := by
  by_cases h : t = P 0 0 0
  · subst h; simp [zPt]
  · simp [zPt, h]
theorem zPt_2 {P : zP} {n c t p : Int} : zPt P n c 2 t p = if t = P 0 0 0 then 0 else P 2 t p := by
  by_cases h : t = P 0 0 0
  · subst h; simp [zPt]
  · simp [zPt, h]
theorem zPt_13 {P : zP} {n c t p : Int} : zPt P n c 13 t p = if t = P 0 0 0 then 0 else P 13 t p := by
  by_cases h : t = P 0 0 0
  · subst h; simp [zPt]
  · simp [zPt, h]
theorem zPt_5 {P : zP} {n c : Int} : zPt P n c 5 0 0 = c := by simp [zPt]
theorem zPt_m {P : zP} {n c : Int} {m : Nat} {i j : Int} (h : m = 3 ∨ m = 4 ∨ m = 7 ∨ m = 61) : zPt P n c m i j = P m i j := by
  rcases h with rfl | rfl | rfl | rfl <;> simp [zPt]
theorem zgt_Pt {P : zP} {n c : Int} : zgt P (zPt P n c) n := ⟨zPt_0, zPt_m (by decide), fun _ => zPt_1, fun _ _ => zPt_2, fun _ => zPt_m (by decide), zPt_m (by decide)⟩
theorem zWP_Pt {P : zP} {n c : Int} (h : zWP P) (h4 : P 0 0 0 < 4) (hn : 1 ≤ n ∧ n ≤ 4) (hc : P 0 0 0 < c ∧ c ≤ 200) : zWP (zPt P n c) := by
  obtain ⟨a1, a2, a3, a4, a5, a6, a7⟩ := h
  refine ⟨?_, ?_, fun t ht => ?_, fun t p ht hp => ?_, fun g hg => ?_, ?_, ?_⟩
  · rw [zPt_0]; omega
  · rw [zPt_m (by decide)]; exact a2
  · rw [zPt_0] at ht
    rw [zPt_1]
    by_cases q : t = P 0 0 0
    · rw [if_pos q]; exact hn
    · rw [if_neg q]; exact a3 t (by omega)
  · rw [zPt_0] at ht
    rw [zPt_1] at hp
    rw [zPt_2, zPt_13]
    by_cases q : t = P 0 0 0
    · rw [if_pos q, if_pos q]; omega
    · rw [if_neg q] at hp
      rw [if_neg q, if_neg q]; exact a4 t p (by omega) hp
  · rw [zPt_m (by decide)] at hg
    rw [zPt_m (by decide), zPt_0]
    have := a5 g hg
    omega
  · rw [zPt_0, zPt_5]; omega
  · rw [zPt_m (by decide), zPt_m (by decide)]; exact a7
theorem zSt_k {P : zP} {S : zS} {b z : Int} {k : zK} (h1 : k ≠ (4, 0, 0, 0)) (h2 : ¬ tpN (P 0 0 0) k) : zSt P S b z k = S k := by
  funext f
  unfold zSt
  rw [if_neg h1, if_neg (fun q => h2 (by rw [q]; exact ⟨rfl, Nat.le_of_ble_eq_true rfl, Nat.le_of_ble_eq_true rfl⟩)), if_neg (fun q => h2 ⟨q.2, by omega, by omega⟩)]
set_option maxHeartbeats 2000000 in
theorem mm_topic {Δ : zDl} {ad ad3 : zK → Nat} {P : zP} {S : zS} {X M3 : zMem} {n b m1 z : Int} {c : Nat} {kb : zK} (hP : zWP P) (hX : X (91, 0, 0, 0) = none) (hn : 1 ≤ n ∧ n ≤ 4) (h4 : P 0 0 0 < 4) (hc : P 0 0 0 < c) (hz : zI z = zI (m1))
    (hM : ∀ k, ¬ tpN (P 0 0 0) k → k ≠ (4, 0, 0, 0) → k ≠ (5, 0, 0, 0) → k ≠ (91, 0, 0, 0) → M3 k = mm Δ ad P S X k) (ha : ∀ k, ¬ tpN (P 0 0 0) k → k ≠ (91, 0, 0, 0) → ad3 k = ad k)
    (g8 : M3 (8, P 0 0 0, 0, 0) = some (.inr (6, [.ref (ad3 (9, P 0 0 0, 0, 0)), .int (zI b), .ref (ad3 (10, P 0 0 0, 0, 0)), .int (zI 0)])))
    (g9 : M3 (9, P 0 0 0, 0, 0) = some (.inl (Δ.2.1 2, n.toNat, .inr (.inr (.inr (.inr (zAq (fun x => some (ad3 (11, P 0 0 0, x, 0)))))))))) (g10 : M3 (10, P 0 0 0, 0, 0) = some (.inl (Δ.2.1 0, 4, .inl (zAi (fun _ => 0)))))
    (g11 : ∀ x, 0 ≤ x → x < n → M3 (11, P 0 0 0, x, 0) = some (.inr (4, [.ref (ad3 (12, P 0 0 0, x, 0)), .int (zI 0)])) ∧ M3 (12, P 0 0 0, x, 0) = some (zLi 0 Δ.2.2.1 0))
    (g4 : M3 (4, 0, 0, 0) = some (zLi m1 (ad3 kb) (P 0 0 0 + 1))) (g5 : M3 kb = some (zOA Δ c (zup (fun x => if 0 ≤ x ∧ x < P 0 0 0 then some (ad (8, x, 0, 0)) else none) (P 0 0 0) (some (ad3 (8, P 0 0 0, 0, 0))))))
    (hkb : kb = (5, 0, 0, 0) ∨ kb = (91, 0, 0, 0)) : ∀ k e', mm Δ (zup1 ad3 (5, 0, 0, 0) (ad3 kb)) (zPt P n c) (zSt P S b z) X k = some e' → M3 (if k = (5, 0, 0, 0) then kb else k) = some e' ∧ zup1 ad3 (5, 0, 0, 0) (ad3 kb) k = ad3 (if k = (5, 0, 0, 0) then kb else k) := by
  intro k e' hk
  refine ⟨?_, ?_⟩
  rotate_left
  · by_cases q : k = (5, 0, 0, 0)
    · rw [q, zup1_s, if_pos rfl]
    · rw [zup1_n _ _ q, if_neg q]
  have hq := hP.n.1.1.1
  have eT : ∀ (a : Nat) (i j o : Int), a ≠ 5 → zup1 ad3 (5, 0, 0, 0) (ad3 kb) (a, i, j, o) = ad3 (a, i, j, o) := fun a i j o h => zup1_n _ _ (fun q => h (congrArg Prod.fst q))
  have e8 : ∀ x, x < P 0 0 0 → ad3 (8, x, 0, 0) = ad (8, x, 0, 0) := fun x hx => ha _ (fun q => by have := q.1; simp only at this; omega) (by simp)
  obtain ⟨N, i, j, o⟩ := k
  by_cases h80 : N < 80
  rotate_left
  · rw [mm_ge _ h80] at hk
    have h91 : ((N, i, j, o) : zK) ≠ (91, 0, 0, 0) := fun q => by rw [q, hX] at hk; cases hk
    have h5 : ((N, i, j, o) : zK) ≠ (5, 0, 0, 0) := fun q => by simp only [Prod.mk.injEq] at q; omega
    have h4' : ((N, i, j, o) : zK) ≠ (4, 0, 0, 0) := fun q => by simp only [Prod.mk.injEq] at q; omega
    rw [if_neg h5, hM _ (fun q => by have := q.2.2; simp only at this; omega) h4' h5 h91, mm_ge _ h80]
    exact hk
  rw [mm_lt _ h80] at hk
  obtain ⟨in4, in8, in15⟩ := zcnt_in hk
  simp only at in4 in8 in15
  by_cases c4 : N = 4
  · obtain ⟨rfl, rfl, rfl⟩ := in4 (by omega)
    subst c4
    rw [if_neg (by simp), g4]
    have hk' : zc4 Δ (zup1 ad3 (5, 0, 0, 0) (ad3 kb)) (zPt P n c) 0 0 0 (zSt P S b z (4, 0, 0, 0)) = some e' := hk
    rw [show zc4 Δ (zup1 ad3 (5, 0, 0, 0) (ad3 kb)) (zPt P n c) 0 0 0 (zSt P S b z (4, 0, 0, 0)) = _ from if_pos ⟨rfl, rfl, rfl⟩, zPt_5, zPt_0, if_neg (by omega), zup1_s, show zSt P S b z (4, 0, 0, 0) 0 = z from rfl, hz] at hk'
    exact hk'
  by_cases c5 : N = 5
  · obtain ⟨rfl, rfl, rfl⟩ := in4 (by omega)
    subst c5
    rw [if_pos rfl, g5]
    have hk' : zc5 Δ (zup1 ad3 (5, 0, 0, 0) (ad3 kb)) (zPt P n c) 0 0 0 (zSt P S b z (5, 0, 0, 0)) = some e' := hk
    have hF : zup (fun x => if 0 ≤ x ∧ x < P 0 0 0 then some (ad (8, x, 0, 0)) else none) (P 0 0 0) (some (ad3 (8, P 0 0 0, 0, 0))) = fun x => if 0 ≤ x ∧ x < P 0 0 0 + 1 then some (zup1 ad3 (5, 0, 0, 0) (ad3 kb) (8, x, 0, 0)) else none := by
      funext x
      show (if x = P 0 0 0 then some (ad3 (8, P 0 0 0, 0, 0)) else if 0 ≤ x ∧ x < P 0 0 0 then some (ad (8, x, 0, 0)) else none) = if 0 ≤ x ∧ x < P 0 0 0 + 1 then some (zup1 ad3 (5, 0, 0, 0) (ad3 kb) (8, x, 0, 0)) else none
      rw [eT 8 _ _ _ (by decide)]
      by_cases hx : x = P 0 0 0
      · subst hx
        rw [if_pos rfl, if_pos (by omega)]
      · rw [if_neg hx]
        by_cases h1 : 0 ≤ x ∧ x < P 0 0 0
        · rw [if_pos h1, if_pos (by omega), e8 x h1.2]
        · rw [if_neg h1, if_neg (by omega)]
    rw [show zc5 Δ (zup1 ad3 (5, 0, 0, 0) (ad3 kb)) (zPt P n c) 0 0 0 (zSt P S b z (5, 0, 0, 0)) = _ from if_pos ⟨⟨rfl, rfl, rfl⟩, by rw [zPt_5]; omega⟩, zPt_5, zPt_0, ← hF, show ((c : Int)).toNat = c by omega] at hk'
    exact hk'
  by_cases cN : tpN (P 0 0 0) (N, i, j, o)
  · obtain ⟨cY, c8, c12⟩ := cN
    simp only at cY c8 c12
    subst cY
    obtain ⟨d1, d2, d3, d4, d5, d6⟩ := in8 ⟨c8, by omega⟩
    obtain rfl : o = 0 := d4 (by omega)
    rw [if_neg (fun q => c5 (congrArg Prod.fst q))]
    have q' : N = 8 ∨ N = 9 ∨ N = 10 ∨ N = 11 ∨ N = 12 := by omega
    rcases q' with rfl | rfl | rfl | rfl | rfl
    · obtain rfl : j = 0 := d2 (by omega)
      rw [g8]
      have hk' := (show zc8 Δ (zup1 ad3 (5, 0, 0, 0) (ad3 kb)) (zPt P n c) (P 0 0 0) 0 0 (zSt P S b z (8, P 0 0 0, 0, 0)) = some e' from hk)
      rw [show zc8 Δ (zup1 ad3 (5, 0, 0, 0) (ad3 kb)) (zPt P n c) (P 0 0 0) 0 0 (zSt P S b z (8, P 0 0 0, 0, 0)) = _ from if_pos ⟨d1, rfl, rfl⟩, eT _ _ _ _ (by decide), eT _ _ _ _ (by decide), show zSt P S b z (8, P 0 0 0, 0, 0) 1 = b by simp [zSt], show zSt P S b z (8, P 0 0 0, 0, 0) 3 = 0 by simp [zSt]] at hk'
      exact hk'
    · obtain rfl : j = 0 := d2 (by omega)
      rw [g9]
      have hk' := (show zc9 Δ (zup1 ad3 (5, 0, 0, 0) (ad3 kb)) (zPt P n c) (P 0 0 0) 0 0 (zSt P S b z (9, P 0 0 0, 0, 0)) = some e' from hk)
      rw [show zc9 Δ (zup1 ad3 (5, 0, 0, 0) (ad3 kb)) (zPt P n c) (P 0 0 0) 0 0 (zSt P S b z (9, P 0 0 0, 0, 0)) = _ from if_pos ⟨d1, rfl, rfl⟩, zPt_1, if_pos rfl, show (fun x => some (zup1 ad3 (5, 0, 0, 0) (ad3 kb) (11, P 0 0 0, x, 0))) = fun x => some (ad3 (11, P 0 0 0, x, 0)) from funext (fun x => by rw [eT _ _ _ _ (by decide)])] at hk'
      exact hk'
    · obtain rfl : j = 0 := d2 (by omega)
      rw [g10]
      have hk' := (show zc10 Δ (zup1 ad3 (5, 0, 0, 0) (ad3 kb)) (zPt P n c) (P 0 0 0) 0 0 (zSt P S b z (10, P 0 0 0, 0, 0)) = some e' from hk)
      rw [show zc10 Δ (zup1 ad3 (5, 0, 0, 0) (ad3 kb)) (zPt P n c) (P 0 0 0) 0 0 (zSt P S b z (10, P 0 0 0, 0, 0)) = _ from if_pos ⟨d1, rfl, rfl⟩, show zSt P S b z (10, P 0 0 0, 0, 0) = fun _ => 0 from funext (fun f => by simp [zSt])] at hk'
      exact hk'
    · have d3' := d3 (by omega)
      rw [zPt_1, if_pos rfl] at d3'
      rw [(g11 j d3'.1 d3'.2).1]
      have hk' := (show zc11 Δ (zup1 ad3 (5, 0, 0, 0) (ad3 kb)) (zPt P n c) (P 0 0 0) j 0 (zSt P S b z (11, P 0 0 0, j, 0)) = some e' from hk)
      rw [show zc11 Δ (zup1 ad3 (5, 0, 0, 0) (ad3 kb)) (zPt P n c) (P 0 0 0) j 0 (zSt P S b z (11, P 0 0 0, j, 0)) = _ from if_pos ⟨⟨d1, d3 (by omega)⟩, rfl⟩, eT _ _ _ _ (by decide), show zSt P S b z (11, P 0 0 0, j, 0) 1 = 0 by simp [zSt]] at hk'
      exact hk'
    · have d3' := d3 (by omega)
      rw [zPt_1, if_pos rfl] at d3'
      rw [(g11 j d3'.1 d3'.2).2]
      have hk' := (show zc12 Δ (zup1 ad3 (5, 0, 0, 0) (ad3 kb)) (zPt P n c) (P 0 0 0) j 0 (zSt P S b z (12, P 0 0 0, j, 0)) = some e' from hk)
      rw [show zc12 Δ (zup1 ad3 (5, 0, 0, 0) (ad3 kb)) (zPt P n c) (P 0 0 0) j 0 (zSt P S b z (12, P 0 0 0, j, 0)) = _ from if_pos ⟨⟨d1, d3 (by omega)⟩, rfl⟩, zPt_13, zPt_2, if_pos rfl, if_pos rfl, if_pos rfl, show zSt P S b z (12, P 0 0 0, j, 0) 0 = 0 by simp [zSt]] at hk'
      exact hk'
  have n4 : ((N, i, j, o) : zK) ≠ (4, 0, 0, 0) := fun q => c4 (congrArg Prod.fst q)
  have n5 : ((N, i, j, o) : zK) ≠ (5, 0, 0, 0) := fun q => c5 (congrArg Prod.fst q)
  have n91 : ((N, i, j, o) : zK) ≠ (91, 0, 0, 0) := fun q => by simp only [Prod.mk.injEq] at q; omega
  have hk2 : mm Δ (zup1 ad3 (5, 0, 0, 0) (ad3 kb)) (zPt P n c) (zSt P S b z) X (N, i, j, o) = some e' := (mm_lt _ h80).trans hk
  have hiY : 8 ≤ N ∧ N ≤ 14 → i ≠ P 0 0 0 := fun h => by
    intro hi
    subst hi
    by_cases h12 : N ≤ 12
    · exact cN ⟨rfl, h.1, h12⟩
    · obtain ⟨d1, d2, d3, d4, d5, d6⟩ := in8 h
      by_cases h13 : N = 13
      · have := d5 h13
        rw [zPt_13, if_pos rfl] at this
        omega
      · have := d6 (by omega)
        rw [zPt_2, if_pos rfl] at this
        omega
  rw [if_neg n5, hM _ cN n4 n5 n91, ← hk2]
  refine (mm_old (fun _ => ⟨⟨fun q => ?_, fun q => ?_, fun q => ?_, fun q => ?_, fun q => ?_⟩, fun q hq => ?_, zSt_k n4 cN⟩)).symm
  · exact absurd q (by simp only; omega)
  · exact ⟨zPt_m (by decide), zPt_m (by decide)⟩
  · have hi := hiY q
    show (0 ≤ i ∧ i < zPt P n c 0 0 0 ↔ 0 ≤ i ∧ i < P 0 0 0) ∧ (0 ≤ i ∧ i < P 0 0 0 → zPt P n c 1 i 0 = P 1 i 0 ∧ (12 ≤ N → zPt P n c 2 i j = P 2 i j ∧ zPt P n c 13 i j = P 13 i j))
    rw [zPt_0, zPt_1, zPt_2, zPt_13, if_neg hi, if_neg hi, if_neg hi]
    exact ⟨by omega, fun _ => ⟨rfl, fun _ => ⟨rfl, rfl⟩⟩⟩
  · show (0 ≤ i ∧ i < zPt P n c 3 0 0 ↔ 0 ≤ i ∧ i < P 3 0 0) ∧ (0 ≤ i ∧ i < P 3 0 0 → zPt P n c 4 i 0 = P 4 i 0 ∧ zPt P n c 1 (P 4 i 0) 0 = P 1 (P 4 i 0) 0)
    rw [zPt_m (by decide), zPt_m (by decide), zPt_1]
    refine ⟨Iff.rfl, fun hi => ⟨rfl, ?_⟩⟩
    have := hP.2.2.2.2.1 i hi
    rw [if_neg (by omega)]
  · exact zPt_m (by decide)
  · rcases hq with ⟨a0, q1 | q1 | q1 | q1⟩ | ⟨a0, q1⟩ | ⟨a0, q1⟩ | ⟨a0, x, hx, q1⟩ | ⟨a0, q1⟩ | ⟨a0, x, hx, q1⟩ | ⟨a0, hx, q1 | q1⟩ | ⟨a0, hx, x, q1⟩ | ⟨a0, hx, q1⟩ | ⟨a0, hx, q1⟩ | ⟨a0, hx, x, hx2, q1⟩ | ⟨a0, hx, q1 | q1⟩ | ⟨a0, hx, x, q1⟩ | ⟨a0, hx, q1 | q1 | q1 | q1⟩ | ⟨a0, x, hx, q1⟩ <;> subst q1 <;> simp only at a0
    all_goals first
      | exact absurd a0 c4
      | exact absurd a0 c5
      | (rw [eT _ _ _ _ (by decide)]; exact ha _ (fun q => by have q1 := q.1; have q2 := q.2.1; have q3 := q.2.2; simp only at q1 q2 q3 hx; omega) (by simp))
      | (rw [eT _ _ _ _ (by decide)]; exact ha _ (fun q => by have q2 := q.2.1; have q3 := q.2.2; simp only at q2 q3; omega) (by simp))
      | (rw [eT _ _ _ _ (by omega)]; exact ha _ (fun q => by have q2 := q.2.1; have q3 := q.2.2; simp only at q2 q3; omega) (fun q => by simp only [Prod.mk.injEq] at q; omega))
      | (rw [eT _ _ _ _ (by decide)]; exact ha _ (fun q => by have q1 := q.1; have := hP.2.2.2.2.1 i hx.1; simp only at q1; omega) (by simp))
