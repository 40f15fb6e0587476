/-! ===== the memory after send; adding to a partition ===== -/
def zPsd (P : zP) (t q c : Int) : zP := fun m i j => if m = 2 ∧ i = t ∧ j = q then P 2 t q + 1 else if m = 13 ∧ i = t ∧ j = q then c else P m i j
theorem zPsd_2 {P : zP} {t q c i j : Int} : zPsd P t q c 2 i j = if i = t ∧ j = q then P 2 t q + 1 else P 2 i j := by
  by_cases h : i = t ∧ j = q
  · simp [zPsd, h]
  · simp [zPsd, h]
theorem zPsd_13 {P : zP} {t q c i j : Int} : zPsd P t q c 13 i j = if i = t ∧ j = q then c else P 13 i j := by
  by_cases h : i = t ∧ j = q
  · simp [zPsd, h]
  · simp [zPsd, h]
theorem zPsd_m {P : zP} {t q c : Int} {m : Nat} {i j : Int} (h : ¬ m = 2 ∧ ¬ m = 13) : zPsd P t q c m i j = P m i j := by
  unfold zPsd
  rw [if_neg (fun e => h.1 e.1), if_neg (fun e => h.2 e.1)]
theorem zgr_Psd {P : zP} {t q c : Int} : zgr P (zPsd P t q c) t q := ⟨fun n i j h1 h2 _ _ => zPsd_m ⟨h1, h2⟩, fun i j h => by rw [zPsd_2, if_neg h], by rw [zPsd_2, if_pos ⟨rfl, rfl⟩]⟩
theorem zWP_Psd {P : zP} {t q c : Int} (h : zWP P) (h80 : P 2 t q < 80) (hc : P 2 t q < c ∧ c ≤ 200) : zWP (zPsd P t q c) := by
  obtain ⟨a1, a2, a3, a4, a5, a6, a7⟩ := h
  have e : ∀ (m : Nat) (i j : Int), ¬ m = 2 ∧ ¬ m = 13 → zPsd P t q c m i j = P m i j := fun m i j h => zPsd_m h
  refine ⟨?_, ?_, fun t' ht => ?_, fun t' p ht hp => ?_, fun g hg => ?_, ?_, ?_⟩
  · rw [e 0 _ _ (by decide)]; exact a1
  · rw [e 3 _ _ (by decide)]; exact a2
  · rw [e 0 _ _ (by decide)] at ht
    rw [e 1 _ _ (by decide)]; exact a3 t' ht
  · rw [e 0 _ _ (by decide)] at ht
    rw [e 1 _ _ (by decide)] at hp
    have := a4 t' p ht hp
    rw [zPsd_2, zPsd_13]
    by_cases h : t' = t ∧ p = q
    · obtain ⟨rfl, rfl⟩ := h
      rw [if_pos ⟨rfl, rfl⟩, if_pos ⟨rfl, rfl⟩]; omega
    · rw [if_neg h, if_neg h]; exact this
  · rw [e 3 _ _ (by decide)] at hg
    rw [e 4 _ _ (by decide), e 0 _ _ (by decide)]; exact a5 g hg
  · rw [e 0 _ _ (by decide), e 5 _ _ (by decide)]; exact a6
  · rw [e 3 _ _ (by decide), e 7 _ _ (by decide)]; exact a7
def zSsd (P : zP) (S1 : zS) (t q z : Int) (r : Int → Int) : zS := fun k f => if k = (12, t, q, 0) then (if f = 0 then z else S1 k f) else if k = (14, t, q, P 2 t q) then r f else S1 k f
theorem zSsd_k {P : zP} {S1 : zS} {t q z : Int} {r : Int → Int} {k : zK} (h1 : k ≠ (12, t, q, 0)) (h2 : k ≠ (14, t, q, P 2 t q)) : zSsd P S1 t q z r k = S1 k := by
  funext f
  unfold zSsd
  rw [if_neg h1, if_neg h2]
set_option maxHeartbeats 2000000 in
theorem mm_send {Δ : zDl} {ad ad3 : zK → Nat} {P : zP} {S : zS} {X M3 : zMem} {t q m1 z : Int} {r : Int → Int} {c : Nat} {kb : zK} (hP : zWP P) (hX : X (91, 0, 0, 0) = none) (ht : 0 ≤ t ∧ t < P 0 0 0) (hq : 0 ≤ q ∧ q < P 1 t 0) (hc : P 2 t q < c) (hz : zI z = zI (m1))
    (hM : ∀ k, k ≠ (12, t, q, 0) → k ≠ (13, t, q, 0) → k ≠ (14, t, q, P 2 t q) → k ≠ (91, 0, 0, 0) → M3 k = mm Δ ad P S X k) (ha : ∀ k, k ≠ (14, t, q, P 2 t q) → k ≠ (91, 0, 0, 0) → ad3 k = ad k)
    (g14 : M3 (14, t, q, P 2 t q) = some (.inr (3, [.int (zI (r 0)), .int (zI (r 1)), .int (zI (r 2)), .int (zI (r 3)), .int (zI (r 4)), .int (zI (r 5))])))
    (g12 : M3 (12, t, q, 0) = some (zLi m1 (ad3 kb) (P 2 t q + 1))) (g13 : M3 kb = some (zOA Δ c (zup (fun x => if 0 ≤ x ∧ x < P 2 t q then some (ad (14, t, q, x)) else none) (P 2 t q) (some (ad3 (14, t, q, P 2 t q))))))
    (hkb : kb = (13, t, q, 0) ∨ kb = (91, 0, 0, 0)) : ∀ k e', mm Δ (zup1 ad3 (13, t, q, 0) (ad3 kb)) (zPsd P t q c) (zSsd P S t q z r) X k = some e' → M3 (if k = (13, t, q, 0) then kb else k) = some e' ∧ zup1 ad3 (13, t, q, 0) (ad3 kb) k = ad3 (if k = (13, t, q, 0) then kb else k) := by
  intro k e' hk
  refine ⟨?_, ?_⟩
  rotate_left
  · by_cases q : k = (13, t, q, 0)
    · rw [q, zup1_s, if_pos rfl]
    · rw [zup1_n _ _ q, if_neg q]
  have hN := (hP.m ht hq).1
  have eT : ∀ (a : Nat) (i j o : Int), a ≠ 13 → zup1 ad3 (13, t, q, 0) (ad3 kb) (a, i, j, o) = ad3 (a, i, j, o) := fun a i j o h => zup1_n _ _ (fun q => h (congrArg Prod.fst q))
  have e14 : ∀ i j x, ¬ (i = t ∧ j = q ∧ x = P 2 t q) → ad3 (14, i, j, x) = ad (14, i, j, x) := fun i j x hx => ha _ (fun q => hx (by simp only [Prod.mk.injEq] at q; omega)) (by simp)
  have eA : ∀ (a : Nat) (i j o : Int), a ≠ 14 → a ≠ 91 → ad3 (a, i, j, o) = ad (a, i, j, o) := fun a i j o h1 h2 => ha _ (fun q => h1 (congrArg Prod.fst q)) (fun q => h2 (congrArg Prod.fst q))
  have eP : ∀ (m : Nat) (i j : Int), ¬ m = 2 ∧ ¬ m = 13 → zPsd P t q c m i j = P m i j := fun m i j h => zPsd_m h
  obtain ⟨N, i, j, o⟩ := k
  by_cases h80 : N < 80
  rotate_left
  · rw [mm_ge _ h80] at hk
    have h91 : ((N, i, j, o) : zK) ≠ (91, 0, 0, 0) := fun q => by rw [q, hX] at hk; cases hk
    have h13 : ((N, i, j, o) : zK) ≠ (13, t, q, 0) := fun q => by simp only [Prod.mk.injEq] at q; omega
    have h12 : ((N, i, j, o) : zK) ≠ (12, t, q, 0) := fun q => by simp only [Prod.mk.injEq] at q; omega
    have h14 : ((N, i, j, o) : zK) ≠ (14, t, q, P 2 t q) := fun q => by simp only [Prod.mk.injEq] at q; omega
    rw [if_neg h13, hM _ h12 h13 h14 h91, mm_ge _ h80]
    exact hk
  have hk2 : mm Δ (zup1 ad3 (13, t, q, 0) (ad3 kb)) (zPsd P t q c) (zSsd P S t q z r) X (N, i, j, o) = some e' := hk
  rw [mm_lt _ h80] at hk
  obtain ⟨in4, in8, in15⟩ := zcnt_in hk
  simp only at in4 in8 in15
  by_cases c12 : ((N, i, j, o) : zK) = (12, t, q, 0)
  · simp only [Prod.mk.injEq] at c12
    obtain ⟨rfl, rfl, rfl, rfl⟩ := c12
    rw [if_neg (by simp), g12]
    have hk' : zc12 Δ (zup1 ad3 (13, i, j, 0) (ad3 kb)) (zPsd P i j c) i j 0 (zSsd P S i j z r (12, i, j, 0)) = some e' := hk
    rw [show zc12 Δ (zup1 ad3 (13, i, j, 0) (ad3 kb)) (zPsd P i j c) i j 0 (zSsd P S i j z r (12, i, j, 0)) = _ from if_pos ⟨⟨by rw [eP 0 _ _ (by decide)]; exact ht, by rw [eP 1 _ _ (by decide)]; exact hq⟩, rfl⟩, zPsd_13, zPsd_2, if_pos (show i = i ∧ j = j from ⟨rfl, rfl⟩), if_pos (show i = i ∧ j = j from ⟨rfl, rfl⟩), if_neg (show ¬ (c : Int) = 0 by omega), zup1_s, show zSsd P S i j z r (12, i, j, 0) 0 = z by simp [zSsd], hz] at hk'
    exact hk'
  by_cases c13 : ((N, i, j, o) : zK) = (13, t, q, 0)
  · rw [if_pos c13, g13]
    simp only [Prod.mk.injEq] at c13
    obtain ⟨rfl, rfl, rfl, rfl⟩ := c13
    have hk' : zc13 Δ (zup1 ad3 (13, i, j, 0) (ad3 kb)) (zPsd P i j c) i j 0 (zSsd P S i j z r (13, i, j, 0)) = some e' := hk
    have hF : zup (fun x => if 0 ≤ x ∧ x < P 2 i j then some (ad (14, i, j, x)) else none) (P 2 i j) (some (ad3 (14, i, j, P 2 i j))) = fun x => if 0 ≤ x ∧ x < P 2 i j + 1 then some (zup1 ad3 (13, i, j, 0) (ad3 kb) (14, i, j, x)) else none := by
      funext x
      show (if x = P 2 i j then some (ad3 (14, i, j, P 2 i j)) else if 0 ≤ x ∧ x < P 2 i j then some (ad (14, i, j, x)) else none) = if 0 ≤ x ∧ x < P 2 i j + 1 then some (zup1 ad3 (13, i, j, 0) (ad3 kb) (14, i, j, x)) else none
      rw [eT 14 _ _ _ (by decide)]
      by_cases hx : x = P 2 i j
      · subst hx
        rw [if_pos rfl, if_pos (by omega)]
      · rw [if_neg hx]
        by_cases h1 : 0 ≤ x ∧ x < P 2 i j
        · rw [if_pos h1, if_pos (by omega), e14 i j x (by omega)]
        · rw [if_neg h1, if_neg (by omega)]
    rw [show zc13 Δ (zup1 ad3 (13, i, j, 0) (ad3 kb)) (zPsd P i j c) i j 0 (zSsd P S i j z r (13, i, j, 0)) = _ from if_pos ⟨⟨⟨by rw [eP 0 _ _ (by decide)]; exact ht, by rw [eP 1 _ _ (by decide)]; exact hq⟩, rfl⟩, by rw [zPsd_13, if_pos ⟨rfl, rfl⟩]; omega⟩, zPsd_13, zPsd_2, if_pos (show i = i ∧ j = j from ⟨rfl, rfl⟩), if_pos (show i = i ∧ j = j from ⟨rfl, rfl⟩), ← hF, show ((c : Int)).toNat = c by omega] at hk'
    exact hk'
  have n91 : ((N, i, j, o) : zK) ≠ (91, 0, 0, 0) := fun q => by simp only [Prod.mk.injEq] at q; omega
  rw [if_neg c13]
  by_cases c14 : N = 14
  · subst c14
    have d := in8 (by decide)
    rw [eP 0 _ _ (by decide), eP 1 _ _ (by decide)] at d
    have d6 := d.2.2.2.2.2 rfl
    have hk' : zc14 Δ (zup1 ad3 (13, t, q, 0) (ad3 kb)) (zPsd P t q c) i j o (zSsd P S t q z r (14, i, j, o)) = some e' := hk
    rw [show zc14 Δ (zup1 ad3 (13, t, q, 0) (ad3 kb)) (zPsd P t q c) i j o (zSsd P S t q z r (14, i, j, o)) = _ from if_pos ⟨⟨by rw [eP 0 _ _ (by decide)]; exact d.1, by rw [eP 1 _ _ (by decide)]; exact d.2.2.1 (by decide)⟩, d6⟩] at hk'
    by_cases cN : i = t ∧ j = q ∧ o = P 2 t q
    · obtain ⟨rfl, rfl, rfl⟩ := cN
      rw [g14]
      rw [show zSsd P S i j z r (14, i, j, P 2 i j) = r from funext (fun f => by simp [zSsd])] at hk'
      exact hk'
    · have nN : ((14, i, j, o) : zK) ≠ (14, t, q, P 2 t q) := fun q => cN (by simp only [Prod.mk.injEq] at q; omega)
      rw [hM _ c12 c13 nN n91]
      rw [zSsd_k c12 nN] at hk'
      rw [zPsd_2] at d6
      have h2 : 0 ≤ o ∧ o < P 2 i j := by
        by_cases h : i = t ∧ j = q
        · rw [if_pos h] at d6
          rw [h.1, h.2]
          rw [h.1, h.2] at cN
          simp only [true_and] at cN
          omega
        · rw [if_neg h] at d6; exact d6
      exact (mg_14 ⟨⟨d.1, d.2.2.1 (by decide)⟩, h2⟩).trans hk'
  have n14 : ((N, i, j, o) : zK) ≠ (14, t, q, P 2 t q) := fun q => c14 (congrArg Prod.fst q)
  rw [hM _ c12 c13 n14 n91, ← hk2]
  refine (mm_old (fun _ => ⟨⟨fun _ => ?_, fun _ => ?_, fun w => ?_, fun _ => ?_, fun _ => ?_⟩, fun w hw => ?_, zSsd_k c12 n14⟩)).symm
  · exact ⟨eP 5 _ _ (by decide), eP 0 _ _ (by decide)⟩
  · exact ⟨eP 7 _ _ (by decide), eP 3 _ _ (by decide)⟩
  · show (0 ≤ i ∧ i < zPsd P t q c 0 0 0 ↔ 0 ≤ i ∧ i < P 0 0 0) ∧ (0 ≤ i ∧ i < P 0 0 0 → zPsd P t q c 1 i 0 = P 1 i 0 ∧ (12 ≤ N → zPsd P t q c 2 i j = P 2 i j ∧ zPsd P t q c 13 i j = P 13 i j))
    rw [eP 0 _ _ (by decide), eP 1 _ _ (by decide)]
    refine ⟨Iff.rfl, fun _ => ⟨rfl, fun h12 => ?_⟩⟩
    have hne : ¬ (i = t ∧ j = q) := fun e => by
      obtain ⟨rfl, rfl⟩ := e
      obtain rfl : o = 0 := (in8 w).2.2.2.1 (by omega)
      by_cases h : N = 12
      · exact c12 (by rw [h])
      · exact c13 (by rw [show N = 13 by have := (show 8 ≤ N ∧ N ≤ 14 from w); omega])
    rw [zPsd_2, zPsd_13, if_neg hne, if_neg hne]
    exact ⟨rfl, rfl⟩
  · show (0 ≤ i ∧ i < zPsd P t q c 3 0 0 ↔ 0 ≤ i ∧ i < P 3 0 0) ∧ (0 ≤ i ∧ i < P 3 0 0 → zPsd P t q c 4 i 0 = P 4 i 0 ∧ zPsd P t q c 1 (P 4 i 0) 0 = P 1 (P 4 i 0) 0)
    rw [eP 3 _ _ (by decide), eP 4 _ _ (by decide), eP 1 _ _ (by decide)]
    exact ⟨Iff.rfl, fun hi => ⟨rfl, rfl⟩⟩
  · exact eP 61 _ _ (by decide)
  · rcases hw with ⟨a0, q1 | q1 | q1 | q1⟩ | ⟨a0, q1⟩ | ⟨a0, q1⟩ | ⟨a0, x, hx, q1⟩ | ⟨a0, q1⟩ | ⟨a0, x, hx, q1⟩ | ⟨a0, hx, q1 | q1⟩ | ⟨a0, hx, x, q1⟩ | ⟨a0, hx, q1⟩ | ⟨a0, hx, q1⟩ | ⟨a0, hx, x, hx2, q1⟩ | ⟨a0, hx, q1 | q1⟩ | ⟨a0, hx, x, q1⟩ | ⟨a0, hx, q1 | q1 | q1 | q1⟩ | ⟨a0, x, hx, q1⟩ <;> subst q1 <;> simp only at a0
    all_goals first
      | (rw [eT _ _ _ _ (by decide)]; exact eA _ _ _ _ (by decide) (by decide))
      | (rw [eT _ _ _ _ (by omega)]; exact eA _ _ _ _ (by omega) (by omega))
      | (rw [eT _ _ _ _ (by decide)]; exact e14 _ _ _ (fun e => by obtain ⟨rfl, rfl, rfl⟩ := e; exact absurd hx2.2 (by simp)))
      | skip
    · subst a0
      have hne : ¬ (i = t ∧ j = q) := fun e => by
        obtain ⟨rfl, rfl⟩ := e
        obtain rfl : o = 0 := (in8 (by decide)).2.2.2.1 (by decide)
        exact c12 rfl
      rw [zup1_n _ _ (fun e => hne (by simp only [Prod.mk.injEq] at e; exact ⟨e.2.1, e.2.2.1⟩))]
      exact eA _ _ _ _ (by decide) (by decide)
