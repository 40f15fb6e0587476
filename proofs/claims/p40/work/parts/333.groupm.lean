/-! ===== the memory with a group more ===== -/
def zPg (P : zP) (t c : Int) : zP := fun m i j => if m = 3 ∧ i = 0 ∧ j = 0 then P 3 0 0 + 1 else if m = 4 ∧ i = P 3 0 0 ∧ j = 0 then t else if m = 7 ∧ i = 0 ∧ j = 0 then c else P m i j
def zSg (P : zP) (S : zS) (t : Int) : zS := fun k f => if (15 ≤ k.1 ∧ k.1 ≤ 21) ∧ k.2.1 = P 3 0 0 then (if k.1 = 18 then (if f = 4 then -1 else if f = 5 ∨ f = 6 then S (11, t, k.2.2.1, 0) 1 else 0) else 0) else S k f
theorem zPg_3 {P : zP} {t c : Int} : zPg P t c 3 0 0 = P 3 0 0 + 1 := rfl
theorem zPg_7 {P : zP} {t c : Int} : zPg P t c 7 0 0 = c := rfl
theorem zPg_4s {P : zP} {t c : Int} : zPg P t c 4 (P 3 0 0) 0 = t := by simp [zPg]
theorem zPg_4n {P : zP} {t c g : Int} (h : g ≠ P 3 0 0) : zPg P t c 4 g 0 = P 4 g 0 := by simp [zPg, h]
theorem zPg_m {P : zP} {t c : Int} {m : Nat} {i j : Int} (h : ¬ m = 3 ∧ ¬ m = 4 ∧ ¬ m = 7) : zPg P t c m i j = P m i j := by
  unfold zPg
  rw [if_neg (fun e => h.1 e.1), if_neg (fun e => h.2.1 e.1), if_neg (fun e => h.2.2 e.1)]
theorem zgg_Pg {P : zP} {t c : Int} : zgg P (zPg P t c) t := ⟨fun n i j h1 h2 _ h3 => zPg_m ⟨h1, h2, h3⟩, fun i h => zPg_4n h, zPg_4s, zPg_3⟩
theorem zWP_Pg {P : zP} {t c : Int} (h : zWP P) (ht : 0 ≤ t ∧ t < P 0 0 0) (h3 : P 3 0 0 < 4) (hc : P 3 0 0 < c ∧ c ≤ 200) : zWP (zPg P t c) := by
  obtain ⟨a1, a2, a3, a4, a5, a6, a7⟩ := h
  have e : ∀ (m : Nat) (i j : Int), (¬ m = 3 ∧ ¬ m = 4 ∧ ¬ m = 7) → zPg P t c m i j = P m i j := fun m i j h => zPg_m h
  refine ⟨?_, ?_, fun t' ht' => ?_, fun t' p ht' hp => ?_, fun g hg => ?_, ?_, ?_⟩
  · rw [e 0 _ _ (by decide)]; exact a1
  · rw [zPg_3]; omega
  · rw [e 0 _ _ (by decide)] at ht'
    rw [e 1 _ _ (by decide)]; exact a3 t' ht'
  · rw [e 0 _ _ (by decide)] at ht'
    rw [e 1 _ _ (by decide)] at hp
    rw [e 2 _ _ (by decide), e 13 _ _ (by decide)]; exact a4 t' p ht' hp
  · rw [zPg_3] at hg
    rw [e 0 _ _ (by decide)]
    by_cases q : g = P 3 0 0
    · rw [q, zPg_4s]; exact ht
    · rw [zPg_4n q]; exact a5 g (by omega)
  · rw [e 0 _ _ (by decide), e 5 _ _ (by decide)]; exact a6
  · rw [zPg_3, zPg_7]; omega
theorem zSg_k {P : zP} {S : zS} {t : Int} {k : zK} (h : ¬ grN (P 3 0 0) k) : zSg P S t k = S k := by
  funext f
  unfold zSg
  rw [if_neg (fun q => h ⟨q.2, q.1⟩)]
set_option maxHeartbeats 2000000 in
theorem mm_group {Δ : zDl} {ad ad2 : zK → Nat} {P : zP} {S : zS} {X M : zMem} {t c : Int} (hP : zWP P) (ht : 0 ≤ t ∧ t < P 0 0 0)
    (hM : ∀ k, ¬ grN (P 3 0 0) k → M k = mm Δ ad P S X k) (ha : ∀ k, ¬ grN (P 3 0 0) k → ad2 k = ad k)
    (g15 : M (15, P 3 0 0, 0, 0) = some (.inr (1, [.ref (ad2 (16, P 3 0 0, 0, 0)), .ref (ad2 (17, P 3 0 0, 0, 0))])))
    (g16 : M (16, P 3 0 0, 0, 0) = some (.inl (Δ.2.1 3, (P 1 t 0).toNat, .inr (.inr (.inr (.inr (zAq (fun x => some (ad2 (18, P 3 0 0, x, 0)))))))))) (g17 : M (17, P 3 0 0, 0, 0) = some (.inl (Δ.2.1 1, 6, .inl (zAi (fun _ => 0)))))
    (g18 : ∀ x, 0 ≤ x → x < P 1 t 0 → M (18, P 3 0 0, x, 0) = some (.inr (5, [.ref (ad2 (11, t, x, 0)), .ref (ad2 (19, P 3 0 0, x, 0)), .ref (ad2 (20, P 3 0 0, x, 0)), .ref (ad2 (21, P 3 0 0, x, 0)), .int (zI (-1)), .int (zI (S (11, t, x, 0) 1)), .int (zI (S (11, t, x, 0) 1))])) ∧ M (19, P 3 0 0, x, 0) = some (zA80 Δ) ∧ M (20, P 3 0 0, x, 0) = some (zA80 Δ) ∧ M (21, P 3 0 0, x, 0) = some (zA80 Δ)) :
    ∀ k e', mn M Δ ad2 (zPg P t c) (zSg P S t) X k = some e' → M k = some e' := by
  intro k e' hk
  by_cases h67 : k.1 = 6 ∨ k.1 = 7
  · exact (show (if k.1 = 6 ∨ k.1 = 7 then M k else mm Δ ad2 (zPg P t c) (zSg P S t) X k) = some e' from hk) ▸ (if_pos h67).symm
  have hk2 : mm Δ ad2 (zPg P t c) (zSg P S t) X k = some e' := (if_neg h67).symm.trans hk
  clear hk
  have eP : ∀ (m : Nat) (i j : Int), (¬ m = 3 ∧ ¬ m = 4 ∧ ¬ m = 7) → zPg P t c m i j = P m i j := fun m i j h => zPg_m h
  obtain ⟨N, i, j, o⟩ := k
  simp only at h67
  by_cases h80 : N < 80
  rotate_left
  · have nG : ¬ grN (P 3 0 0) (N, i, j, o) := fun q => by have := q.2.2; simp only at this; omega
    rw [mm_ge _ h80] at hk2
    rw [hM _ nG, mm_ge _ h80]
    exact hk2
  have hk := hk2
  rw [mm_lt _ h80] at hk
  obtain ⟨in4, in8, in15⟩ := zcnt_in hk
  simp only at in4 in8 in15
  by_cases cN : grN (P 3 0 0) (N, i, j, o)
  · obtain ⟨cY, c8⟩ := cN
    simp only at cY c8
    subst cY
    obtain ⟨d1, d2, d3, d4⟩ := in15 c8
    subst d4
    rw [zPg_4s, eP 1 _ _ (by decide)] at d3
    have q' : N = 15 ∨ N = 16 ∨ N = 17 ∨ N = 18 ∨ N = 19 ∨ N = 20 ∨ N = 21 := by omega
    rcases q' with rfl | rfl | rfl | rfl | rfl | rfl | rfl
    · obtain rfl : j = 0 := d2 (by omega)
      rw [g15]
      have hk' := (show zc15 Δ ad2 (zPg P t c) (P 3 0 0) 0 0 (zSg P S t (15, P 3 0 0, 0, 0)) = some e' from hk)
      rw [show zc15 Δ ad2 (zPg P t c) (P 3 0 0) 0 0 (zSg P S t (15, P 3 0 0, 0, 0)) = _ from if_pos ⟨d1, rfl, rfl⟩] at hk'
      exact hk'
    · obtain rfl : j = 0 := d2 (by omega)
      rw [g16]
      have hk' := (show zc16 Δ ad2 (zPg P t c) (P 3 0 0) 0 0 (zSg P S t (16, P 3 0 0, 0, 0)) = some e' from hk)
      rw [show zc16 Δ ad2 (zPg P t c) (P 3 0 0) 0 0 (zSg P S t (16, P 3 0 0, 0, 0)) = _ from if_pos ⟨d1, rfl, rfl⟩, zPg_4s, eP 1 _ _ (by decide)] at hk'
      exact hk'
    · obtain rfl : j = 0 := d2 (by omega)
      rw [g17]
      have hk' := (show zc17 Δ ad2 (zPg P t c) (P 3 0 0) 0 0 (zSg P S t (17, P 3 0 0, 0, 0)) = some e' from hk)
      rw [show zc17 Δ ad2 (zPg P t c) (P 3 0 0) 0 0 (zSg P S t (17, P 3 0 0, 0, 0)) = _ from if_pos ⟨d1, rfl, rfl⟩, show zSg P S t (17, P 3 0 0, 0, 0) = fun _ => 0 from funext (fun f => by simp [zSg])] at hk'
      exact hk'
    · have d3' := d3 (by omega)
      rw [(g18 j d3'.1 d3'.2).1]
      have hk' := (show zc18 Δ ad2 (zPg P t c) (P 3 0 0) j 0 (zSg P S t (18, P 3 0 0, j, 0)) = some e' from hk)
      rw [show zc18 Δ ad2 (zPg P t c) (P 3 0 0) j 0 (zSg P S t (18, P 3 0 0, j, 0)) = _ from if_pos ⟨⟨d1, by rw [zPg_4s, eP 1 _ _ (by decide)]; exact d3'⟩, rfl⟩, zPg_4s, show zSg P S t (18, P 3 0 0, j, 0) 4 = -1 by simp [zSg], show zSg P S t (18, P 3 0 0, j, 0) 5 = S (11, t, j, 0) 1 by simp [zSg], show zSg P S t (18, P 3 0 0, j, 0) 6 = S (11, t, j, 0) 1 by simp [zSg]] at hk'
      exact hk'
    · have d3' := d3 (by omega)
      rw [(g18 j d3'.1 d3'.2).2.1]
      have hk' := (show zc19 Δ ad2 (zPg P t c) (P 3 0 0) j 0 (zSg P S t (19, P 3 0 0, j, 0)) = some e' from hk)
      rw [show zc19 Δ ad2 (zPg P t c) (P 3 0 0) j 0 (zSg P S t (19, P 3 0 0, j, 0)) = _ from if_pos ⟨⟨d1, by rw [zPg_4s, eP 1 _ _ (by decide)]; exact d3'⟩, rfl⟩, show zSg P S t (19, P 3 0 0, j, 0) = fun _ => 0 from funext (fun f => by simp [zSg])] at hk'
      exact hk'
    · have d3' := d3 (by omega)
      rw [(g18 j d3'.1 d3'.2).2.2.1]
      have hk' := (show zc20 Δ ad2 (zPg P t c) (P 3 0 0) j 0 (zSg P S t (20, P 3 0 0, j, 0)) = some e' from hk)
      rw [show zc20 Δ ad2 (zPg P t c) (P 3 0 0) j 0 (zSg P S t (20, P 3 0 0, j, 0)) = _ from if_pos ⟨⟨d1, by rw [zPg_4s, eP 1 _ _ (by decide)]; exact d3'⟩, rfl⟩, show zSg P S t (20, P 3 0 0, j, 0) = fun _ => 0 from funext (fun f => by simp [zSg])] at hk'
      exact hk'
    · have d3' := d3 (by omega)
      rw [(g18 j d3'.1 d3'.2).2.2.2]
      have hk' := (show zc21 Δ ad2 (zPg P t c) (P 3 0 0) j 0 (zSg P S t (21, P 3 0 0, j, 0)) = some e' from hk)
      rw [show zc21 Δ ad2 (zPg P t c) (P 3 0 0) j 0 (zSg P S t (21, P 3 0 0, j, 0)) = _ from if_pos ⟨⟨d1, by rw [zPg_4s, eP 1 _ _ (by decide)]; exact d3'⟩, rfl⟩, show zSg P S t (21, P 3 0 0, j, 0) = fun _ => 0 from funext (fun f => by simp [zSg])] at hk'
      exact hk'
  have hiY : 15 ≤ N ∧ N ≤ 21 → i ≠ P 3 0 0 := fun h hi => cN ⟨hi, h⟩
  rw [hM _ cN, ← hk2]
  refine (mm_old (fun _ => ⟨⟨fun _ => ?_, fun w => absurd w h67, fun w => ?_, fun w => ?_, fun _ => ?_⟩, fun w hw => ?_, zSg_k cN⟩)).symm
  · exact ⟨eP 5 _ _ (by decide), eP 0 _ _ (by decide)⟩
  · show (0 ≤ i ∧ i < zPg P t c 0 0 0 ↔ 0 ≤ i ∧ i < P 0 0 0) ∧ (0 ≤ i ∧ i < P 0 0 0 → zPg P t c 1 i 0 = P 1 i 0 ∧ (12 ≤ N → zPg P t c 2 i j = P 2 i j ∧ zPg P t c 13 i j = P 13 i j))
    rw [eP 0 _ _ (by decide), eP 1 _ _ (by decide), eP 2 _ _ (by decide), eP 13 _ _ (by decide)]
    exact ⟨Iff.rfl, fun _ => ⟨rfl, fun _ => ⟨rfl, rfl⟩⟩⟩
  · have hi := hiY w
    show (0 ≤ i ∧ i < zPg P t c 3 0 0 ↔ 0 ≤ i ∧ i < P 3 0 0) ∧ (0 ≤ i ∧ i < P 3 0 0 → zPg P t c 4 i 0 = P 4 i 0 ∧ zPg P t c 1 (P 4 i 0) 0 = P 1 (P 4 i 0) 0)
    rw [zPg_3, zPg_4n hi, eP 1 _ _ (by decide)]
    exact ⟨by omega, fun hi => ⟨rfl, rfl⟩⟩
  · exact eP 61 _ _ (by decide)
  · rcases hw with ⟨a0, q1 | q1 | q1 | q1⟩ | ⟨a0, q1⟩ | ⟨a0, q1⟩ | ⟨a0, x, hx, q1⟩ | ⟨a0, q1⟩ | ⟨a0, x, hx, q1⟩ | ⟨a0, hx, q1 | q1⟩ | ⟨a0, hx, x, q1⟩ | ⟨a0, hx, q1⟩ | ⟨a0, hx, q1⟩ | ⟨a0, hx, x, hx2, q1⟩ | ⟨a0, hx, q1 | q1⟩ | ⟨a0, hx, x, q1⟩ | ⟨a0, hx, q1 | q1 | q1 | q1⟩ | ⟨a0, x, hx, q1⟩ <;> subst q1 <;> simp only at a0
    all_goals first
      | exact absurd (Or.inl a0) h67
      | exact absurd (Or.inr a0) h67
      | exact ha _ (fun q => by have q2 := q.2.1; have q3 := q.2.2; simp only at q2 q3; omega)
      | exact ha _ (fun q => by have q1 := q.1; simp only at q1 hx; omega)
