/-! ===== what holds first, together ===== -/
theorem zWV_V0 {d : Int} (hd : 0 ≤ d ∧ d ≤ 1000) : zWV zP0 (zV0d d) := by
  have z : ∀ {k : zK} {f : Int}, (k.1 ≠ 212 ∧ k.1 ≠ 200) ∧ ¬ k.1 = 0 ∧ ¬ k.1 = 40 ∧ ¬ k.1 = 62 → zV0d d k f = 0 := fun h => zV0d_z h.1 h.2.1 h.2.2.1 h.2.2.2
  obtain ⟨-, -, -, -, hW, -⟩ := xJ_V0 hd
  refine ⟨hW, ⟨fun t p o => ?_, fun g p o => ?_, fun t p o ht => absurd ht nT0⟩, ⟨⟨?_, ?_⟩, ⟨fun g => ?_, fun g hg => absurd hg nG0⟩⟩, ⟨fun g r => ?_, fun t => ?_, ⟨fun x => ?_, fun x => ?_⟩⟩, ⟨?_, ?_⟩, fun t x => ?_⟩
  · rw [z (by simp), z (by simp), z (by simp)]; exact ⟨Or.inl rfl, by decide, by decide⟩
  · rw [z (by simp)]; decide
  · show (if ((200, 0, 0, 0) : zK) = (212, 0, 0, 0) then z62 15 else if ((200, 0, 0, 0) : zK) = (200, 0, 0, 0) ∧ (15 : Int) = 2 then d else zT0 (200, 0, 0, 0) 15) = 0
    rw [if_neg (by simp), if_neg (by simp)]
    rfl
  · have e : zV0d d (200, 0, 0, 0) 2 = d := by
      unfold zV0d
      rw [if_neg (by simp), if_pos ⟨rfl, rfl⟩]
    rw [e]
    omega
  · rw [z (by simp)]; decide
  · rw [z (by simp)]; exact Or.inl rfl
  · rw [z (by simp), z (by simp)]; exact ⟨Or.inl rfl, by decide⟩
  · rw [zV0d_212]; rcases z62_R x with e | e <;> rw [e] <;> decide
  · rw [z (by simp)]; decide
  · rw [zV0d_lo (by simp)]; decide
  · rw [zV0d_lo (by simp)]; decide
  · rw [z (by simp)]; decide
theorem zK0_V0 {d : Int} : zK0 zP0 (zV0d d) := by
  have z : ∀ {k : zK} {f : Int}, (k.1 ≠ 212 ∧ k.1 ≠ 200) ∧ ¬ k.1 = 0 ∧ ¬ k.1 = 40 ∧ ¬ k.1 = 62 → zV0d d k f = 0 := fun h => zV0d_z h.1 h.2.1 h.2.2.1 h.2.2.2
  have e : zV0d d (1, 0, 0, 0) 1 = 0 := z (by simp)
  have c : ∀ s, zcs (zV0d d) s = 0 := fun s => by unfold zcs; rw [e]; rfl
  refine ⟨fun g p o hg => absurd hg nG0, fun t p o ht => absurd ht nT0, ?_⟩
  unfold zLg
  rw [c, c, e]
  exact ⟨⟨by omega, by omega⟩, fun k k0 k1 => by omega, by omega, fun _ => by show 0 + zcoA zP0 (zV0d d) ≤ 0; rw [show zcoA zP0 (zV0d d) = 0 from rfl]; omega⟩
theorem zJ_V0 {d : Int} (hd : 0 ≤ d ∧ d ≤ 1000) : zJ zP0 (zV0d d) := ⟨zWV_V0 hd, ⟨_, xJ_V0 hd⟩, zTr_V0, zHD_V0, zK0_V0⟩
