/-! ===== the first state ===== -/
theorem ite_mp {c : Prop} [Decidable c] {α : Type} {a b : Option α} {r : α} {Q : Prop} (h1 : c → a = some r → Q) (h2 : ¬ c → b = some r → Q) : (if c then a else b) = some r → Q := by
  by_cases h : c
  · rw [if_pos h]; exact h1 h
  · rw [if_neg h]; exact h2 h
def zP0 : zP := fun m _ _ => if m = 61 then 2048 else 0
def z62 : Int → Int := zup (zup (zup (zup (fun _ => 0) 0 (-1)) (0 + 1) (-1)) (0 + 1 + 1) (-1)) (0 + 1 + 1 + 1) (-1)
def zT0 : zS := fun k f => if k.1 = 0 then (if f = 7 then 2 else if f = 8 then 10 else 0) else if k.1 = 40 then (if f = 2 then 2 else if f = 3 then 10 else 0) else if k.1 = 62 then z62 f else 0
theorem zT0_0 {k : zK} {f : Int} (h0 : ¬ k.1 = 0) (h1 : ¬ k.1 = 40) (h2 : ¬ k.1 = 62) : zT0 k f = 0 := by
  unfold zT0
  rw [if_neg h0, if_neg h1, if_neg h2]
theorem z62_at {x : Int} (h : 0 ≤ x ∧ x < 4) : z62 x = -1 := by
  have hx : x = 0 ∨ x = 1 ∨ x = 2 ∨ x = 3 := by omega
  rcases hx with rfl | rfl | rfl | rfl <;> rfl
theorem z62_R (x : Int) : z62 x = -1 ∨ z62 x = 0 := by
  unfold z62 zup
  split
  · exact Or.inl rfl
  · split
    · exact Or.inl rfl
    · split
      · exact Or.inl rfl
      · split
        · exact Or.inl rfl
        · exact Or.inr rfl
theorem zT0_R (k : zK) (f : Int) : (-1 ≤ zT0 k f ∧ zT0 k f ≤ 10) ∧ (¬ k.1 = 62 → 0 ≤ zT0 k f) := by
  unfold zT0
  split
  · split
    · exact ⟨by decide, fun _ => by decide⟩
    · split
      · exact ⟨by decide, fun _ => by decide⟩
      · exact ⟨by decide, fun _ => by decide⟩
  · split
    · split
      · exact ⟨by decide, fun _ => by decide⟩
      · split
        · exact ⟨by decide, fun _ => by decide⟩
        · exact ⟨by decide, fun _ => by decide⟩
    · split
      · rcases z62_R f with e | e <;> rw [e]
        · exact ⟨by decide, fun q => absurd (by assumption) q⟩
        · exact ⟨by decide, fun _ => by decide⟩
      · exact ⟨by decide, fun _ => by decide⟩
theorem zP0_WP : zWP zP0 := ⟨by decide, by decide, fun t ht => absurd ht (by show ¬ (0 ≤ t ∧ t < 0); omega), fun t p ht => absurd ht (by show ¬ (0 ≤ t ∧ t < 0); omega), fun g hg => absurd hg (by show ¬ (0 ≤ g ∧ g < 0); omega), by decide, by decide⟩
theorem nT0 {t : Int} : ¬ inT zP0 t := fun h => by
  have h2 : t < 0 := h.2
  have := h.1
  omega
theorem nG0 {g : Int} : ¬ inG zP0 g := fun h => by
  have h2 : g < 0 := h.2
  have := h.1
  omega
theorem zT0_WS : zWS zP0 zT0 := by
  refine ⟨fun k f => ?_, fun t p o => ?_, fun t p ht => absurd ht nT0, fun g p hg => absurd hg nG0, fun g p o => ?_, fun g p o => ?_, by decide, by decide⟩
  · have := zT0_R k f; exact ⟨by omega, by omega⟩
  · rw [zT0_0 (by simp) (by simp) (by simp)]; decide
  · rw [zT0_0 (by simp) (by simp) (by simp)]; decide
  · rw [zT0_0 (by simp) (by simp) (by simp), zT0_0 (by simp) (by simp) (by simp)]; decide
theorem zT0_WM : zWM zP0 zT0 := by
  refine ⟨⟨by decide, by decide, fun t ht => absurd ht nT0, fun t p ht => absurd ht nT0, fun g hg => absurd hg nG0, by decide⟩, ⟨by decide, by decide, fun t ht => absurd ht nT0, fun t p ht => absurd ht nT0, fun g hg => absurd hg nG0⟩, fun n f hn => ⟨?_, ?_⟩⟩
  · have := zT0_R (n, 0, 0, 0) f; exact ⟨by omega, by omega⟩
  · have hR := zT0_R (n, 0, 0, 0) f
    have e0 : ¬ n = 40 → ¬ n = 62 → zT0 (n, 0, 0, 0) f = 0 := fun h1 h2 => zT0_0 (by simp only; omega) h1 h2
    have e62 : n = 62 → (-1 ≤ zT0 (n, 0, 0, 0) f ∧ zT0 (n, 0, 0, 0) f ≤ zP0 61 0 0 - 1) := fun h => by
      have e : zT0 (n, 0, 0, 0) f = z62 f := by rw [h]; rfl
      have e2 : zP0 61 0 0 = 2048 := rfl
      rw [e, e2]
      rcases z62_R f with q | q <;> rw [q] <;> decide
    unfold zmB
    have e8 : zP0 61 0 0 = 2048 := rfl
    rw [e8] at e62 ⊢
    refine ⟨?_, ?_, ?_, ?_, ?_, ?_, ?_, ?_, ?_, ?_, ?_, ?_, ?_, ?_, ?_, ?_, ?_, ?_, ?_, ?_, ?_, ?_, ?_, ?_, ?_, ?_, ?_, ?_⟩ <;> intro hq <;> first
      | exact e62 hq
      | (obtain ⟨rfl, rfl⟩ := hq; decide)
      | (rw [e0 (by omega) (by omega)]; omega)
theorem xJ_0 : xJ zP0 zT0 zT0 := by
  refine ⟨⟨⟨⟨⟨rfl, rfl, rfl, rfl, rfl⟩, fun t ht => absurd ht nT0, fun t p o ht => absurd ht nT0, fun t p o ht => absurd ht nT0⟩, fun x h0 h1 => ?_, fun op e hz f => ?_, fun g r hg => absurd hg nG0, ?_⟩, fun g p hg => absurd hg nG0, fun g p o hg => absurd hg nG0, fun g t p o hg => absurd hg nG0, fun g m h0 h1 h2 h3 h4 => ?_, fun g p o hg => absurd hg nG0, fun k hk => ?_⟩, ⟨rfl, fun i => ?_⟩, fun g p hg => absurd hg nG0, ⟨fun g p hg => absurd hg nG0, fun g p o hg => absurd hg nG0, fun t x ht => absurd ht nT0⟩, zT0_WS, zT0_WM, zP0_WP⟩
  · have e62 : ∀ x : Int, 0 ≤ x → x < 4 → zT0 (62, 0, 0, 0) x = -1 := fun x h0 h1 => z62_at ⟨h0, h1⟩
    have e3 : zT0 (3, 0, 0, 0) x = 0 := rfl
    rw [e62 x h0 h1, e3]
    exact ⟨⟨fun _ => rfl, fun _ => rfl⟩, Or.inl rfl, fun q => absurd rfl q, fun y _ _ _ q => absurd rfl q⟩
  · show fo op e f 0 0 = fo3 op e zP0 _
    unfold fo3
    rw [fo_end (by omega)]
    show e = fo op e _ 0 0
    rw [fo_end (by omega)]
  · exact ⟨fun t _ _ => ⟨rfl, fun p _ _ => ⟨rfl, rfl⟩, fun x _ _ => rfl⟩, fun g r _ _ _ _ => rfl, fun m _ _ => rfl⟩
  · exact ⟨rfl, rfl, rfl⟩
  · exact absurd (show (0 : Int) = 1 from hk) (by decide)
  · rfl
