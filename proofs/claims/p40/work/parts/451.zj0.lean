/-! ===== what holds first ===== -/
def zV0d (d : Int) : zS := fun k f => if k = (212, 0, 0, 0) then z62 f else if k = (200, 0, 0, 0) ∧ f = 2 then d else zT0 k f
theorem zV0d_lo {d : Int} {k : zK} {f : Int} (h : k.1 ≠ 212 ∧ k.1 ≠ 200) : zV0d d k f = zT0 k f := by
  unfold zV0d
  rw [if_neg (fun q => h.1 (by rw [q])), if_neg (fun q => h.2 (by rw [q.1]))]
theorem zV0d_z {d : Int} {k : zK} {f : Int} (h : k.1 ≠ 212 ∧ k.1 ≠ 200) (h0 : ¬ k.1 = 0) (h1 : ¬ k.1 = 40) (h2 : ¬ k.1 = 62) : zV0d d k f = 0 := (zV0d_lo h).trans (zT0_0 h0 h1 h2)
theorem zV0d_212 {d x : Int} : zV0d d (212, 0, 0, 0) x = z62 x := if_pos rfl
theorem zV0d_R {d : Int} (hd : 0 ≤ d ∧ d ≤ 1000) : ∀ k f, zR (zV0d d k f) := fun k f => by
  unfold zV0d
  split
  · rcases z62_R f with e | e <;> rw [e] <;> exact ⟨by omega, by omega⟩
  · split
    · exact ⟨by omega, by omega⟩
    · have := zT0_R k f
      exact ⟨by omega, by omega⟩
theorem xJ_V0 {d : Int} (hd : 0 ≤ d ∧ d ≤ 1000) : xJ zP0 (zV0d d) zT0 := xJ_hi (fun k f hk => zV0d_lo ⟨by omega, by omega⟩) (zV0d_R hd) xJ_0
theorem zTr_V0 {d : Int} : zTr zP0 (zV0d d) := by
  refine ⟨fun x h0 h1 => ?_, fun k _ => zV0d_z (by simp) (by simp) (by simp) (by simp), fun t p o ht => absurd ht nT0⟩
  rw [zV0d_212, z62_at ⟨h0, h1⟩, zV0d_z (k := (3, 0, 0, 0)) (by simp) (by simp) (by simp) (by simp)]
  exact ⟨⟨fun _ => rfl, fun _ => rfl⟩, by rw [zV0d_lo (by simp)]; decide, fun q => absurd rfl q, fun y _ _ q => absurd rfl q⟩
theorem zHD_V0 {d : Int} : zHD zP0 (zV0d d) := ⟨fun t _ => ⟨zV0d_z (by simp) (by simp) (by simp) (by simp), fun x => zV0d_z (by simp) (by simp) (by simp) (by simp), fun p => zV0d_z (by simp) (by simp) (by simp) (by simp)⟩, fun g r _ => zV0d_z (by simp) (by simp) (by simp) (by simp), rfl⟩
