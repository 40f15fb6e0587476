/-! ===== the law's world: the Pier and its class, one state for both; what holds between acts ===== -/
/-- nothing else -/
def z00 : zMem := fun _ => none
def wld (Δ : zDl) (ad : zK → Nat) (P : zP) (V : zS) : zMem := pm Δ ad P V (mm Δ ad P V z00)
section ZWLD
variable {Δ : zDl} {ad ad' : zK → Nat} {P Q : zP} {V S S' : zS} {X : zMem}
/-- both stand beside each other -/
theorem pm_mm : pm Δ ad P V (mm Δ ad' Q S X) = mm Δ ad' Q S (pm Δ ad P V X) := by
  funext k
  by_cases h : 200 ≤ k.1 ∧ k.1 < 224
  · rw [pm_in _ h, mm_ge _ (by omega), pm_in _ h]
  · rw [pm_out _ h]
    by_cases h8 : k.1 < 80
    · rw [mm_lt _ h8, mm_lt _ h8]
    · rw [mm_ge _ h8, mm_ge _ h8, pm_out _ h]
theorem mm_cg (h : ∀ k f, k.1 < 80 → S' k f = S k f) : mm Δ ad P S' X = mm Δ ad P S X := by
  funext k
  by_cases h8 : k.1 < 80
  · rw [mm_lt _ h8, mm_lt _ h8, show S' k = S k from funext fun f => h k f h8]
  · rw [mm_ge _ h8, mm_ge _ h8]
theorem mm_st {k : zK} {f v : Int} (hk : 80 ≤ k.1) : mm Δ ad P (zst S k f v) X = mm Δ ad P S X := mm_cg (fun k' f' h => zst_k _ _ _ _ (fun q => by rw [q] at h; omega))
theorem pm_cg (h : ∀ k k' f, pD P k k' f → S' k' f = S k' f) : pm Δ ad P S' X = pm Δ ad P S X := by
  funext k
  by_cases hk : 200 ≤ k.1 ∧ k.1 < 224
  · rw [pm_in _ hk, pm_in _ hk]
    exact pcnt_V (fun k' f hp => h k k' f hp)
  · rw [pm_out _ hk, pm_out _ hk]
end ZWLD
/-! transactions -/
def zTr (P : zP) (V : zS) : Prop := (∀ x, 0 ≤ x → x < 4 → (V (3, 0, 0, 0) x = 0 ↔ V (212, 0, 0, 0) x = -1) ∧ V (212, 0, 0, 0) x < V (0, 0, 0, 0) 4 ∧ (¬ V (212, 0, 0, 0) x = -1 → V (211, 0, 0, 0) (V (212, 0, 0, 0) x) = 0) ∧ ∀ y, 0 ≤ y → y < 4 → ¬ V (212, 0, 0, 0) x = -1 → V (212, 0, 0, 0) x = V (212, 0, 0, 0) y → x = y) ∧
  (∀ k, V (0, 0, 0, 0) 4 ≤ k → V (211, 0, 0, 0) k = 0) ∧
  ∀ t p o, inT P t → inP P t p → inM P t p o → V (14, t, p, o) 6 < V (0, 0, 0, 0) 4 ∧ ∀ x, 0 ≤ x → x < 4 → ¬ V (212, 0, 0, 0) x = -1 → (V (14, t, p, o) 6 = V (212, 0, 0, 0) x ↔ V (14, t, p, o) 4 = 2 ∧ V (14, t, p, o) 3 = x)
/-- of what isn't there nothing was told -/
def zHD (P : zP) (V : zS) : Prop := (∀ t, P 0 0 0 ≤ t → V (8, t, 0, 0) 3 = 0 ∧ (∀ x, V (10, t, 0, 0) x = 0) ∧ ∀ p, V (11, t, p, 0) 1 = 0) ∧ (∀ g r, P 3 0 0 ≤ g → V (17, g, 0, 0) r = 0) ∧ P 61 0 0 = 2048
def zJ (P : zP) (V : zS) : Prop := zWV P V ∧ (∃ M, xJ P V M) ∧ zTr P V ∧ zHD P V ∧ zK0 P V
section ZJ
variable {P : zP} {V V' : zS}
theorem zJ.wv (h : zJ P V) : zWV P V := h.1
theorem zJ.wp (h : zJ P V) : zWP P := by obtain ⟨-, ⟨M, hM⟩, -⟩ := h; exact hM.2.2.2.2.2.2
theorem zJ.xz (h : zJ P V) : xZ P V := by obtain ⟨-, ⟨M, hM⟩, -⟩ := h; exact hM.2.2.1
theorem zJ.xy (h : zJ P V) : xY P V := by obtain ⟨-, ⟨M, hM⟩, -⟩ := h; exact hM.2.2.2.1
theorem zJ.st (h : zJ P V) : zSet P V := by obtain ⟨-, ⟨M, hM⟩, -⟩ := h; exact hM.s1
theorem zJ.tr (h : zJ P V) : zTr P V := h.2.2.1
theorem zJ.hd (h : zJ P V) : zHD P V := h.2.2.2.1
theorem zJ.k0 (h : zJ P V) : zK0 P V := h.2.2.2.2
theorem zTr_fr (h0 : V' (0, 0, 0, 0) 4 = V (0, 0, 0, 0) 4) (h3 : ∀ f, V' (3, 0, 0, 0) f = V (3, 0, 0, 0) f) (h14 : ∀ t p o f, f = 3 ∨ f = 4 ∨ f = 6 → V' (14, t, p, o) f = V (14, t, p, o) f) (h211 : ∀ f, V' (211, 0, 0, 0) f = V (211, 0, 0, 0) f) (h212 : ∀ f, V' (212, 0, 0, 0) f = V (212, 0, 0, 0) f) (h : zTr P V) : zTr P V' := by
  obtain ⟨a1, a2, a3⟩ := h
  refine ⟨fun x x1 x2 => ?_, fun k hk => ?_, fun t p o ht hp ho => ⟨?_, fun x x1 x2 => ?_⟩⟩
  · rw [h3, h212, h0, h211]
    obtain ⟨b1, b2, b3, b4⟩ := a1 x x1 x2
    exact ⟨b1, b2, b3, fun y y1 y2 => by rw [h212]; exact b4 y y1 y2⟩
  · rw [h0] at hk
    rw [h211]
    exact a2 k hk
  · rw [h0, h14 _ _ _ _ (by simp)]
    exact (a3 t p o ht hp ho).1
  · rw [h212, h14 _ _ _ _ (by simp), h14 _ _ _ _ (by simp), h14 _ _ _ _ (by simp)]
    exact (a3 t p o ht hp ho).2 x x1 x2
theorem zTr_k {K : Nat → Bool} (hf : zfr K V V') (hK : K 0 = false ∧ K 3 = false ∧ K 14 = false ∧ K 211 = false ∧ K 212 = false) (h : zTr P V) : zTr P V' := zTr_fr (hf _ _ hK.1) (fun _ => hf _ _ hK.2.1) (fun _ _ _ _ _ => hf _ _ hK.2.2.1) (fun _ => hf _ _ hK.2.2.2.1) (fun _ => hf _ _ hK.2.2.2.2) h
theorem zHD_fr (h8 : ∀ t, V' (8, t, 0, 0) 3 = V (8, t, 0, 0) 3) (h10 : ∀ t x, V' (10, t, 0, 0) x = V (10, t, 0, 0) x) (h11 : ∀ t p, V' (11, t, p, 0) 1 = V (11, t, p, 0) 1) (h17 : ∀ g r, V' (17, g, 0, 0) r = V (17, g, 0, 0) r) (h : zHD P V) : zHD P V' := ⟨fun t ht => by
  obtain ⟨a, b, c⟩ := h.1 t ht
  exact ⟨by rw [h8]; exact a, fun x => by rw [h10]; exact b x, fun p => by rw [h11]; exact c p⟩, fun g r hg => by rw [h17]; exact h.2.1 g r hg, h.2.2⟩
theorem zHD_k {K : Nat → Bool} (hf : zfr K V V') (hK : K 8 = false ∧ K 10 = false ∧ K 11 = false ∧ K 17 = false) (h : zHD P V) : zHD P V' := zHD_fr (fun _ => hf _ _ hK.1) (fun _ _ => hf _ _ hK.2.1) (fun _ _ => hf _ _ hK.2.2.1) (fun _ _ => hf _ _ hK.2.2.2) h
/-- the relation sees the class's kinds alone -/
theorem xJ_hi {M : zS} (hS : ∀ k f, k.1 < 40 → V' k f = V k f) (hR : ∀ k f, zR (V' k f)) (h : xJ P V M) : xJ P V' M := by
  have hA : zfr (fun n => Nat.ble 40 n) V V' := fun k f hk => hS k f (Nat.lt_of_not_le fun q => by
    have : Nat.ble 40 k.1 = true := Nat.ble_eq_true_of_le q
    rw [show (fun n => Nat.ble 40 n) k.1 = Nat.ble 40 k.1 from rfl, this] at hk
    cases hk)
  obtain ⟨⟨a1, a2, a3⟩, hL, hZ, hY, ⟨w1, w2, w3, w4, w5, w6, w7, w8⟩, hV, hP⟩ := h
  have hAA : zfr kA V V' := hA.mono (fun n hn => by unfold kA; rw [hn]; rfl)
  have hz : zfr kF V V' := fun k f hk => hA k f (by
    unfold kF at hk
    have : k.1 = 18 := by simpa using hk
    rw [this]; rfl)
  have hh : zfr kH V V' := fun k f hk => hA k f (by
    unfold kH at hk
    have : k.1 = 14 ∨ k.1 = 19 ∨ k.1 = 20 ∨ k.1 = 21 := by simp at hk; omega
    rcases this with q | q | q | q <;> rw [q] <;> rfl)
  refine ⟨⟨xa_fr hAA fr.rf a1, xf_fr hz zfr.rf a2, xh_fr hh fr.rf a3⟩, rL_fr (fun k f hk => hA k f (by rcases hk with e | e <;> rw [e] <;> rfl)) rfl (fun _ => rfl) hL, xZ_fr hA rfl rfl rfl hZ, xY_fr (fun f => hA _ _ rfl) (fun t f => hA _ _ rfl) (fun g f => hA _ _ rfl) (fun g p => hA _ _ rfl) (fun g p o hg hp => by rw [hA _ _ rfl, hA (20, g, p, 0) _ rfl]; exact hY.2.1 g p o hg hp) hY, ⟨hR, fun t p o => by rw [hA _ _ rfl]; exact w2 t p o, fun t p ht hp => by rw [hA _ _ rfl]; exact w3 t p ht hp, fun g p hg hp => by rw [hA _ _ rfl, hA _ _ rfl]; exact w4 g p hg hp, fun g p o => by rw [hA _ _ rfl]; exact w5 g p o, fun g p o => by rw [hA _ _ rfl, hA (19, g, p, 0) _ rfl]; exact w6 g p o, by rw [hA _ _ rfl, hA _ _ rfl, hA _ _ rfl]; exact w7, by rw [hA _ _ rfl]; exact w8⟩, hV, hP⟩
/-- a draw -/
theorem zJ_dr (h : zJ P V) {v : Int} (hv : 0 ≤ v ∧ v ≤ 1000000) : zJ P (zst V (200, 0, 0, 0) 2 v) := by
  have hW := h.wv.s200_2 hv
  have hf : zfr (fun n => n == 200) V (zst V (200, 0, 0, 0) 2 v) := zfr_1
  obtain ⟨h1, ⟨M, hM⟩, h3, h4, h5⟩ := h
  exact ⟨hW, ⟨M, xJ_hi (fun k f hk => zst_k _ _ _ _ (fun q => by rw [q] at hk; omega)) hW.R hM⟩, zTr_k hf ⟨rfl, rfl, rfl, rfl, rfl⟩ h3, zHD_k hf ⟨rfl, rfl, rfl, rfl⟩ h4, h5.fr (hf.mono (fun n hn => by simp at hn; subst hn; rfl))⟩
end ZJ
/-- what an act leaves -/
def zAct (Δ : zDl) (ad : zK → Nat) (P : zP) (V : zS) (n : Int) : zPo := fun v ad' M' => v = some (.int (zI 1)) ∧ ∃ P' V', (ad' (0, 0, 0, 0) = ad (0, 0, 0, 0) ∧ ad' (200, 0, 0, 0) = ad (200, 0, 0, 0)) ∧ M' = wld Δ ad' P' V' ∧ zJ P' V' ∧ V' (200, 0, 0, 0) 2 ≤ V (200, 0, 0, 0) 2 + n ∧ V' (0, 0, 0, 0) 4 ≤ V (0, 0, 0, 0) 4 + 1 ∧ V' (0, 0, 0, 0) 6 ≤ V (0, 0, 0, 0) 6 + 14 ∧ V (1, 0, 0, 0) 1 ≤ V' (1, 0, 0, 0) 1 ∧ (P 0 0 0 ≤ P' 0 0 0 ∧ P 3 0 0 ≤ P' 3 0 0)
theorem wld_i {Δ : zDl} {ad : zK → Nat} {P : zP} {V S : zS} (h : ∀ k f, k.1 < 80 → S k f = V k f) : pm Δ ad P V (mm Δ ad P S z00) = wld Δ ad P V := congrArg (pm Δ ad P V) (mm_cg h)
