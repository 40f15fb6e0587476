/-! ===== one state for class and model ===== -/
def k40 (n : Nat) : Bool := Nat.ble 40 n
def k00 (n : Nat) : Bool := Nat.blt n 40
/-- the model's cells alone -/
def rk (M : zS) : zS := fun k f => if Nat.blt k.1 40 = true then 0 else M (k.1, 0, 0, 0) f
theorem rk_eq {M M' : zS} (h : ∀ (n : Nat) f, 40 ≤ n → M' (n, 0, 0, 0) f = M (n, 0, 0, 0) f) : rk M' = rk M := by
  funext k f
  unfold rk
  by_cases hk : Nat.blt k.1 40 = true
  · rw [if_pos hk, if_pos hk]
  · rw [if_neg hk, if_neg hk]
    refine h _ _ (Nat.le_of_not_lt fun q => hk ?_)
    show Nat.ble (k.1 + 1) 40 = true
    exact Nat.ble_eq_true_of_le q
section JFR
variable {P : zP} {S S' M M' : zS}
theorem zWM_M (h : ∀ (n : Nat) f, 40 ≤ n → M' (n, 0, 0, 0) f = M (n, 0, 0, 0) f) (hV : zWM P M) : zWM P M' := by
  obtain ⟨h1, ⟨a1, a2, a3, a4, a5⟩, h3⟩ := hV
  refine ⟨h1, ⟨by rw [h _ _ (by decide)]; exact a1, by rw [h _ _ (by decide)]; exact a2, fun t ht => by rw [h _ _ (by decide)]; exact a3 t ht, fun t p ht hp => by rw [h _ _ (by decide)]; exact a4 t p ht hp, fun g hg => by rw [h _ _ (by decide)]; exact a5 g hg⟩, fun n f hn => by rw [h _ _ hn]; exact h3 n f hn⟩
theorem xJ_M (hM : ∀ (n : Nat) f, 40 ≤ n → M' (n, 0, 0, 0) f = M (n, 0, 0, 0) f) (h : xJ P S M) : xJ P S M' := by
  obtain ⟨⟨⟨⟨a1, a2, a3, a4⟩, a5, a6, a7, a8⟩, a9, b1, b2, b3, b4, b5⟩, hL, hZ, hY, hW, hV, hP⟩ := h
  have e := rk_eq hM
  refine ⟨⟨⟨⟨?_, ?_, ?_, ?_⟩, ?_, ?_, ?_, ?_⟩, ?_, ?_, ?_, ?_, b4, ?_⟩, ?_, hZ, hY, hW, zWM_M hM hV, hP⟩

  · show rA S (rk M')
    rw [e]
    exact a1
  · show rB P S (rk M')
    rw [e]
    exact a2
  · show rC P S (rk M')
    rw [e]
    exact a3
  · show rT P S (rk M')
    rw [e]
    exact a4
  · show rD S (rk M')
    rw [e]
    exact a5
  · show rE P (rk M')
    rw [e]
    exact a6
  · show rG P S (rk M')
    rw [e]
    exact a7
  · show rJa P (rk M')
    rw [e]
    exact a8
  · show rF P S (rk M')
    rw [e]
    exact a9
  · show rH P S (rk M')
    rw [e]
    exact b1
  · show rI P (rk M')
    rw [e]
    exact b2
  · show rJh P (rk M')
    rw [e]
    exact b3
  · show rN (rk M')
    rw [e]
    exact b5
  · show rL S (rk M')
    rw [e]
    exact hL
/-- the class's cells alone -/
theorem xJ_S (hS : zfr k40 S S') (hR : ∀ k f, zR (S' k f)) (h : xJ P S M) : xJ P S' M := by
  obtain ⟨⟨⟨⟨a1, a2, a3, a4⟩, a5, a6, a7, a8⟩, a9, b1, b2, b3, b4, b5⟩, hL, hZ, hY, ⟨w1, w2, w3, w4, w5, w6, w7, w8⟩, hV, hP⟩ := h
  refine ⟨⟨⟨⟨?_, ?_, ?_, ?_⟩, ?_, a6, ?_, a8⟩, ?_, ?_, b2, b3, ?_, b5⟩, rL_fr (fun k f hk => hS _ _ (by rcases hk with e | e <;> rw [e] <;> rfl)) rfl (fun _ => rfl) hL, xZ_fr hS rfl rfl rfl hZ, xY_fr5 (hS _ _ rfl) (fun t f => hS _ _ rfl) (fun g f => hS _ _ rfl) (fun g p => hS _ _ rfl) (fun g p o hg hp => by rw [hS _ _ rfl, hS (20, g, p, 0) _ rfl]; exact hY.2.1 g p o hg hp) hY, ⟨hR, fun t p o => by rw [hS _ _ rfl]; exact w2 t p o, fun t p ht hp => by rw [hS _ _ rfl]; exact w3 t p ht hp, fun g p hg hp => by rw [hS _ _ rfl, hS _ _ rfl]; exact w4 g p hg hp, fun g p o => by rw [hS _ _ rfl]; exact w5 g p o, fun g p o => by rw [hS _ _ rfl, hS (19, g, p, 0) _ rfl]; exact w6 g p o, by rw [hS _ _ rfl, hS _ _ rfl, hS _ _ rfl]; exact w7, by rw [hS _ _ rfl]; exact w8⟩, hV, hP⟩
  · show rA (rq k40 S') M
    rw [rq_eq hS]
    exact a1
  · show rB P (rq k40 S') M
    rw [rq_eq hS]
    exact a2
  · show rC P (rq k40 S') M
    rw [rq_eq hS]
    exact a3
  · show rT P (rq k40 S') M
    rw [rq_eq hS]
    exact a4
  · show rD (rq k40 S') M
    rw [rq_eq hS]
    exact a5
  · show rG P (rq k40 S') M
    rw [rq_eq hS]
    exact a7
  · show rF P (rq k40 S') M
    rw [rq_eq hS]
    exact a9
  · show rH P (rq k40 S') M
    rw [rq_eq hS]
    exact b1
  · show rK P (rq k40 S')
    rw [rq_eq hS]
    exact b4
/-- one state for both -/
def nz (S M : zS) : zS := fun k f => if Nat.blt k.1 40 = true then S k f else if k.2.1 = 0 ∧ k.2.2.1 = 0 ∧ k.2.2.2 = 0 then M k f else 0
theorem nz_lt {k : zK} (h : Nat.blt k.1 40 = true) : nz S M k = S k := by
  funext f
  exact if_pos h
theorem nz_ge {n : Nat} (h : 40 ≤ n) (f : Int) : nz S M (n, 0, 0, 0) f = M (n, 0, 0, 0) f := by
  unfold nz
  rw [if_neg (fun q => by have := Nat.le_of_ble_eq_true (show Nat.ble (n + 1) 40 = true from q); omega), if_pos ⟨rfl, rfl, rfl⟩]
theorem nz_R (hW : zWS P S) (hV : zWM P M) : ∀ k f, zR (nz S M k f) := by
  intro k f
  unfold nz
  by_cases h : Nat.blt k.1 40 = true
  · rw [if_pos h]; exact hW.R k f
  · rw [if_neg h]
    by_cases h2 : k.2.1 = 0 ∧ k.2.2.1 = 0 ∧ k.2.2.2 = 0
    · rw [if_pos h2]
      obtain ⟨n, i, j, o⟩ := k
      obtain ⟨e1, e2, e3⟩ := h2
      simp only at e1 e2 e3 h
      subst e1 e2 e3
      exact (hV.2.2 n f (Nat.le_of_not_lt fun q => h (Nat.ble_eq_true_of_le q))).1
    · rw [if_neg h2]; exact zR_0
theorem xJ_nz (h : xJ P S M) : xJ P (nz S M) (nz S M) := by
  have hW := h.2.2.2.2.1
  have hV := h.2.2.2.2.2.1
  refine xJ_M (M := M) (fun n f hn => nz_ge hn f) (xJ_S (S := S) (fun k f hk => ?_) (nz_R hW hV) h)
  rw [nz_lt]
  show Nat.ble (k.1 + 1) 40 = true
  refine Nat.ble_eq_true_of_le (Nat.lt_of_not_le fun q => ?_)
  have : Nat.ble 40 k.1 = true := Nat.ble_eq_true_of_le q
  rw [show k40 k.1 = Nat.ble 40 k.1 from rfl, this] at hk
  cases hk
end JFR
set_option maxRecDepth 100000 in
theorem zcnt_40 {Δ : zDl} {ad : zK → Nat} {P : zP} {k : zK} {r r' : Int → Int} (hk : 40 ≤ k.1) (h0 : ¬ (k.2.1 = 0 ∧ k.2.2.1 = 0 ∧ k.2.2.2 = 0)) : zcnt Δ ad P k r = zcnt Δ ad P k r' := by
  obtain ⟨n, i, j, o⟩ := k
  simp only at hk h0
  unfold zcnt
  refine ite_cg (fun e => absurd (show n = 0 from e) (by omega)) (fun _ => ?_)
  refine ite_cg (fun e => absurd (show n = 1 from e) (by omega)) (fun _ => ?_)
  refine ite_cg (fun e => absurd (show n = 2 from e) (by omega)) (fun _ => ?_)
  refine ite_cg (fun e => absurd (show n = 3 from e) (by omega)) (fun _ => ?_)
  refine ite_cg (fun e => absurd (show n = 4 from e) (by omega)) (fun _ => ?_)
  refine ite_cg (fun e => absurd (show n = 5 from e) (by omega)) (fun _ => ?_)
  refine ite_cg (fun e => absurd (show n = 6 from e) (by omega)) (fun _ => ?_)
  refine ite_cg (fun e => absurd (show n = 7 from e) (by omega)) (fun _ => ?_)
  refine ite_cg (fun e => absurd (show n = 8 from e) (by omega)) (fun _ => ?_)
  refine ite_cg (fun e => absurd (show n = 9 from e) (by omega)) (fun _ => ?_)
  refine ite_cg (fun e => absurd (show n = 10 from e) (by omega)) (fun _ => ?_)
  refine ite_cg (fun e => absurd (show n = 11 from e) (by omega)) (fun _ => ?_)
  refine ite_cg (fun e => absurd (show n = 12 from e) (by omega)) (fun _ => ?_)
  refine ite_cg (fun e => absurd (show n = 13 from e) (by omega)) (fun _ => ?_)
  refine ite_cg (fun e => absurd (show n = 14 from e) (by omega)) (fun _ => ?_)
  refine ite_cg (fun e => absurd (show n = 15 from e) (by omega)) (fun _ => ?_)
  refine ite_cg (fun e => absurd (show n = 16 from e) (by omega)) (fun _ => ?_)
  refine ite_cg (fun e => absurd (show n = 17 from e) (by omega)) (fun _ => ?_)
  refine ite_cg (fun e => absurd (show n = 18 from e) (by omega)) (fun _ => ?_)
  refine ite_cg (fun e => absurd (show n = 19 from e) (by omega)) (fun _ => ?_)
  refine ite_cg (fun e => absurd (show n = 20 from e) (by omega)) (fun _ => ?_)
  refine ite_cg (fun e => absurd (show n = 21 from e) (by omega)) (fun _ => ?_)
  refine ite_cg (fun e => (show zc40 Δ ad P i j o r = zc40 Δ ad P i j o r' from (if_neg h0).trans (if_neg h0).symm)) (fun _ => ?_)
  refine ite_cg (fun e => (show zc45 Δ ad P i j o r = zc45 Δ ad P i j o r' from (if_neg h0).trans (if_neg h0).symm)) (fun _ => ?_)
  refine ite_cg (fun e => (show zc46 Δ ad P i j o r = zc46 Δ ad P i j o r' from (if_neg h0).trans (if_neg h0).symm)) (fun _ => ?_)
  refine ite_cg (fun e => (show zc47 Δ ad P i j o r = zc47 Δ ad P i j o r' from (if_neg h0).trans (if_neg h0).symm)) (fun _ => ?_)
  refine ite_cg (fun e => (show zc48 Δ ad P i j o r = zc48 Δ ad P i j o r' from (if_neg h0).trans (if_neg h0).symm)) (fun _ => ?_)
  refine ite_cg (fun e => (show zc49 Δ ad P i j o r = zc49 Δ ad P i j o r' from (if_neg h0).trans (if_neg h0).symm)) (fun _ => ?_)
  refine ite_cg (fun e => (show zc50 Δ ad P i j o r = zc50 Δ ad P i j o r' from (if_neg h0).trans (if_neg h0).symm)) (fun _ => ?_)
  refine ite_cg (fun e => (show zc52 Δ ad P i j o r = zc52 Δ ad P i j o r' from (if_neg h0).trans (if_neg h0).symm)) (fun _ => ?_)
  refine ite_cg (fun e => (show zc53 Δ ad P i j o r = zc53 Δ ad P i j o r' from (if_neg h0).trans (if_neg h0).symm)) (fun _ => ?_)
  refine ite_cg (fun e => (show zc54 Δ ad P i j o r = zc54 Δ ad P i j o r' from (if_neg h0).trans (if_neg h0).symm)) (fun _ => ?_)
  refine ite_cg (fun e => (show zc55 Δ ad P i j o r = zc55 Δ ad P i j o r' from (if_neg h0).trans (if_neg h0).symm)) (fun _ => ?_)
  refine ite_cg (fun e => (show zc56 Δ ad P i j o r = zc56 Δ ad P i j o r' from (if_neg h0).trans (if_neg h0).symm)) (fun _ => ?_)
  refine ite_cg (fun e => (show zc57 Δ ad P i j o r = zc57 Δ ad P i j o r' from (if_neg h0).trans (if_neg h0).symm)) (fun _ => ?_)
  refine ite_cg (fun e => (show zc58 Δ ad P i j o r = zc58 Δ ad P i j o r' from (if_neg h0).trans (if_neg h0).symm)) (fun _ => ?_)
  refine ite_cg (fun e => (show zc59 Δ ad P i j o r = zc59 Δ ad P i j o r' from (if_neg h0).trans (if_neg h0).symm)) (fun _ => ?_)
  refine ite_cg (fun e => (show zc61 Δ ad P i j o r = zc61 Δ ad P i j o r' from (if_neg h0).trans (if_neg h0).symm)) (fun _ => ?_)
  refine ite_cg (fun e => (show zc62 Δ ad P i j o r = zc62 Δ ad P i j o r' from (if_neg h0).trans (if_neg h0).symm)) (fun _ => ?_)
  refine ite_cg (fun e => (show zc64 Δ ad P i j o r = zc64 Δ ad P i j o r' from (if_neg h0).trans (if_neg h0).symm)) (fun _ => ?_)
  refine ite_cg (fun e => (show zc65 Δ ad P i j o r = zc65 Δ ad P i j o r' from (if_neg h0).trans (if_neg h0).symm)) (fun _ => ?_)
  refine ite_cg (fun e => (show zc66 Δ ad P i j o r = zc66 Δ ad P i j o r' from (if_neg h0).trans (if_neg h0).symm)) (fun _ => ?_)
  refine ite_cg (fun e => (show zc67 Δ ad P i j o r = zc67 Δ ad P i j o r' from (if_neg h0).trans (if_neg h0).symm)) (fun _ => ?_)
  refine ite_cg (fun e => (show zc68 Δ ad P i j o r = zc68 Δ ad P i j o r' from (if_neg h0).trans (if_neg h0).symm)) (fun _ => ?_)
  refine ite_cg (fun e => (show zc69 Δ ad P i j o r = zc69 Δ ad P i j o r' from (if_neg h0).trans (if_neg h0).symm)) (fun _ => ?_)
  refine ite_cg (fun e => (show zc70 Δ ad P i j o r = zc70 Δ ad P i j o r' from (if_neg h0).trans (if_neg h0).symm)) (fun _ => ?_)
  refine ite_cg (fun e => (show zc71 Δ ad P i j o r = zc71 Δ ad P i j o r' from (if_neg h0).trans (if_neg h0).symm)) (fun _ => ?_)
  refine ite_cg (fun e => (show zc73 Δ ad P i j o r = zc73 Δ ad P i j o r' from (if_neg h0).trans (if_neg h0).symm)) (fun _ => ?_)
  rfl
theorem mm_nz {Δ : zDl} {ad : zK → Nat} {P : zP} {S M : zS} {X : zMem} (h : zfr k40 S M) : mm Δ ad P M X = mm Δ ad P (nz S M) X := by
  funext k
  by_cases h80 : k.1 < 80
  · rw [mm_lt k h80, mm_lt k h80]
    by_cases h40 : k.1 < 40
    · have e : nz S M k = M k := by
        rw [nz_lt (show Nat.ble (k.1 + 1) 40 = true from Nat.ble_eq_true_of_le h40)]
        funext f
        refine (h k f ?_).symm
        show Nat.ble 40 k.1 = false
        cases hb : Nat.ble 40 k.1 with
        | false => rfl
        | true => exact absurd (Nat.le_of_ble_eq_true hb) (by omega)
      rw [e]
    · by_cases h0 : k.2.1 = 0 ∧ k.2.2.1 = 0 ∧ k.2.2.2 = 0
      · have e : nz S M k = M k := by
          funext f
          unfold nz
          rw [if_neg (show ¬ Nat.blt k.1 40 = true from fun q => h40 (Nat.le_of_ble_eq_true (show Nat.ble (k.1 + 1) 40 = true from q))), if_pos h0]
        rw [e]
      · exact zcnt_40 (by omega) h0
  · rw [mm_ge k h80, mm_ge k h80]
