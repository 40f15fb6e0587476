/-! ===== the law's acts: what they share ===== -/
def kC (n : Nat) : Bool := Nat.blt n 40 && !(n == 0)
def kM (n : Nat) : Bool := Nat.ble 40 n && !(n == 40)
def aM (k : zK) (f : Int) : Bool := Nat.ble 40 k.1 && !(k.1 == 40 && f == 0)
theorem blt_F {n : Nat} (h : 40 ≤ n) : Nat.blt n 40 = false := by
  cases hb : Nat.blt n 40 with
  | false => rfl
  | true => exact absurd (Nat.le_of_ble_eq_true (show Nat.ble (n + 1) 40 = true from hb)) (by omega)
theorem zfr00_40 {T S1 : zS} (h : zfr k00 T S1) : ∀ (n : Nat) (f : Int), 40 ≤ n → S1 (n, 0, 0, 0) f = T (n, 0, 0, 0) f := fun n f hn => h _ _ (blt_F hn)
theorem kC_00 {T S1 : zS} (h : zfr kC T S1) : zfr k00 T S1 := h.mono (fun n hn => by
  unfold kC at hn
  rw [Bool.and_eq_true] at hn
  exact hn.1)
theorem zfr_aM {S T : zS} (h : zfr kM S T) : fr aM S T := fun k f hk => h k f (by
  unfold aM at hk
  unfold kM
  cases h1 : Nat.ble 40 k.1 with
  | false => rfl
  | true =>
    rw [h1] at hk
    cases h2 : (k.1 == 40) with
    | true => rfl
    | false => rw [h2] at hk; exact hk)
theorem aM_k {S1 M2 : zS} (h : fr aM (zst S1 (40, 0, 0, 0) 0 0) M2) : zfr k40 S1 M2 ∧ M2 (40, 0, 0, 0) 0 = 0 := by
  refine ⟨fun k f hk => ?_, (h _ _ rfl).trans (zst_s _ _ _ _)⟩
  have h1 : Nat.ble 40 k.1 = false := hk
  rw [h k f (by unfold aM; rw [h1]; rfl), zst_k _ _ _ _ (fun q => by rw [q] at h1; cases h1)]
theorem mnk_aM {S : zS} {g m : Int} : fr aM S (mnk S g m) := by
  unfold mnk
  split
  · exact ((mwr_f (A := aM) rfl (fun _ => rfl)).st rfl).tr (mwr_f (A := aM) rfl (fun _ => rfl))
  · exact ((mwr_f (A := aM) rfl (fun _ => rfl)).st rfl).st rfl
theorem lpN_f2 {A : zK → Int → Bool} {f : Int → zS × Int → zS × Int} (hf : ∀ o s, fr A s.1 (f o s).1) : ∀ (n : Nat) (a : Int) (s : zS × Int), fr A s.1 (lpN f n a s).1 := by
  intro n
  induction n with
  | zero => exact fun a s => fr.rf
  | succ n ih => exact fun a s => (hf a s).tr (ih _ _)
theorem lp_f2 {A : zK → Int → Bool} {f : Int → zS × Int → zS × Int} (hf : ∀ o s, fr A s.1 (f o s).1) {a n : Int} {s : zS × Int} : fr A s.1 (lp f a n s).1 := lpN_f2 hf _ _ _
theorem mv3_aM {Q : zP} {a n : Int} {s : zS × Int} : fr aM s.1 (lp (mv3 Q) a n s).1 := lp_f2 fun g s => lp_f2 (s := s) fun w s => lp_f2 (s := s) fun o s => by
  unfold mv1
  split
  · exact mnk_aM
  · exact fr.rf
theorem mv5_kM {Q : zP} {a n : Int} {S : zS} : zfr kM S (lp (mv5 Q) a n S) := lp_fr fun t s => lp_fr fun p s => mdo_fr rfl rfl rfl rfl _ _
theorem msk_kM {Q : zP} {g p x : Int} {S : zS} : zfr kM S (msk Q g p x S) := ((lp_fr fun o s => by
  unfold msk1
  split
  · exact mfg_fr rfl rfl
  · exact zfr.rf).st rfl).st rfl
theorem mj3_kM {Q : zP} {F : Int → Int} {g a n : Int} {S : zS} : zfr kM S (lp (mj3 Q F g) a n S) := lp_fr fun p s => by
  unfold mj3
  split
  · exact zfr.rf
  · unfold mj2
    refine (((zfr.rf (S := s)).st rfl).tr (lp_fr fun o s => ?_)).st rfl
    unfold mj1
    split
    · exact mfg_fr rfl rfl
    · exact zfr.rf
theorem msa_aM {Q : zP} {S : zS} : fr aM S (msa Q S) := zfr_aM (msa_fr rfl rfl)
section STB
variable {l : Launch} {Δ : zDl} {yw yc ym : MethodName} {bw bc bm : ByteArray} {mlw mlc mlm : Nat} {hh : List (Nat × Nat × Nat × Nat)} {rt : FieldType} {vs : List Value} {P : zP} {T : zS} {j : Int} {w : Int64} {wd : UInt64} {ad : zK → Nat}
theorem st_b {d mc ms d2 mc2 ms2 : Nat} {r r' : Int} {S1 M2 : zS} (hJ : xJ P T T) (hj : T (0, 0, 0, 0) 4 ≤ j) (ho : zWo l Δ yw bw mlw hh yc bc mlc vs) (hfr : zfr k00 T S1) (h4 : S1 (0, 0, 0, 0) 4 ≤ T (0, 0, 0, 0) 4 + 1) (hM : fr aM (zst S1 (40, 0, 0, 0) 0 0) M2) (hO : xJ P T (zst S1 (40, 0, 0, 0) 0 0) → xJ P S1 M2 ∧ r' = r) (h1 : ∀ {X : zMem}, zMn l Δ yc bc mlc (some .int) d mc ms (.ref (ad (0, 0, 0, 0)) :: vs) ad (mm Δ ad P T X) (zD (some (.int (zI r))) ad (mm Δ ad P S1 X)))
    (h2 : zWM P S1 → (∀ (n : Nat) (f : Int), 40 ≤ n → S1 (n, 0, 0, 0) f = T (n, 0, 0, 0) f) → ∀ {X : zMem}, X (90, 0, 0, 0) = none → zMn l Δ ym bm mlm (some rt) d2 mc2 ms2 (.ref (ad (40, 0, 0, 0)) :: vs) ad (mm Δ ad P S1 X) (zD (some (.int (zI r'))) ad (mm Δ ad P M2 X))) (hr : zRq1 (d + 1) mc ms ∧ zRq d2 mc2 ms2) : zCa l Δ yw bw mlw hh ym bm mlm rt vs P T j w wd ad := by
  have hS := zfr00_40 hfr
  have hO' := hO (xJ_th (xJ_M hS hJ) zR_0)
  exact st_a' hj ho hO'.2 h1 (h2 (zWM_M hS hJ.2.2.2.2.2.1) hS) (aM_k hM).1 (aM_k hM).2 hO'.1 h4 hr
end STB
