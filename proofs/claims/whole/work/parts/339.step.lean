/-! ===== a call of both: what the law's cases stand on ===== -/
def zXl (Δ : zDl) (w : Int64) (wd : UInt64) : zMem := fun k => if k = (82, 0, 0, 0) then some (zLo Δ w) else if k = (83, 0, 0, 0) then some (zDo Δ wd) else none
theorem zXl_82 {Δ : zDl} {ad : zK → Nat} {P : zP} {S : zS} {w : Int64} {wd : UInt64} : mm Δ ad P S (zXl Δ w wd) (82, 0, 0, 0) = some (zLo Δ w) := (mm_ge _ (by decide)).trans rfl
theorem zXl_83 {Δ : zDl} {ad : zK → Nat} {P : zP} {S : zS} {w : Int64} {wd : UInt64} : mm Δ ad P S (zXl Δ w wd) (83, 0, 0, 0) = some (zDo Δ wd) := (mm_ge _ (by decide)).trans rfl
theorem zXl_90 {Δ : zDl} {w : Int64} {wd : UInt64} : zXl Δ w wd (90, 0, 0, 0) = none := rfl
theorem zXl_91 {Δ : zDl} {w : Int64} {wd : UInt64} : zXl Δ w wd (91, 0, 0, 0) = none := rfl
theorem zXl_s {Δ : zDl} {ad : zK → Nat} {P : zP} {S : zS} {w w' : Int64} {wd : UInt64} : zup1 (mm Δ ad P S (zXl Δ w wd)) (82, 0, 0, 0) (some (zLo Δ w')) = mm Δ ad P S (zXl Δ w' wd) := by
  rw [mm_up (by decide)]
  congr 1
  funext k
  by_cases h : k = (82, 0, 0, 0)
  · rw [h, zup1_s]; rfl
  · rw [zup1_n _ _ h]
    unfold zXl
    rw [if_neg h, if_neg h]
theorem zXl_d {Δ : zDl} {ad : zK → Nat} {P : zP} {S : zS} {w : Int64} {wd wd' : UInt64} : zup1 (mm Δ ad P S (zXl Δ w wd)) (83, 0, 0, 0) (some (zDo Δ wd')) = mm Δ ad P S (zXl Δ w wd') := by
  rw [mm_up (by decide)]
  congr 1
  funext k
  by_cases h : k = (83, 0, 0, 0)
  · rw [h, zup1_s]; rfl
  · rw [zup1_n _ _ h]
    unfold zXl
    rw [if_neg h, if_neg h]
def zKp (ad ad1 : zK → Nat) : Prop := ad1 (0, 0, 0, 0) = ad (0, 0, 0, 0) ∧ ad1 (40, 0, 0, 0) = ad (40, 0, 0, 0) ∧ ad1 (82, 0, 0, 0) = ad (82, 0, 0, 0) ∧ ad1 (83, 0, 0, 0) = ad (83, 0, 0, 0)
theorem zKp.rf {ad : zK → Nat} : zKp ad ad := ⟨rfl, rfl, rfl, rfl⟩
/-- the room of a call -/
def zRq (d mc ms : Nat) : Prop := d ≤ 11 ∧ mc ≤ 650 ∧ ms ≤ 6000
def zRq1 (d mc ms : Nat) : Prop := d ≤ 11 ∧ mc ≤ 50 ∧ ms ≤ 1300
/-- the model's answer to a call that the class answered with k, and laid down w1 -/
def zMd (l : Launch) (Δ : zDl) (ym : MethodName) (bm : ByteArray) (mlm : Nat) (rt : FieldType) (vs : List Value) (ad1 : zK → Nat) (P1 : zP) (T1 : zS) (w1 : Int64) (wd : UInt64) (k j : Int) : Prop :=
  ∃ d2 mc2 ms2, zRq d2 mc2 ms2 ∧ zMn l Δ ym bm mlm (some rt) d2 mc2 ms2 (.ref (ad1 (40, 0, 0, 0)) :: vs) ad1 (mm Δ ad1 P1 T1 (zXl Δ w1 wd)) (fun v ad2 M2 => ∃ (b : Int) (P2 : zP) (T2 : zS), v = some (.int (zI b)) ∧ zR b ∧ M2 = mm Δ ad2 P2 T2 (zXl Δ w1 wd) ∧ zKp ad1 ad2 ∧ T2 (40, 0, 0, 0) 0 = k ∧ (k = 0 → w1 = zL b) ∧ xJ P2 T2 T2 ∧ T2 (0, 0, 0, 0) 4 ≤ j + 1)
/-- the law's case: its wrapper, then the model -/
def zCs (l : Launch) (Δ : zDl) (yw : MethodName) (bw : ByteArray) (mlw : Nat) (hh : List (Nat × Nat × Nat × Nat)) (ym : MethodName) (bm : ByteArray) (mlm : Nat) (rt : FieldType) (vs : List Value) : Prop :=
  ∀ (P : zP) (T : zS) (j : Int) (w : Int64) (wd : UInt64) (ad : zK → Nat), xJ P T T → T (0, 0, 0, 0) 4 ≤ j → j ≤ 512 →
    ∃ d1 mc1 ms1, zRq1 d1 mc1 ms1 ∧ zMh l Δ yw bw mlw (some .int) hh d1 mc1 ms1 (.ref (ad (0, 0, 0, 0)) :: (vs ++ [.ref (ad (82, 0, 0, 0))])) ad (mm Δ ad P T (zXl Δ w wd)) (fun v ad1 M1 => ∃ (k : Int) (P1 : zP) (T1 : zS) (w1 : Int64), v = some (.int (zI k)) ∧ (0 ≤ k ∧ k ≤ 3) ∧ M1 = mm Δ ad1 P1 T1 (zXl Δ w1 wd) ∧ zKp ad ad1 ∧ zMd l Δ ym bm mlm rt vs ad1 P1 T1 w1 wd k j)
/-- contracts may be said weaker -/
theorem zQc.mono {Δ : zDl} {A : Nat → Prop} {p q : zPo} (hpq : ∀ v ad' M', p v ad' M' → q v ad' M') {a : Array Value} {st : State} {o : Outcome} {t : State} (g : zQc Δ A p a st o t) : zQc Δ A q a st o t := by
  obtain ⟨⟨v, ad', M', g1, g2, g3⟩, g4⟩ := g
  exact ⟨⟨v, ad', M', g1, hpq _ _ _ g2, g3⟩, g4⟩
theorem zMn.mono {l : Launch} {Δ : zDl} {y : MethodName} {b : ByteArray} {maxL : Nat} {ret : Option FieldType} {d mc ms : Nat} {args : List Value} {ad : zK → Nat} {M : zMem} {p q : zPo} (h : zMn l Δ y b maxL ret d mc ms args ad M p) (hpq : ∀ v ad' M', p v ad' M' → q v ad' M') : zMn l Δ y b maxL ret d mc ms args ad M q := fun sz =>
  MetFree.mono (h sz) (fun _ _ g => g) (fun _ _ _ _ _ g => g) (fun _ _ _ _ _ g => ⟨zQc.mono hpq g.1, g.2⟩)
theorem zMh.mono {l : Launch} {Δ : zDl} {y : MethodName} {b : ByteArray} {maxL : Nat} {ret : Option FieldType} {hh : List (Nat × Nat × Nat × Nat)} {d mc ms : Nat} {args : List Value} {ad : zK → Nat} {M : zMem} {p q : zPo} (h : zMh l Δ y b maxL ret hh d mc ms args ad M p) (hpq : ∀ v ad' M', p v ad' M' → q v ad' M') : zMh l Δ y b maxL ret hh d mc ms args ad M q := fun sz =>
  MetFree.mono (h sz) (fun _ _ g => g) (fun _ _ _ _ _ g => g) (fun _ _ _ _ _ g => g.imp (fun g => ⟨zQc.mono hpq g.1, g.2⟩) (fun g => g))
/-- the class answered; its wrapper lays the answer down -/
abbrev zWo (l : Launch) (Δ : zDl) (yw : MethodName) (bw : ByteArray) (mlw : Nat) (hh : List (Nat × Nat × Nat × Nat)) (yc : MethodName) (bc : ByteArray) (mlc : Nat) (vs : List Value) : Prop :=
  ∀ (ad : zK → Nat) (M : zMem) (d mc ms : Nat) (fs : List Value) (w0 : Int64) (P0 : zPo) (post : Int → (zK → Nat) → zMem → Prop), M (0, 0, 0, 0) = some (.inr (7, fs)) → M (82, 0, 0, 0) = some (zLo Δ w0) → zMn l Δ yc bc mlc (some .int) d mc ms (.ref (ad (0, 0, 0, 0)) :: vs) ad M P0 →
    (∀ v ad' M', P0 v ad' M' → ∃ r, v = some (.int (zI r)) ∧ zR r ∧ ad' (82, 0, 0, 0) = ad (82, 0, 0, 0) ∧ M' (82, 0, 0, 0) = some (zLo Δ w0) ∧ post r ad' M') → zMh l Δ yw bw mlw (some .int) hh (d + 1) mc ms (.ref (ad (0, 0, 0, 0)) :: (vs ++ [.ref (ad (82, 0, 0, 0))])) ad M (fun v ad' M' => v = some (.int (zI 0)) ∧ ∃ r M1, zR r ∧ post r ad' M1 ∧ M' = zup1 M1 (82, 0, 0, 0) (some (zLo Δ (zL r))))
abbrev zWn (l : Launch) (Δ : zDl) (yw : MethodName) (bw : ByteArray) (mlw : Nat) (hh : List (Nat × Nat × Nat × Nat)) (yc : MethodName) (bc : ByteArray) (mlc : Nat) (rc : FieldType) (vs : List Value) (k : Int) (E : String) : Prop :=
  ∀ (ad : zK → Nat) (M : zMem) (d mc ms : Nat) (fs : List Value), M (0, 0, 0, 0) = some (.inr (7, fs)) → zMx l Δ yc bc mlc (some rc) d mc ms (.ref (ad (0, 0, 0, 0)) :: vs) ad M zF0 (zE E ad M) → zMh l Δ yw bw mlw (some .int) hh (d + 1) mc ms (.ref (ad (0, 0, 0, 0)) :: (vs ++ [.ref (ad (82, 0, 0, 0))])) ad M (zD (some (.int (zI k))) ad M)
section STEPS
variable {l : Launch} {Δ : zDl} {yw yc ym : MethodName} {bw bc bm : ByteArray} {mlw mlc mlm : Nat} {hh : List (Nat × Nat × Nat × Nat)} {rt rc : FieldType} {vs : List Value} {P : zP} {T : zS} {j : Int} {w : Int64} {wd : UInt64} {ad : zK → Nat}
/-- the statement of a case at one state -/
abbrev zCa (l : Launch) (Δ : zDl) (yw : MethodName) (bw : ByteArray) (mlw : Nat) (hh : List (Nat × Nat × Nat × Nat)) (ym : MethodName) (bm : ByteArray) (mlm : Nat) (rt : FieldType) (vs : List Value) (P : zP) (T : zS) (j : Int) (w : Int64) (wd : UInt64) (ad : zK → Nat) : Prop :=
  ∃ d1 mc1 ms1, zRq1 d1 mc1 ms1 ∧ zMh l Δ yw bw mlw (some .int) hh d1 mc1 ms1 (.ref (ad (0, 0, 0, 0)) :: (vs ++ [.ref (ad (82, 0, 0, 0))])) ad (mm Δ ad P T (zXl Δ w wd)) (fun v ad1 M1 => ∃ (k : Int) (P1 : zP) (T1 : zS) (w1 : Int64), v = some (.int (zI k)) ∧ (0 ≤ k ∧ k ≤ 3) ∧ M1 = mm Δ ad1 P1 T1 (zXl Δ w1 wd) ∧ zKp ad ad1 ∧ zMd l Δ ym bm mlm rt vs ad1 P1 T1 w1 wd k j)
/-- both refuse -/
theorem st_no {d mc ms d2 mc2 ms2 : Nat} {k : Int} {E : String} (hJ : xJ P T T) (hj : T (0, 0, 0, 0) 4 ≤ j) (hk : 1 ≤ k ∧ k ≤ 3) (hn : zWn l Δ yw bw mlw hh yc bc mlc rc vs k E) (h1 : ∀ {X : zMem}, zMx l Δ yc bc mlc (some rc) d mc ms (.ref (ad (0, 0, 0, 0)) :: vs) ad (mm Δ ad P T X) zF0 (zE E ad (mm Δ ad P T X)))
    (h2 : ∀ {X : zMem}, X (90, 0, 0, 0) = none → zMn l Δ ym bm mlm (some rt) d2 mc2 ms2 (.ref (ad (40, 0, 0, 0)) :: vs) ad (mm Δ ad P T X) (zD (some (.int (zI 0))) ad (mm Δ ad P (zst T (40, 0, 0, 0) 0 k) X))) (hr : zRq1 (d + 1) mc ms ∧ zRq d2 mc2 ms2) : zCa l Δ yw bw mlw hh ym bm mlm rt vs P T j w wd ad := by
  refine ⟨d + 1, mc, ms, hr.1, (hn ad _ d mc ms _ mg_0 h1).mono (fun v ad1 M1 h => ?_)⟩
  obtain ⟨rfl, rfl, rfl⟩ := h
  refine ⟨k, P, T, w, rfl, ⟨by omega, hk.2⟩, rfl, zKp.rf, d2, mc2, ms2, hr.2, (h2 zXl_90).mono (fun v ad2 M2 h => ?_)⟩
  obtain ⟨rfl, rfl, rfl⟩ := h
  refine ⟨0, P, nz T (zst T (40, 0, 0, 0) 0 k), rfl, zR_0, mm_nz (zfr.rf.st rfl), zKp.rf, ?_, fun q => absurd q (by omega), xJ_nz (xJ_th hJ ⟨by omega, by omega⟩), ?_⟩
  · rw [nz_ge (by decide), zst_s]
  · rw [nz_lt rfl]; omega
/-- both answer, and nothing changes in the class -/
theorem st_q {d mc ms d2 mc2 ms2 : Nat} {r r' : Int} (hJ : xJ P T T) (hj : T (0, 0, 0, 0) 4 ≤ j) (ho : zWo l Δ yw bw mlw hh yc bc mlc vs) (hR : zR r) (he : r' = r) (h1 : ∀ {X : zMem}, X (90, 0, 0, 0) = none → X (91, 0, 0, 0) = none → zMn l Δ yc bc mlc (some .int) d mc ms (.ref (ad (0, 0, 0, 0)) :: vs) ad (mm Δ ad P T X) (zD (some (.int (zI r))) ad (mm Δ ad P T X)))
    (h2 : ∀ {X : zMem}, X (90, 0, 0, 0) = none → zMn l Δ ym bm mlm (some rt) d2 mc2 ms2 (.ref (ad (40, 0, 0, 0)) :: vs) ad (mm Δ ad P T X) (zD (some (.int (zI r'))) ad (mm Δ ad P (zst T (40, 0, 0, 0) 0 0) X))) (hr : zRq1 (d + 1) mc ms ∧ zRq d2 mc2 ms2) : zCa l Δ yw bw mlw hh ym bm mlm rt vs P T j w wd ad := by
  subst he
  refine ⟨d + 1, mc, ms, hr.1, (ho ad _ d mc ms _ w _ (fun r2 ad' M' => r2 = r' ∧ ad' = ad ∧ M' = mm Δ ad P T (zXl Δ w wd)) mg_0 zXl_82 (h1 zXl_90 zXl_91) (fun v ad' M' h => by obtain ⟨rfl, rfl, rfl⟩ := h; exact ⟨_, rfl, hR, rfl, zXl_82, rfl, rfl, rfl⟩)).mono (fun v ad1 M1 h => ?_)⟩
  obtain ⟨rfl, r2, M0, -, ⟨rfl, rfl, rfl⟩, rfl⟩ := h
  refine ⟨0, P, T, zL r2, rfl, ⟨by omega, by omega⟩, zXl_s, zKp.rf, d2, mc2, ms2, hr.2, (h2 zXl_90).mono (fun v ad2 M2 h => ?_)⟩
  obtain ⟨rfl, rfl, rfl⟩ := h
  refine ⟨r2, P, nz T (zst T (40, 0, 0, 0) 0 0), rfl, hR, mm_nz (zfr.rf.st rfl), zKp.rf, ?_, fun _ => rfl, xJ_nz (xJ_th hJ zR_0), ?_⟩
  · rw [nz_ge (by decide), zst_s]
  · rw [nz_lt rfl]; omega
/-- both act, at the same shape -/
theorem st_a {d mc ms d2 mc2 ms2 : Nat} {r r' : Int} {S1 M2 : zS} (hj : T (0, 0, 0, 0) 4 ≤ j) (ho : zWo l Δ yw bw mlw hh yc bc mlc vs) (hR : zR r) (he : r' = r) (h1 : ∀ {X : zMem}, zMn l Δ yc bc mlc (some .int) d mc ms (.ref (ad (0, 0, 0, 0)) :: vs) ad (mm Δ ad P T X) (zD (some (.int (zI r))) ad (mm Δ ad P S1 X)))
    (h2 : ∀ {X : zMem}, X (90, 0, 0, 0) = none → zMn l Δ ym bm mlm (some rt) d2 mc2 ms2 (.ref (ad (40, 0, 0, 0)) :: vs) ad (mm Δ ad P S1 X) (zD (some (.int (zI r'))) ad (mm Δ ad P M2 X))) (hM : zfr k40 S1 M2) (h0 : M2 (40, 0, 0, 0) 0 = 0) (hJ : xJ P S1 M2) (h4 : S1 (0, 0, 0, 0) 4 ≤ T (0, 0, 0, 0) 4 + 1) (hr : zRq1 (d + 1) mc ms ∧ zRq d2 mc2 ms2) : zCa l Δ yw bw mlw hh ym bm mlm rt vs P T j w wd ad := by
  subst he
  refine ⟨d + 1, mc, ms, hr.1, (ho ad _ d mc ms _ w _ (fun r2 ad' M' => r2 = r' ∧ ad' = ad ∧ M' = mm Δ ad P S1 (zXl Δ w wd)) mg_0 zXl_82 h1 (fun v ad' M' h => by obtain ⟨rfl, rfl, rfl⟩ := h; exact ⟨_, rfl, hR, rfl, zXl_82, rfl, rfl, rfl⟩)).mono (fun v ad1 M1 h => ?_)⟩
  obtain ⟨rfl, r2, M0, -, ⟨rfl, rfl, rfl⟩, rfl⟩ := h
  refine ⟨0, P, S1, zL r2, rfl, ⟨by omega, by omega⟩, zXl_s, zKp.rf, d2, mc2, ms2, hr.2, (h2 zXl_90).mono (fun v ad2 M2' h => ?_)⟩
  obtain ⟨rfl, rfl, rfl⟩ := h
  refine ⟨r2, P, nz S1 M2, rfl, hR, mm_nz hM, zKp.rf, ?_, fun _ => rfl, xJ_nz hJ, ?_⟩
  · rw [nz_ge (by decide), h0]
  · rw [nz_lt rfl]; omega
end STEPS
