/-! ===== the law's group, join, meanTries ===== -/
theorem zSg_fr {P : zP} {T : zS} {t : Int} : zfr kC T (zSg P T t) := fun k f hk => by
  unfold zSg
  rw [if_neg (fun q => by
    obtain ⟨⟨q1, q2⟩, -⟩ := q
    unfold kC at hk
    have h1 : Nat.blt k.1 40 = true := Nat.ble_eq_true_of_le (show k.1 + 1 ≤ 40 by omega)
    have h2 : (k.1 == 0) = false := by
      cases h : (k.1 == 0) with
      | false => rfl
      | true => exact absurd (show k.1 = 0 from beq_iff_eq.mp h) (by omega)
    rw [h1, h2] at hk
    cases hk)]
theorem zSg_R {P : zP} {T : zS} {t : Int} (h : ∀ k f, zR (T k f)) : ∀ k f, zR (zSg P T t k f) := fun k f => by
  unfold zSg
  split
  · split
    · split
      · exact ⟨by decide, by decide⟩
      · split
        · exact h _ _
        · exact zR_0
    · exact zR_0
  · exact h _ _
theorem o_groupL {P : zP} {T M : zS} (h : xJ P T M) {t c : Int} (ht : inT P t) (h3 : P 3 0 0 < 4) (hP2 : zWP (zPg P t c)) : xJ (zPg P t c) (zkG (zPg P t c) (P 3 0 0) (zSg P T t)) (msa (zPg P t c) (zst (lp (mgn1 (P 3 0 0) t) 0 4 (zst M (64, 0, 0, 0) (P 3 0 0) t)) (40, 0, 0, 0) 23 (P 3 0 0 + 1))) ∧ zWS (zPg P t c) (zSg P T t) :=
  o_group h ht h3 zgg_Pg hP2 (zSg_R h.2.2.2.2.1.R) (fun j f q => congrFun (zSg_k q) f) (fun f => by simp [zSg]) (fun p => ⟨by simp [zSg], by simp [zSg], by simp [zSg]⟩) (fun p f => ⟨by simp [zSg], by simp [zSg], by simp [zSg]⟩)
set_option maxHeartbeats 1000000 in
set_option maxRecDepth 100000 in
theorem s_group {l : Launch} {Δ : zDl} {t : Int} (hst : l.stackTraces = false) (hr_t : zR t) : zCs l Δ yL_group cL_group 4 [(0, 9, 12, 21), (0, 9, 15, 15)] yX7_group cX7_group 3 .int [.int (zI t)] := by
  intro P T j w wd ad hJ hj hj2
  have hP := hJ.2.2.2.2.2.2
  have hW := hJ.2.2.2.2.1
  have hV := hJ.2.2.2.2.2.1
  have hN := hP.n
  by_cases c1 : 0 ≤ t ∧ t < P 0 0 0
  · by_cases c2 : P 3 0 0 = 4
    · exact st_no hJ hj (by decide) (fun ad M d mc ms fs h0 hm => h_group_2 h0 hm) (c_X6_group_z (by first | assumption | rfl) (by first | assumption | rfl) (by first | assumption | rfl) (by first | assumption | rfl) (by first | assumption | rfl)) (fun hX90 => c_X7_group_z (Q := P) (by first | assumption | rfl) (by first | assumption | rfl) (by first | assumption | rfl) (by first | assumption | rfl)) ⟨⟨by decide, by decide, by decide⟩, ⟨by decide, by decide, by decide⟩⟩
    · have c3 : P 3 0 0 < 4 := by omega
      have hW3 := (o_groupL hJ c1 c3 (zWP_Pg (c := 200) hP c1 c3 ⟨by omega, by omega⟩)).2
      exact st_g (r := P 3 0 0) (n0 := P 3 0 0) (P2 := fun c => zPg P t c) (S2 := fun c z => zst (zkG (zPg P t c) (P 3 0 0) (zSg P T t)) (6, 0, 0, 0) 0 z) (M2 := fun c z => msa (zPg P t c) (zst (lp (mgn1 (P 3 0 0) t) 0 4 (zst (zst (zst (zkG (zPg P t c) (P 3 0 0) (zSg P T t)) (6, 0, 0, 0) 0 z) (40, 0, 0, 0) 0 0) (64, 0, 0, 0) (P 3 0 0) t)) (40, 0, 0, 0) 23 (P 3 0 0 + 1))) hJ hj (fun ad M d mc ms fs w0 P0 post h0 h82 hm hP0 => h_group h0 h82 hm hP0) (⟨by omega, by omega⟩) (fun hX90 hX91 => c_X6_group (by first | assumption | rfl) (by first | assumption | rfl) (by first | assumption | rfl) (by first | assumption | rfl) (by first | assumption | rfl) (by first | assumption | rfl)) (fun c z => kC_00 ((zSg_fr.tr (zkG_fr rfl rfl rfl)).st rfl)) (fun c z => Int.le_trans (Int.le_of_eq (((zSg_fr.tr (zkG_fr rfl rfl rfl)).st rfl : zfr kC T _) (0, 0, 0, 0) 4 rfl)) (Int.le_add_one (Int.le_refl _))) (fun c z => ((((fr.rf.st rfl).tr (zfr_aM (lp_fr (fun o s => ((zfr.rf.st rfl).st rfl).st rfl)))).st rfl)).tr msa_aM) (fun c z hc hz hJ1 => by have h := (o_groupL hJ1 c1 c3 (zWP_Pg hP c1 c3 hc)).1; exact xJ_ctr h (zfr.rf.st rfl) (zst_Rr h.2.2.2.2.1.R hz)) (fun c z hc hz hV1 hS ad1 X9 hX90 => c_X7_group_o (Q := P) hV1 (by first | assumption | rfl) rfl (by first | assumption | rfl) zgg_Pg) ⟨⟨by decide, by decide, by decide⟩, ⟨by decide, by decide, by decide⟩⟩
  · exact st_no hJ hj (by decide) (fun ad M d mc ms fs h0 hm => h_group_1 h0 hm) (c_X6_group_x (by first | assumption | rfl) (by first | assumption | rfl) (by first | assumption | rfl) (by first | assumption | rfl) (by first | assumption | rfl)) (fun hX90 => c_X7_group_x (Q := P) (by first | assumption | rfl) (by first | assumption | rfl) (by first | assumption | rfl) (by first | assumption | rfl)) ⟨⟨by decide, by decide, by decide⟩, ⟨by decide, by decide, by decide⟩⟩
/-- join answers a boolean -/
def zMdJ (l : Launch) (Δ : zDl) (ym : MethodName) (bm : ByteArray) (mlm : Nat) (vs : List Value) (ad1 : zK → Nat) (P1 : zP) (T1 : zS) (w1 : Int64) (wd : UInt64) (k j : Int) : Prop :=
  ∃ d2 mc2 ms2, zRq d2 mc2 ms2 ∧ zMn l Δ ym bm mlm (some .boolean) d2 mc2 ms2 (.ref (ad1 (40, 0, 0, 0)) :: vs) ad1 (mm Δ ad1 P1 T1 (zXl Δ w1 wd)) (fun v ad2 M2 => ∃ (b : Int) (P2 : zP) (T2 : zS), v = some (.int (zI b)) ∧ zR b ∧ M2 = mm Δ ad2 P2 T2 (zXl Δ w1 wd) ∧ zKp ad1 ad2 ∧ T2 (40, 0, 0, 0) 0 = k ∧ (k = 0 → w1 = zL (if b = 0 then 0 else 1)) ∧ xJ P2 T2 T2 ∧ T2 (0, 0, 0, 0) 4 ≤ j + 1)
def zMdD (l : Launch) (Δ : zDl) (ym : MethodName) (bm : ByteArray) (mlm : Nat) (vs : List Value) (ad1 : zK → Nat) (P1 : zP) (T1 : zS) (w : Int64) (wd1 : UInt64) (k j : Int) : Prop :=
  ∃ d2 mc2 ms2, zRq d2 mc2 ms2 ∧ zMn l Δ ym bm mlm (some .double) d2 mc2 ms2 (.ref (ad1 (40, 0, 0, 0)) :: vs) ad1 (mm Δ ad1 P1 T1 (zXl Δ w wd1)) (fun v ad2 M2 => ∃ (b : UInt64) (P2 : zP) (T2 : zS), v = some (.double b) ∧ M2 = mm Δ ad2 P2 T2 (zXl Δ w wd1) ∧ zKp ad1 ad2 ∧ T2 (40, 0, 0, 0) 0 = k ∧ (k = 0 → wd1 = b) ∧ xJ P2 T2 T2 ∧ T2 (0, 0, 0, 0) 4 ≤ j + 1)
set_option maxHeartbeats 1000000 in
set_option maxRecDepth 100000 in
theorem s_join {l : Launch} {Δ : zDl} {g r b : Int} (hst : l.stackTraces = false) (hr_g : zR g) (hr_r : zR r) (hb : b = 0 ∨ b = 1) (P : zP) (T : zS) (j : Int) (w : Int64) (wd : UInt64) (ad : zK → Nat) (hJ : xJ P T T) (hj : T (0, 0, 0, 0) 4 ≤ j) (hj2 : j ≤ 512) :
    ∃ d1 mc1 ms1, zRq1 d1 mc1 ms1 ∧ zMh l Δ yL_join cL_join 6 (some .int) [(0, 19, 22, 21)] d1 mc1 ms1 [.ref (ad (0, 0, 0, 0)), .int (zI g), .int (zI r), .int (zI b), .ref (ad (82, 0, 0, 0))] ad (mm Δ ad P T (zXl Δ w wd)) (fun v ad1 M1 => ∃ (k : Int) (P1 : zP) (T1 : zS) (w1 : Int64), v = some (.int (zI k)) ∧ (0 ≤ k ∧ k ≤ 3) ∧ M1 = mm Δ ad1 P1 T1 (zXl Δ w1 wd) ∧ zKp ad ad1 ∧ zMdJ l Δ yX7_join cX7_join 10 [.int (zI g), .int (zI r), .int (zI b)] ad1 P1 T1 w1 wd k j) := by
  have hP := hJ.2.2.2.2.2.2
  have hW := hJ.2.2.2.2.1
  have hV := hJ.2.2.2.2.2.1
  have hr_b : zR b := ⟨by omega, by omega⟩
  by_cases c1 : (0 ≤ g ∧ g < P 3 0 0) ∧ (0 ≤ r ∧ r < 6)
  · obtain ⟨hg, hr⟩ := c1
    obtain ⟨e68, e01⟩ := hJ.1.1.G g r hg hr.1 hr.2
    have F1 : zfr kC T (lp (zsf P g) 0 (P 1 (P 4 g 0) 0) (zst T (17, g, 0, 0) r b)) := ((zfr.rf.st rfl).tr (lp_fr (fun p s => zsf_fr rfl rfl rfl)))
    have hS := zfr00_40 (kC_00 F1)
    have hV1 : zWM P (lp (zsf P g) 0 (P 1 (P 4 g 0) 0) (zst T (17, g, 0, 0) r b)) := zWM_M hS hV
    have hJ1 := xJ_th (v := 0) (xJ_M hS hJ) zR_0
    refine ⟨9 + 1, 0, 0, ⟨by decide, by decide, by decide⟩, (h_join (w0 := w) (post := fun r2 ad' M' => r2 = T (17, g, 0, 0) r ∧ ad' = ad ∧ M' = mm Δ ad P (lp (zsf P g) 0 (P 1 (P 4 g 0) 0) (zst T (17, g, 0, 0) r b)) (zXl Δ w wd)) mg_0 zXl_82 (c_X6_join hP hg hW hr hb e01) (fun v ad' M' h => by obtain ⟨rfl, rfl, rfl⟩ := h; exact ⟨_, rfl, hW.R _ _, rfl, zXl_82, rfl, rfl, rfl⟩)).mono (fun v ad1 M1 h => ?_)⟩
    obtain ⟨rfl, r2, M0, -, ⟨rfl, rfl, rfl⟩, rfl⟩ := h
    by_cases c2 : T (68, 0, 0, 0) (g * 6 + r) = b
    · refine ⟨0, P, (lp (zsf P g) 0 (P 1 (P 4 g 0) 0) (zst T (17, g, 0, 0) r b)), _, rfl, ⟨by decide, by decide⟩, zXl_s, zKp.rf, 9, 0, 0, ⟨by decide, by decide, by decide⟩, (c_X7_join_s (Q := P) hV1 rfl zXl_90 hg hr hb (by rw [hS 68 _ (by decide)]; exact c2)).mono (fun v ad2 M2 h => ?_)⟩
      obtain ⟨rfl, rfl, rfl⟩ := h
      have hT : (lp (zsf P g) 0 (P 1 (P 4 g 0) 0) (zst T (17, g, 0, 0) r b)) = T := by
        have h9 := o_join_s hJ (r := r) hg
        rw [← e68, c2] at h9
        exact h9
      have hJ3 : xJ P (lp (zsf P g) 0 (P 1 (P 4 g 0) 0) (zst T (17, g, 0, 0) r b)) (zst (lp (zsf P g) 0 (P 1 (P 4 g 0) 0) (zst T (17, g, 0, 0) r b)) (40, 0, 0, 0) 0 0) := by
        have h9 := hJ1
        rw [hT] at h9 ⊢
        exact h9
      refine ⟨b, P, nz (lp (zsf P g) 0 (P 1 (P 4 g 0) 0) (zst T (17, g, 0, 0) r b)) (zst (lp (zsf P g) 0 (P 1 (P 4 g 0) 0) (zst T (17, g, 0, 0) r b)) (40, 0, 0, 0) 0 0), rfl, hr_b, mm_nz (zfr.rf.st rfl), zKp.rf, ?_, fun _ => by rw [← e68, c2], xJ_nz hJ3, ?_⟩
      · rw [nz_ge (by decide), zst_s]
      · rw [nz_lt rfl, F1 (0, 0, 0, 0) 4 rfl]; omega
    · refine ⟨0, P, (lp (zsf P g) 0 (P 1 (P 4 g 0) 0) (zst T (17, g, 0, 0) r b)), _, rfl, ⟨by decide, by decide⟩, zXl_s, zKp.rf, 9, 1, 4, ⟨by decide, by decide, by decide⟩, (c_X7_join_o (Q := P) hV1 rfl zXl_90 hg hr hb (by rw [hS 68 _ (by decide)]; exact c2)).mono (fun v ad2 M2 h => ?_)⟩
      obtain ⟨rfl, rfl, rfl⟩ := h
      have hJ3 := o_join hJ1 hg hr hb
      have hA : fr aM (zst (lp (zsf P g) 0 (P 1 (P 4 g 0) 0) (zst T (17, g, 0, 0) r b)) (40, 0, 0, 0) 0 0) _ := ((fr.rf.st (k := (68, 0, 0, 0)) (f := g * 6 + r) (v := b) rfl).tr (zfr_aM (mj3_kM (Q := P) (F := msh P (zst (zst (lp (zsf P g) 0 (P 1 (P 4 g 0) 0) (zst T (17, g, 0, 0) r b)) (40, 0, 0, 0) 0 0) (68, 0, 0, 0) (g * 6 + r) b) g) (g := g) (a := 0) (n := P 1 (P 4 g 0) 0)))).tr (msa_aM (Q := P))
      refine ⟨_, P, nz (lp (zsf P g) 0 (P 1 (P 4 g 0) 0) (zst T (17, g, 0, 0) r b)) _, rfl, hV1.2.2 68 _ (by decide) |>.1, mm_nz (aM_k hA).1, zKp.rf, ?_, fun _ => by rw [hS 68 _ (by decide), e68], xJ_nz hJ3, ?_⟩
      · rw [nz_ge (by decide), (aM_k hA).2]
      · rw [nz_lt rfl, F1 (0, 0, 0, 0) 4 rfl]; omega
  · refine ⟨9 + 1, 1, 6, ⟨by decide, by decide, by decide⟩, (h_join_1 mg_0 (c_X6_join_x (by first | assumption | rfl) (by first | assumption | rfl) (by first | assumption | rfl) (by first | assumption | rfl) (by first | assumption | rfl) (by first | assumption | rfl))).mono (fun v ad1 M1 h => ?_)⟩
    obtain ⟨rfl, rfl, rfl⟩ := h
    refine ⟨1, P, T, w, rfl, ⟨by decide, by decide⟩, rfl, zKp.rf, 9, 0, 0, ⟨by decide, by decide, by decide⟩, (c_X7_join_x (Q := P) (by first | assumption | rfl) (by first | assumption | rfl) zXl_90 (by first | assumption | rfl) (by first | assumption | rfl) (by first | assumption | rfl) (by first | assumption | rfl)).mono (fun v ad2 M2 h => ?_)⟩
    obtain ⟨rfl, rfl, rfl⟩ := h
    refine ⟨0, P, nz T (zst T (40, 0, 0, 0) 0 1), rfl, zR_0, mm_nz (zfr.rf.st rfl), zKp.rf, ?_, fun q => absurd q (by decide), xJ_nz (xJ_th hJ ⟨by decide, by decide⟩), ?_⟩
    · rw [nz_ge (by decide), zst_s]
    · rw [nz_lt rfl]; omega
set_option maxHeartbeats 1000000 in
set_option maxRecDepth 100000 in
theorem s_meanTries {l : Launch} {Δ : zDl} {g : Int} (hst : l.stackTraces = false) (hr_g : zR g) (P : zP) (T : zS) (j : Int) (w : Int64) (wd : UInt64) (ad : zK → Nat) (hJ : xJ P T T) (hj : T (0, 0, 0, 0) 4 ≤ j) (hj2 : j ≤ 512) :
    ∃ d1 mc1 ms1, zRq1 d1 mc1 ms1 ∧ zMh l Δ yL_meanTries cL_meanTries 4 (some .int) [(0, 8, 11, 21)] d1 mc1 ms1 [.ref (ad (0, 0, 0, 0)), .int (zI g), .ref (ad (83, 0, 0, 0))] ad (mm Δ ad P T (zXl Δ w wd)) (fun v ad1 M1 => ∃ (k : Int) (P1 : zP) (T1 : zS) (wd1 : UInt64), v = some (.int (zI k)) ∧ (0 ≤ k ∧ k ≤ 3) ∧ M1 = mm Δ ad1 P1 T1 (zXl Δ w wd1) ∧ zKp ad ad1 ∧ zMdD l Δ yX7_meanTries cX7_meanTries 4 [.int (zI g)] ad1 P1 T1 w wd1 k j) := by
  have hP := hJ.2.2.2.2.2.2
  have hW := hJ.2.2.2.2.1
  have hV := hJ.2.2.2.2.2.1
  by_cases c1 : 0 ≤ g ∧ g < P 3 0 0
  · have e1 := a_sum (xJ_th (v := 0) hJ zR_0) c1
    have e2 := a_aside (xJ_th (v := 0) hJ zR_0) (x := 3) c1 (by decide)
    have hV0 : zWM P (zst T (40, 0, 0, 0) 0 0) := (xJ_th (v := 0) hJ zR_0).2.2.2.2.2.1
    refine ⟨9 + 1, 0, 0, ⟨by decide, by decide, by decide⟩, (h_meanTries (w0 := wd) (post := fun r2 ad' M' => r2 = zmd (sm (fun p => zsu P T g p) 0 (P 1 (P 4 g 0) 0)) (sm (fun p => zco P T g 3 p) 0 (P 1 (P 4 g 0) 0)) ∧ ad' = ad ∧ M' = mm Δ ad P T (zXl Δ w wd)) mg_0 zXl_83 (c_X6_meanTries hP c1 hW (by rw [e1]; exact msu_le hV0) (by rw [e2]; exact mco_le hV0)) (fun v ad' M' h => by obtain ⟨rfl, rfl, rfl⟩ := h; exact ⟨_, rfl, rfl, zXl_83, rfl, rfl, rfl⟩)).mono (fun v ad1 M1 h => ?_)⟩
    obtain ⟨rfl, r2, M0, ⟨rfl, rfl, rfl⟩, rfl⟩ := h
    refine ⟨0, P, T, _, rfl, ⟨by decide, by decide⟩, zXl_d, zKp.rf, 9, 0, 0, ⟨by decide, by decide, by decide⟩, (c_X7_meanTries (Q := P) hV c1 rfl).mono (fun v ad2 M2 h => ?_)⟩
    obtain ⟨rfl, rfl, rfl⟩ := h
    refine ⟨_, P, nz T (zst T (40, 0, 0, 0) 0 0), rfl, mm_nz (zfr.rf.st rfl), zKp.rf, ?_, fun _ => by rw [e1, e2], xJ_nz (xJ_th hJ zR_0), ?_⟩
    · rw [nz_ge (by decide), zst_s]
    · rw [nz_lt rfl]; omega
  · refine ⟨9 + 1, 1, 6, ⟨by decide, by decide, by decide⟩, (h_meanTries_1 mg_0 (c_X6_meanTries_x (by first | assumption | rfl) (by first | assumption | rfl) (by first | assumption | rfl) (by first | assumption | rfl) (by first | assumption | rfl))).mono (fun v ad1 M1 h => ?_)⟩
    obtain ⟨rfl, rfl, rfl⟩ := h
    refine ⟨1, P, T, wd, rfl, ⟨by decide, by decide⟩, rfl, zKp.rf, 9, 0, 0, ⟨by decide, by decide, by decide⟩, (c_X7_meanTries_x (Q := P) (by first | assumption | rfl) (by first | assumption | rfl) (by first | assumption | rfl)).mono (fun v ad2 M2 h => ?_)⟩
    obtain ⟨rfl, rfl, rfl⟩ := h
    refine ⟨_, P, nz T (zst T (40, 0, 0, 0) 0 1), rfl, mm_nz (zfr.rf.st rfl), zKp.rf, ?_, fun q => absurd q (by decide), xJ_nz (xJ_th hJ ⟨by decide, by decide⟩), ?_⟩
    · rw [nz_ge (by decide), zst_s]
    · rw [nz_lt rfl]; omega
