/-! ===== the law's begin, group ===== -/
theorem zPb_xJ {P : zP} {S M : zS} (hX : xX P S M) (hL : rL S M) (hZ : xZ P S) (hY : xY P S) (hW : zWS P S) (hV : zWM (zPb P) M) (hP : zWP P) : xJ (zPb P) S M := by
  refine ⟨?_, hL, ?_, ?_, ?_, hV, ?_⟩
  · show xX (zPb P) S M
    exact hX
  · show xZ (zPb P) S
    exact hZ
  · show xY (zPb P) S
    exact hY
  · show zWS (zPb P) S
    exact hW
  · show zWP (zPb P)
    exact hP
section MBG
variable {S : zS} {x n : Int}
theorem mbg_fr : fr eM (zst S (40, 0, 0, 0) 0 0) (mbg S x n) := by
  unfold mbg
  refine ((fr.tr (T := zup1 (zst S (40, 0, 0, 0) 0 0) (61, 0, 0, 0) (zcp (S (61, 0, 0, 0)) (fun _ => 0) 0 0 n)) (fun k f hk => ?_) (fr.rf.st rfl)).st rfl).st rfl
  rw [zup1_n _ _ (fun q => by rw [q] at hk; cases hk)]
theorem mbg_61 {f : Int} (h0 : 0 ≤ f) (h1 : f < n) : mbg S x n (61, 0, 0, 0) f = zst S (40, 0, 0, 0) 0 0 (61, 0, 0, 0) f := by
  unfold mbg
  rw [zst_f _ _ _ (by omega), zst_k _ _ _ _ (by simp), zst_k _ _ _ _ (by simp), zup1_s, zst_k _ _ _ _ (by simp)]
  unfold zcp
  rw [if_pos ⟨h0, by omega⟩]
  congr 1
  omega
theorem mbg_61s : mbg S x n (61, 0, 0, 0) n = 0 := zst_s _ _ _ _
theorem mbg_62 {f : Int} : mbg S x n (62, 0, 0, 0) f = if f = x then n else zst S (40, 0, 0, 0) 0 0 (62, 0, 0, 0) f := by
  unfold mbg
  rw [zst_k _ _ _ _ (by simp), zst_k _ _ _ _ (by simp), zst_at, zup1_n _ _ (by simp)]
  by_cases hf : f = x
  · rw [if_pos ⟨rfl, hf⟩, if_pos hf]
  · rw [if_neg (fun q => hf q.2), if_neg hf]
theorem mbg_20 : mbg S x n (40, 0, 0, 0) 20 = n + 1 := by
  unfold mbg
  rw [zst_k _ _ _ _ (by simp), zst_s]
theorem mbg_aM : fr aM (zst S (40, 0, 0, 0) 0 0) (mbg S x n) := by
  unfold mbg
  refine ((fr.tr (T := zup1 (zst S (40, 0, 0, 0) 0 0) (61, 0, 0, 0) (zcp (S (61, 0, 0, 0)) (fun _ => 0) 0 0 n)) (fun k f hk => ?_) (fr.rf.st rfl)).st rfl).st rfl
  rw [zup1_n _ _ (fun q => by rw [q] at hk; cases hk)]
theorem zWM_Pb {P : zP} {S : zS} (h : zWM P S) (h8 : P 61 0 0 ≤ 1024) : zWM (zPb P) S := by
  obtain ⟨⟨q1, q2, q3, q4, q5, q6⟩, h2, h3⟩ := h
  refine ⟨⟨q1, q2, q3, q4, q5, ?_⟩, h2, fun n f hn => ⟨(h3 n f hn).1, ?_⟩⟩
  · rw [zPb_61]; omega
  · have h9 := (h3 n f hn).2
    unfold zmB at h9 ⊢
    rw [zPb_61]
    refine ⟨h9.1, h9.2.1, h9.2.2.1, h9.2.2.2.1, h9.2.2.2.2.1, h9.2.2.2.2.2.1, h9.2.2.2.2.2.2.1, h9.2.2.2.2.2.2.2.1, h9.2.2.2.2.2.2.2.2.1, h9.2.2.2.2.2.2.2.2.2.1, fun e => ?_, h9.2.2.2.2.2.2.2.2.2.2.2.1, h9.2.2.2.2.2.2.2.2.2.2.2.2.1, fun e => ?_, h9.2.2.2.2.2.2.2.2.2.2.2.2.2.2.1, h9.2.2.2.2.2.2.2.2.2.2.2.2.2.2.2.1, h9.2.2.2.2.2.2.2.2.2.2.2.2.2.2.2.2.1, h9.2.2.2.2.2.2.2.2.2.2.2.2.2.2.2.2.2.1, h9.2.2.2.2.2.2.2.2.2.2.2.2.2.2.2.2.2.2.1, h9.2.2.2.2.2.2.2.2.2.2.2.2.2.2.2.2.2.2.2.1, h9.2.2.2.2.2.2.2.2.2.2.2.2.2.2.2.2.2.2.2.2.1, h9.2.2.2.2.2.2.2.2.2.2.2.2.2.2.2.2.2.2.2.2.2.1, h9.2.2.2.2.2.2.2.2.2.2.2.2.2.2.2.2.2.2.2.2.2.2.1, h9.2.2.2.2.2.2.2.2.2.2.2.2.2.2.2.2.2.2.2.2.2.2.2.1, h9.2.2.2.2.2.2.2.2.2.2.2.2.2.2.2.2.2.2.2.2.2.2.2.2.1, h9.2.2.2.2.2.2.2.2.2.2.2.2.2.2.2.2.2.2.2.2.2.2.2.2.2.1, fun e => ?_, h9.2.2.2.2.2.2.2.2.2.2.2.2.2.2.2.2.2.2.2.2.2.2.2.2.2.2.2⟩
    · have := h9.2.2.2.2.2.2.2.2.2.2.1 e; omega
    · have := h9.2.2.2.2.2.2.2.2.2.2.2.2.2.1 e; omega
    · have := h9.2.2.2.2.2.2.2.2.2.2.2.2.2.2.2.2.2.2.2.2.2.2.2.2.2.2.1 e; omega
theorem zcp_R {F : Int → Int} (h : ∀ f, zR (F f)) {n : Int} : ∀ f, zR (zcp F (fun _ => 0) 0 0 n f) := fun f => by
  unfold zcp
  split
  · exact h _
  · exact zR_0
theorem zWM_row61 {Q : zP} {F : Int → Int} (h : zWM Q S) (hF : ∀ f, zR (F f)) : zWM Q (zup1 S (61, 0, 0, 0) F) := by
  have e : ∀ (n : Nat) f, ¬ n = 61 → zup1 S (61, 0, 0, 0) F (n, 0, 0, 0) f = S (n, 0, 0, 0) f := fun n f hn => by rw [zup1_n _ _ (fun q => hn (congrArg Prod.fst q))]
  obtain ⟨h1, ⟨a1, a2, a3, a4, a5⟩, h3⟩ := h
  refine ⟨h1, ⟨by rw [e _ _ (by decide)]; exact a1, by rw [e _ _ (by decide)]; exact a2, fun t ht => by rw [e _ _ (by decide)]; exact a3 t ht, fun t p ht hp => by rw [e _ _ (by decide)]; exact a4 t p ht hp, fun g hg => by rw [e _ _ (by decide)]; exact a5 g hg⟩, fun n f hn => ?_⟩
  by_cases hq : n = 61
  · subst hq
    have h61 := zWM.s61 (Q := Q) (S := S) (i := f) (v := F f) ⟨h1, ⟨a1, a2, a3, a4, a5⟩, h3⟩ (hF f)
    have h9 := h61.2.2 61 f hn
    rw [zst_s] at h9
    rw [zup1_s]
    exact h9
  · rw [e n f hq]; exact h3 n f hn
theorem mbg_V {P : zP} (h : zWM P S) (hx : S (62, 0, 0, 0) x = -1) (hn : S (40, 0, 0, 0) 20 = P 61 0 0) (h8 : P 61 0 0 ≤ 1024) : zWM (zPb P) (mbg S x (S (40, 0, 0, 0) 20)) := by
  have hq := h.q
  have b := h.f20
  unfold mbg
  have h1 := zWM_row61 (zWM_Pb (h.s40_0 zR_0) h8) (F := zcp (S (61, 0, 0, 0)) (fun _ => 0) 0 0 (S (40, 0, 0, 0) 20)) (zcp_R (fun f => (h.2.2 61 f (by decide)).1))
  exact (((h1.s62 (by rw [zPb_61]; omega)).s40_20 (by rw [zPb_61]; omega)).s61 zR_0)
def mbn (S : zS) (x n : Int) : zS := zst (zst (zst (zst S (40, 0, 0, 0) 0 0) (62, 0, 0, 0) x n) (40, 0, 0, 0) 20 (n + 1)) (61, 0, 0, 0) n 0
theorem mbn_fr : fr eM (zst S (40, 0, 0, 0) 0 0) (mbn S x n) := ((fr.rf.st rfl).st rfl).st rfl
theorem mbn_61 {f : Int} (h1 : f < n) : mbn S x n (61, 0, 0, 0) f = zst S (40, 0, 0, 0) 0 0 (61, 0, 0, 0) f := by
  unfold mbn
  rw [zst_f _ _ _ (by omega), zst_k _ _ _ _ (by simp), zst_k _ _ _ _ (by simp)]
theorem mbn_61s : mbn S x n (61, 0, 0, 0) n = 0 := zst_s _ _ _ _
theorem mbn_62 {f : Int} : mbn S x n (62, 0, 0, 0) f = if f = x then n else zst S (40, 0, 0, 0) 0 0 (62, 0, 0, 0) f := by
  unfold mbn
  rw [zst_k _ _ _ _ (by simp), zst_k _ _ _ _ (by simp), zst_at]
  by_cases hf : f = x
  · rw [if_pos ⟨rfl, hf⟩, if_pos hf]
  · rw [if_neg (fun q => hf q.2), if_neg hf]
theorem mbn_20 : mbn S x n (40, 0, 0, 0) 20 = n + 1 := by
  unfold mbn
  rw [zst_k _ _ _ _ (by simp), zst_s]
theorem mbn_aM : fr aM (zst S (40, 0, 0, 0) 0 0) (mbn S x n) := ((fr.rf.st rfl).st rfl).st rfl
end MBG
set_option maxHeartbeats 1000000 in
set_option maxRecDepth 100000 in
theorem s_begin {l : Launch} {Δ : zDl} {x : Int} (hst : l.stackTraces = false) (hr_x : zR x) : zCs l Δ yL_begin cL_begin 4 [(0, 9, 12, 21), (0, 9, 15, 15)] yX7_begin cX7_begin 3 .int [.int (zI x)] := by
  intro P T j w wd ad hJ hj hj2
  have hP := hJ.2.2.2.2.2.2
  have hW := hJ.2.2.2.2.1
  have hV := hJ.2.2.2.2.2.1
  by_cases c1 : 0 ≤ x ∧ x < 4
  · have e62 := (hJ.1.1.D x c1.1 c1.2).1
    have e20 := hJ.1.1.A.2.2.2.2
    have b20 := hV.f20
    by_cases c2 : T (3, 0, 0, 0) x = 0
    · have c3 : T (62, 0, 0, 0) x = -1 := e62.mp c2
      have F1 : zfr k00 T (zst (zst T (3, 0, 0, 0) x 1) (0, 0, 0, 0) 4 (T (0, 0, 0, 0) 4 + 1)) := (zfr.rf.st rfl).st rfl
      have hS1 := zfr00_40 F1
      have hJ2 := xJ_th (v := 0) (xJ_M hS1 hJ) zR_0
      have hV2 : zWM P (zst (zst T (3, 0, 0, 0) x 1) (0, 0, 0, 0) 4 (T (0, 0, 0, 0) 4 + 1)) := zWM_M hS1 hV
      have hT62 : (zst (zst T (3, 0, 0, 0) x 1) (0, 0, 0, 0) 4 (T (0, 0, 0, 0) 4 + 1)) (62, 0, 0, 0) x = -1 := by rw [hS1 62 _ (by decide)]; exact c3
      have hT20 := hS1 40 20 (by decide)
      by_cases c4 : T (40, 0, 0, 0) 20 < P 61 0 0
      · have h := o_begin (M1 := (mbn (zst (zst T (3, 0, 0, 0) x 1) (0, 0, 0, 0) 4 (T (0, 0, 0, 0) 4 + 1)) x ((zst (zst T (3, 0, 0, 0) x 1) (0, 0, 0, 0) 4 (T (0, 0, 0, 0) 4 + 1)) (40, 0, 0, 0) 20))) hJ2 c1 ((zst_k _ _ _ _ (by simp)).trans hT62) mbn_fr (fun f f0 f1 => mbn_61 (by rw [zst_f _ _ _ (show (20 : Int) ≠ 0 by decide)] at f1; exact f1)) (by rw [zst_f (zst (zst T (3, 0, 0, 0) x 1) (0, 0, 0, 0) 4 (T (0, 0, 0, 0) 4 + 1)) _ _ (show (20 : Int) ≠ 0 by decide)]; exact mbn_61s) (fun f => by rw [zst_f (zst (zst T (3, 0, 0, 0) x 1) (0, 0, 0, 0) 4 (T (0, 0, 0, 0) 4 + 1)) _ _ (show (20 : Int) ≠ 0 by decide)]; exact mbn_62) (by rw [zst_f (zst (zst T (3, 0, 0, 0) x 1) (0, 0, 0, 0) 4 (T (0, 0, 0, 0) 4 + 1)) _ _ (show (20 : Int) ≠ 0 by decide)]; exact mbn_20)
        have hVm : zWM P (mbn (zst (zst T (3, 0, 0, 0) x 1) (0, 0, 0, 0) 4 (T (0, 0, 0, 0) 4 + 1)) x ((zst (zst T (3, 0, 0, 0) x 1) (0, 0, 0, 0) 4 (T (0, 0, 0, 0) 4 + 1)) (40, 0, 0, 0) 20)) := (((hV2.s40_0 zR_0).s62 ⟨by omega, by omega⟩).s40_20 ⟨by omega, by omega⟩).s61 zR_0
        exact st_b (S1 := (zst (zst T (3, 0, 0, 0) x 1) (0, 0, 0, 0) 4 (T (0, 0, 0, 0) 4 + 1))) hJ hj (fun ad M d mc ms fs w0 P0 post h0 h82 hm hP0 => h_begin h0 h82 hm hP0) ((zfr.rf.st rfl).st rfl) (by rw [zst_s]; exact Int.le_refl _) (mbn_aM (x := x) (n := ((zst (zst T (3, 0, 0, 0) x 1) (0, 0, 0, 0) 4 (T (0, 0, 0, 0) 4 + 1)) (40, 0, 0, 0) 20))) (fun hJ1 => ⟨⟨h.1, h.2.1, h.2.2.1, h.2.2.2.1, h.2.2.2.2.1, hVm, hP⟩, by rw [hT20, e20]⟩) (c_X6_begin (by first | assumption | rfl) (by first | assumption | rfl) (by first | assumption | rfl) (by first | assumption | rfl)) (fun hV1 hS X9 hX90 => c_X7_begin (Q := P) (S := (zst (zst T (3, 0, 0, 0) x 1) (0, 0, 0, 0) 4 (T (0, 0, 0, 0) 4 + 1))) (by first | assumption | rfl) (by first | assumption | rfl) (by first | assumption | rfl) (by rw [hS 62 _ (by decide)]; exact c3) (by rw [hS 40 _ (by decide)]; exact c4)) ⟨⟨by decide, by decide, by decide⟩, ⟨by decide, by decide, by decide⟩⟩
      · have c5 : T (40, 0, 0, 0) 20 = P 61 0 0 := by omega
        have h := o_begin (M1 := (mbg (zst (zst T (3, 0, 0, 0) x 1) (0, 0, 0, 0) 4 (T (0, 0, 0, 0) 4 + 1)) x ((zst (zst T (3, 0, 0, 0) x 1) (0, 0, 0, 0) 4 (T (0, 0, 0, 0) 4 + 1)) (40, 0, 0, 0) 20))) hJ2 c1 ((zst_k _ _ _ _ (by simp)).trans hT62) mbg_fr (fun f f0 f1 => mbg_61 f0 (by rw [zst_f _ _ _ (show (20 : Int) ≠ 0 by decide)] at f1; exact f1)) (by rw [zst_f (zst (zst T (3, 0, 0, 0) x 1) (0, 0, 0, 0) 4 (T (0, 0, 0, 0) 4 + 1)) _ _ (show (20 : Int) ≠ 0 by decide)]; exact mbg_61s) (fun f => by rw [zst_f (zst (zst T (3, 0, 0, 0) x 1) (0, 0, 0, 0) 4 (T (0, 0, 0, 0) 4 + 1)) _ _ (show (20 : Int) ≠ 0 by decide)]; exact mbg_62) (by rw [zst_f (zst (zst T (3, 0, 0, 0) x 1) (0, 0, 0, 0) 4 (T (0, 0, 0, 0) 4 + 1)) _ _ (show (20 : Int) ≠ 0 by decide)]; exact mbg_20)
        have hVm := mbg_V hV2 hT62 (by rw [hT20]; exact c5) (by omega)
        have hJm : xJ (zPb P) (zst (zst T (3, 0, 0, 0) x 1) (0, 0, 0, 0) 4 (T (0, 0, 0, 0) 4 + 1)) (mbg (zst (zst T (3, 0, 0, 0) x 1) (0, 0, 0, 0) 4 (T (0, 0, 0, 0) 4 + 1)) x ((zst (zst T (3, 0, 0, 0) x 1) (0, 0, 0, 0) 4 (T (0, 0, 0, 0) 4 + 1)) (40, 0, 0, 0) 20)) := zPb_xJ h.1 h.2.1 h.2.2.1 h.2.2.2.1 h.2.2.2.2.1 hVm hP
        obtain ⟨z, hz, ez⟩ := zI_of (zI (T (0, 0, 0, 0) 4 + 1))
        refine ⟨9 + 1, 0, 0, ⟨by decide, by decide, by decide⟩, (h_begin (P0 := zD (some (.int (zI (T (0, 0, 0, 0) 4 + 1)))) ad (mm Δ ad P (zst (zst T (3, 0, 0, 0) x 1) (0, 0, 0, 0) 4 (T (0, 0, 0, 0) 4 + 1)) (zXl Δ w wd))) (w0 := w) (post := fun r2 ad' M' => r2 = z ∧ ad' = ad ∧ M' = mm Δ ad P (zst (zst T (3, 0, 0, 0) x 1) (0, 0, 0, 0) 4 (T (0, 0, 0, 0) 4 + 1)) (zXl Δ w wd)) mg_0 zXl_82 (c_X6_begin hP hW c1 c2) (fun v ad' M' h => by obtain ⟨rfl, rfl, rfl⟩ := h; exact ⟨z, by rw [ez], hz, rfl, zXl_82, rfl, rfl, rfl⟩)).mono (fun v ad1 M1 h => ?_)⟩
        obtain ⟨rfl, r2, M3, -, ⟨rfl, rfl, rfl⟩, rfl⟩ := h
        refine ⟨0, P, (zst (zst T (3, 0, 0, 0) x 1) (0, 0, 0, 0) 4 (T (0, 0, 0, 0) 4 + 1)), zL r2, rfl, ⟨by omega, by omega⟩, zXl_s, zKp.rf, 9, 1, 2048, ⟨by decide, by decide, by decide⟩, (c_X7_begin_g (Q := P) hV2 rfl c1 hT62 (by rw [hT20]; exact c5) (by omega) zXl_90).mono (fun v ad2 M2' h => ?_)⟩
        obtain ⟨rfl, rfl, hk⟩ := h
        refine ⟨r2, zPb P, nz (zst (zst T (3, 0, 0, 0) x 1) (0, 0, 0, 0) 4 (T (0, 0, 0, 0) 4 + 1)) (mbg (zst (zst T (3, 0, 0, 0) x 1) (0, 0, 0, 0) 4 (T (0, 0, 0, 0) 4 + 1)) x ((zst (zst T (3, 0, 0, 0) x 1) (0, 0, 0, 0) 4 (T (0, 0, 0, 0) 4 + 1)) (40, 0, 0, 0) 20)), by rw [hT20, e20, ez], hz, mm_nz (aM_k mbg_aM).1, ⟨hk _ (by simp) (by simp), hk _ (by simp) (by simp), hk _ (by simp) (by simp), hk _ (by simp) (by simp)⟩, ?_, fun _ => rfl, xJ_nz hJm, ?_⟩
        · rw [nz_ge (by decide), (aM_k mbg_aM).2]
        · rw [nz_lt rfl, zst_s]; omega
    · exact st_no hJ hj (by decide) (fun ad M d mc ms fs h0 hm => h_begin_2 h0 hm) (c_X6_begin_y (by first | assumption | rfl) (by first | assumption | rfl) (by first | assumption | rfl) (by first | assumption | rfl) (by first | assumption | rfl)) (fun hX90 => c_X7_begin_y (Q := P) (by first | assumption | rfl) (by first | assumption | rfl) (by first | assumption | rfl) (fun q => c2 (e62.mpr q))) ⟨⟨by decide, by decide, by decide⟩, ⟨by decide, by decide, by decide⟩⟩
  · exact st_no hJ hj (by decide) (fun ad M d mc ms fs h0 hm => h_begin_1 h0 hm) (c_X6_begin_x (by first | assumption | rfl) (by first | assumption | rfl) (by first | assumption | rfl) (by first | assumption | rfl) (by first | assumption | rfl)) (fun hX90 => c_X7_begin_x (Q := P) (by first | assumption | rfl) (by first | assumption | rfl) (by first | assumption | rfl) (by first | assumption | rfl)) ⟨⟨by decide, by decide, by decide⟩, ⟨by decide, by decide, by decide⟩⟩
