/-! ===== the law's acts that make something ===== -/
section STG
variable {l : Launch} {Δ : zDl} {yw yc ym : MethodName} {bw bc bm : ByteArray} {mlw mlc mlm : Nat} {hh : List (Nat × Nat × Nat × Nat)} {rt : FieldType} {vs : List Value} {P : zP} {T : zS} {j : Int} {w : Int64} {wd : UInt64} {ad : zK → Nat}
theorem st_g {d mc ms d2 mc2 ms2 : Nat} {r : Int} {n0 : Int} {P2 : Int → zP} {S2 M2 : Int → Int → zS} (hJ : xJ P T T) (hj : T (0, 0, 0, 0) 4 ≤ j) (ho : zWo l Δ yw bw mlw hh yc bc mlc vs) (hR : zR r)
    (h1 : ∀ {X : zMem}, X (90, 0, 0, 0) = none → X (91, 0, 0, 0) = none → zMn l Δ yc bc mlc (some .int) d mc ms (.ref (ad (0, 0, 0, 0)) :: vs) ad (mm Δ ad P T X) (fun v ad' M' => v = some (.int (zI r)) ∧ ∃ c z : Int, (n0 < c ∧ c ≤ 200) ∧ zR z ∧ M' = mm Δ ad' (P2 c) (S2 c z) X ∧ ∀ k : zK, (k.1 = 0 ∨ 40 ≤ k.1) → k ≠ (91, 0, 0, 0) → ad' k = ad k))
    (hfr : ∀ c z, zfr k00 T (S2 c z)) (h4 : ∀ c z, S2 c z (0, 0, 0, 0) 4 ≤ T (0, 0, 0, 0) 4 + 1) (hM : ∀ c z, fr aM (zst (S2 c z) (40, 0, 0, 0) 0 0) (M2 c z)) (hO : ∀ c z, (n0 < c ∧ c ≤ 200) → zR z → xJ P T (zst (S2 c z) (40, 0, 0, 0) 0 0) → xJ (P2 c) (S2 c z) (M2 c z))
    (h2 : ∀ c z, (n0 < c ∧ c ≤ 200) → zR z → zWM P (S2 c z) → (∀ (n : Nat) (f : Int), 40 ≤ n → S2 c z (n, 0, 0, 0) f = T (n, 0, 0, 0) f) → ∀ (ad1 : zK → Nat) {X : zMem}, X (90, 0, 0, 0) = none → zMn l Δ ym bm mlm (some rt) d2 mc2 ms2 (.ref (ad1 (40, 0, 0, 0)) :: vs) ad1 (mm Δ ad1 (P2 c) (S2 c z) X) (zD (some (.int (zI r))) ad1 (mm Δ ad1 (P2 c) (M2 c z) X))) (hr : zRq1 (d + 1) mc ms ∧ zRq d2 mc2 ms2) : zCa l Δ yw bw mlw hh ym bm mlm rt vs P T j w wd ad := by
  refine ⟨d + 1, mc, ms, hr.1, (ho ad _ d mc ms _ w _ (fun r2 ad' M' => r2 = r ∧ ∃ c z : Int, (n0 < c ∧ c ≤ 200) ∧ zR z ∧ M' = mm Δ ad' (P2 c) (S2 c z) (zXl Δ w wd) ∧ ∀ k : zK, (k.1 = 0 ∨ 40 ≤ k.1) → k ≠ (91, 0, 0, 0) → ad' k = ad k) mg_0 zXl_82 (h1 zXl_90 zXl_91) (fun v ad' M' h => by
      obtain ⟨rfl, c, z, hc, hz, rfl, hk⟩ := h
      exact ⟨_, rfl, hR, hk _ (Or.inr (by decide)) (by simp), zXl_82, rfl, c, z, hc, hz, rfl, hk⟩)).mono (fun v ad1 M1 h => ?_)⟩
  obtain ⟨rfl, r2, M0, -, ⟨rfl, c, z, hc, hz, rfl, hk⟩, rfl⟩ := h
  have hS := zfr00_40 (hfr c z)
  have hJ2 := hO c z hc hz (xJ_th (xJ_M hS hJ) zR_0)
  refine ⟨0, P2 c, S2 c z, zL r2, rfl, ⟨by omega, by omega⟩, zXl_s, ⟨hk _ (Or.inl rfl) (by simp), hk _ (Or.inr (by decide)) (by simp), hk _ (Or.inr (by decide)) (by simp), hk _ (Or.inr (by decide)) (by simp)⟩, d2, mc2, ms2, hr.2, (h2 c z hc hz (zWM_M hS hJ.2.2.2.2.2.1) hS ad1 zXl_90).mono (fun v ad2 M2' h => ?_)⟩
  obtain ⟨rfl, rfl, rfl⟩ := h
  refine ⟨r2, P2 c, nz (S2 c z) (M2 c z), rfl, hR, mm_nz (aM_k (hM c z)).1, zKp.rf, ?_, fun _ => rfl, xJ_nz hJ2, ?_⟩
  · rw [nz_ge (by decide), (aM_k (hM c z)).2]
  · rw [nz_lt rfl]; have := h4 c z; omega
end STG
theorem zSt_fr {P : zP} {T : zS} {b z : Int} : zfr kC T (zSt P T b z) := fun k f hk => by
  have e : ∀ n, k.1 = n → kC n = false := fun n hn => by rw [← hn]; exact hk
  unfold zSt
  rw [if_neg (fun q => absurd (e 4 (by rw [q])) (by decide)), if_neg (fun q => absurd (e 8 (by rw [q])) (by decide)), if_neg (fun q => by
    rcases q.1 with q1 | q1 | q1
    · exact absurd (e 10 q1) (by decide)
    · exact absurd (e 11 q1) (by decide)
    · exact absurd (e 12 q1) (by decide))]
theorem zSt_k2 {P : zP} {S : zS} {b z : Int} {k : zK} {f : Int} (h : ¬ (k.1 = 4 ∨ (k.1 = 8 ∨ k.1 = 10 ∨ k.1 = 11 ∨ k.1 = 12) ∧ k.2.1 = P 0 0 0)) : zSt P S b z k f = S k f := by
  unfold zSt
  rw [if_neg (fun q => h (Or.inl (by rw [q]))), if_neg (fun q => h (Or.inr (by rw [q]; exact ⟨Or.inl rfl, rfl⟩))), if_neg (fun q => h (Or.inr ⟨Or.inr q.1, q.2⟩))]
theorem zSt_R {P : zP} {T : zS} {b z : Int} (hT : ∀ k f, zR (T k f)) (hb : b = 0 ∨ b = 1) (hz : zR z) : ∀ k f, zR (zSt P T b z k f) := fun k f => by
  unfold zSt
  split
  · split
    · exact hz
    · exact hT _ _
  · split
    · split
      · exact ⟨by omega, by omega⟩
      · exact zR_0
    · split
      · exact zR_0
      · exact hT _ _
set_option maxHeartbeats 1000000 in
set_option maxRecDepth 100000 in
theorem s_topic {l : Launch} {Δ : zDl} {n b : Int} (hst : l.stackTraces = false) (hr_n : zR n) (hb : b = 0 ∨ b = 1) : zCs l Δ yL_topic cL_topic 5 [(0, 10, 13, 13), (0, 10, 17, 15)] yX7_topic cX7_topic 3 .int [.int (zI n), .int (zI b)] := by
  intro P T j w wd ad hJ hj hj2
  have hP := hJ.2.2.2.2.2.2
  have hW := hJ.2.2.2.2.1
  have hV := hJ.2.2.2.2.2.1
  have hr_b : zR b := ⟨by omega, by omega⟩
  have hN := hP.n
  by_cases c1 : 1 ≤ n ∧ n ≤ 4
  · by_cases c2 : P 0 0 0 = 4
    · exact st_no hJ hj (by decide) (fun ad M d mc ms fs h0 hm => h_topic_2 h0 hm) (c_X6_topic_z (by first | assumption | rfl) (by first | assumption | rfl) (by first | assumption | rfl) (by first | assumption | rfl) (by first | assumption | rfl)) (fun hX90 => c_X7_topic_z (Q := P) (by first | assumption | rfl) (by first | assumption | rfl) (by first | assumption | rfl)) ⟨⟨by decide, by decide, by decide⟩, ⟨by decide, by decide, by decide⟩⟩
    · have c3 : P 0 0 0 < 4 := by omega
      exact st_g (r := P 0 0 0) (n0 := P 0 0 0) (P2 := fun c => zPt P n c) (S2 := fun c z => zSt P T b z) (M2 := fun c z => zst (zst (zst (zst (zSt P T b z) (40, 0, 0, 0) 0 0) (45, 0, 0, 0) (P 0 0 0) n) (50, 0, 0, 0) (P 0 0 0) b) (40, 0, 0, 0) 4 (P 0 0 0 + 1)) hJ hj (fun ad M d mc ms fs w0 P0 post h0 h82 hm hP0 => h_topic h0 h82 hm hP0) (⟨by omega, by omega⟩) (fun hX90 hX91 => c_X6_topic (by first | assumption | rfl) (by first | assumption | rfl) (by first | assumption | rfl) (by first | assumption | rfl) (by first | assumption | rfl) (by first | assumption | rfl)) (fun c z => kC_00 zSt_fr) (fun c z => Int.le_trans (Int.le_of_eq (zSt_fr (0, 0, 0, 0) 4 rfl)) (Int.le_add_one (Int.le_refl _))) (fun c z => ((fr.rf.st rfl).st rfl).st rfl) (fun c z hc hz hJ1 => o_topic hJ1 c1 c3 hb zgt_Pt (zWP_Pt hP c3 c1 hc) (zSt_R hW.R hb hz) (fun k f q => zSt_k2 q) ⟨by simp [zSt], by simp [zSt]⟩ (fun x => by simp [zSt]) (fun p => by simp [zSt])) (fun c z hc hz hV1 hS ad1 X9 hX90 => c_X7_topic (Q := P) hV1 (by first | assumption | rfl) (by first | assumption | rfl) (by first | assumption | rfl)) ⟨⟨by decide, by decide, by decide⟩, ⟨by decide, by decide, by decide⟩⟩
  · exact st_no hJ hj (by decide) (fun ad M d mc ms fs h0 hm => h_topic_1 h0 hm) (c_X6_topic_y (by first | assumption | rfl) (by first | assumption | rfl) (by first | assumption | rfl) (by first | assumption | rfl) (by first | assumption | rfl)) (fun hX90 => c_X7_topic_y (Q := P) (by first | assumption | rfl) (by first | assumption | rfl) (by first | assumption | rfl)) ⟨⟨by decide, by decide, by decide⟩, ⟨by decide, by decide, by decide⟩⟩
theorem zSsd_fr {P : zP} {T : zS} {t q z : Int} {r : Int → Int} : zfr kC T (zSsd P T t q z r) := fun k f hk => by
  have e : ∀ n, k.1 = n → kC n = false := fun n hn => by rw [← hn]; exact hk
  unfold zSsd
  rw [if_neg (fun q => absurd (e 12 (by rw [q])) (by decide)), if_neg (fun q => absurd (e 14 (by rw [q])) (by decide))]
theorem zSsd_R {P : zP} {T : zS} {t q z : Int} {r : Int → Int} (hT : ∀ k f, zR (T k f)) (hr : ∀ f, zR (r f)) (hz : zR z) : ∀ k f, zR (zSsd P T t q z r k f) := fun k f => by
  unfold zSsd
  split
  · split
    · exact hz
    · exact hT _ _
  · split
    · exact hr f
    · exact hT _ _
theorem zSsd_N {P : zP} {T : zS} {t q z : Int} {r : Int → Int} {f : Int} : zSsd P T t q z r (14, t, q, P 2 t q) f = r f := by
  unfold zSsd
  rw [if_neg (by simp), if_pos rfl]
theorem zSsd_k2 {P : zP} {T : zS} {t x q z : Int} {r : Int → Int} {k : zK} {f : Int} (h : ¬ (k = (14, t, q, P 2 t q) ∨ (k = (0, 0, 0, 0) ∧ f = 5) ∨ (k = (10, t, 0, 0) ∧ f = x) ∨ k.1 = 12)) : zSsd P (zS1d T t x) t q z r k f = T k f := by
  unfold zSsd
  rw [if_neg (fun e => h (Or.inr (Or.inr (Or.inr (by rw [e]))))), if_neg (fun e => h (Or.inl e))]
  show zst (zst T (0, 0, 0, 0) 5 _) (10, t, 0, 0) x _ k f = T k f
  rw [zst_at, if_neg (fun e => h (Or.inr (Or.inr (Or.inl e)))), zst_at, if_neg (fun e => h (Or.inr (Or.inl e)))]
theorem zst_Rr {S : zS} {k : zK} {f v : Int} (h : ∀ k f, zR (S k f)) (hv : zR v) : ∀ k' f', zR (zst S k f v k' f') := fun k' f' => by
  rw [zst_at]
  split
  · exact hv
  · exact h _ _
theorem zmR_R {k v now x : Int} (h1 : zR k) (h2 : zR v) (h3 : zR now) (h4 : zR x) {h : Prop} [Decidable h] : ∀ f, zR (zmR k v now x (if h then 0 else 2) f) := fun f => by
  unfold zmR
  split
  · exact h1
  · split
    · exact h2
    · split
      · exact h3
      · split
        · exact h4
        · split
          · split
            · exact zR_0
            · exact ⟨by decide, by decide⟩
          · exact zR_0
theorem zSsd_fr2 {P : zP} {T : zS} {t q z : Int} {r : Int → Int} {k : zK} {f : Int} (h : k.1 = 0 ∨ k.1 = 10) : zSsd P T t q z r k f = T k f := by
  unfold zSsd
  rw [if_neg (fun e => by rw [e] at h; simp at h), if_neg (fun e => by rw [e] at h; simp at h)]
theorem mssd_aM {M : zS} {t q N x k v u : Int} : fr aM M (mssd M t q N x k v u) := by
  unfold mssd
  exact ((((((((((fr.rf.st rfl).st rfl).st rfl).st rfl).st rfl).st rfl).st rfl).st rfl).st rfl).st rfl)
set_option maxHeartbeats 1000000 in
set_option maxRecDepth 100000 in
theorem s_send {l : Launch} {Δ : zDl} {t x n k v : Int} (hst : l.stackTraces = false) (hr_t : zR t) (hr_x : zR x) (hr_n : zR n) (hr_k : zR k) (hr_v : zR v) : zCs l Δ yL_send cL_send 8 [(0, 16, 19, 21), (0, 16, 23, 13), (0, 16, 27, 15)] yX7_send cX7_send 9 .int [.int (zI t), .int (zI x), .int (zI n), .int (zI k), .int (zI v)] := by
  intro P T j w wd ad hJ hj hj2
  have hP := hJ.2.2.2.2.2.2
  have hW := hJ.2.2.2.2.1
  have hV := hJ.2.2.2.2.2.1
  by_cases c1 : (0 ≤ t ∧ t < P 0 0 0) ∧ (0 ≤ x ∧ x < 4)
  · obtain ⟨ht, hx⟩ := c1
    have e49 := (hJ.1.1.B t ht).2.2.1 x hx.1 hx.2
    have e11 := hJ.1.1.A.2.2.2.1
    have b11 := hV.f11
    by_cases c2 : 0 ≤ n ∧ (-1 ≤ k ∧ k ≤ 9) ∧ (0 ≤ v ∧ v ≤ 999)
    · by_cases c3 : n < T (10, t, 0, 0) x
      · exact st_q' hJ hj (fun ad M d mc ms fs w0 P0 post h0 h82 hm hP0 => h_send h0 h82 hm hP0) rfl (fun hX90 hX91 => c_X6_send_d (by first | assumption | rfl) (by first | assumption | rfl) (by first | assumption | rfl) (by first | assumption | rfl) (by first | assumption | rfl) (by first | assumption | rfl) (by first | assumption | rfl) (by first | assumption | rfl) (by first | assumption | rfl)) (fun hX90 => c_X7_send_d (Q := P) (by first | assumption | rfl) (by first | assumption | rfl) (by first | assumption | rfl) (by first | assumption | rfl) (by first | assumption | rfl) (by first | assumption | rfl) (by first | assumption | rfl) (by rw [e49]; assumption)) ⟨⟨by decide, by decide, by decide⟩, ⟨by decide, by decide, by decide⟩⟩
      · by_cases c4 : T (10, t, 0, 0) x = n ∧ T (0, 0, 0, 0) 5 < 80
        · have hq := zpa_le (hP.t ht) c2.2.1.1
          have hle := r_one_le hJ.1.1.E hV ht hq
          have hq80 : P 2 t (zpa P t k) < 80 := by omega
          have h6 := hJ.2.2.2.1.2.2 t x ht hx.1 hx.2
          have hN := hP.m ht hq
          have hk6 := hW.k
          exact st_g (r := P 2 t (zpa P t k)) (n0 := P 2 t (zpa P t k)) (P2 := fun c => zPsd P t (zpa P t k) c) (S2 := fun c z => zSsd P (zS1d T t x) t (zpa P t k) z (zmR k v (T (0, 0, 0, 0) 6) x (if T (3, 0, 0, 0) x = 0 then 0 else 2))) (M2 := fun c z => msa (zPsd P t (zpa P t k) c) (mssd (zst (zSsd P (zS1d T t x) t (zpa P t k) z (zmR k v (T (0, 0, 0, 0) 6) x (if T (3, 0, 0, 0) x = 0 then 0 else 2))) (40, 0, 0, 0) 0 0) t (zpa P t k) (P 2 t (zpa P t k)) x k v n)) hJ hj (fun ad M d mc ms fs w0 P0 post h0 h82 hm hP0 => h_send h0 h82 hm hP0) (⟨by omega, by omega⟩) (fun hX90 hX91 => c_X6_send (by first | assumption | rfl) (by first | assumption | rfl) (by first | assumption | rfl) (by first | assumption | rfl) (by first | assumption | rfl) c4.1 c4.2 (by first | assumption | rfl) (by first | assumption | rfl) (by first | assumption | rfl)) (fun c z => (((zfr.rf (S := T)).st rfl).st rfl).tr (kC_00 zSsd_fr)) (fun c z => by rw [zSsd_fr (0, 0, 0, 0) 4 rfl]; show zst (zst T (0, 0, 0, 0) 5 (T (0, 0, 0, 0) 5 + 1)) (10, t, 0, 0) x (T (10, t, 0, 0) x + 1) (0, 0, 0, 0) 4 ≤ _; rw [zst_k _ _ _ _ (by simp), zst_f _ _ _ (by decide)]; omega) (fun c z => (mssd_aM).tr msa_aM) (fun c z hc hz hJ1 => o_send hJ1 ht hx c2.2.1 c2.2.2 c4.1 c4.2 hq zgr_Psd (zWP_Psd hP hq80 hc) (zSsd_R (zst_Rr (zst_Rr hW.R ⟨by omega, by omega⟩) ⟨by omega, by omega⟩) (fun f => zmR_R ⟨by omega, by omega⟩ ⟨by omega, by omega⟩ ⟨by omega, by omega⟩ ⟨by omega, by omega⟩ f) hz) (fun k f q => zSsd_k2 q) ⟨zSsd_N, zSsd_N, zSsd_N, zSsd_N, zSsd_N, zSsd_N⟩ (fun f e => by rw [zSsd_N, e]; exact hk6.1) (by rw [zSsd_fr2 (Or.inl rfl)]; show zst (zst T (0, 0, 0, 0) 5 (T (0, 0, 0, 0) 5 + 1)) (10, t, 0, 0) x (T (10, t, 0, 0) x + 1) (0, 0, 0, 0) 5 = _; rw [zst_k _ _ _ _ (by simp), zst_s]) (by rw [zSsd_fr2 (Or.inr rfl)]; show zst (zst T (0, 0, 0, 0) 5 (T (0, 0, 0, 0) 5 + 1)) (10, t, 0, 0) x (T (10, t, 0, 0) x + 1) (10, t, 0, 0) x = _; rw [zst_s, c4.1])) (fun c z hc hz hV1 hS ad1 X9 hX90 => c_X7_send_o (Q := P) hV1 (by first | assumption | rfl) (by first | assumption | rfl) (by first | assumption | rfl) (by first | assumption | rfl) (by first | assumption | rfl) rfl (by first | assumption | rfl) (by rw [hS 49 _ (by decide), e49]; exact c4.1) (by rw [hS 40 _ (by decide), e11]; exact c4.2) zgr_Psd (by rw [hS 49 _ (by decide), e49]; omega) (by first | assumption | rfl)) ⟨⟨by decide, by decide, by decide⟩, ⟨by decide, by decide, by decide⟩⟩
        · exact st_no hJ hj (by decide) (fun ad M d mc ms fs h0 hm => h_send_3 h0 hm) (c_X6_send_z (by first | assumption | rfl) (by first | assumption | rfl) (by first | assumption | rfl) (by first | assumption | rfl) (by first | assumption | rfl) (by first | assumption | rfl) (by first | assumption | rfl) (by first | assumption | rfl) (by omega) (by first | assumption | rfl)) (fun hX90 => c_X7_send_z (Q := P) (by first | assumption | rfl) (by first | assumption | rfl) (by first | assumption | rfl) (by first | assumption | rfl) (by first | assumption | rfl) (by first | assumption | rfl) (by first | assumption | rfl) (by rw [e49, e11]; omega)) ⟨⟨by decide, by decide, by decide⟩, ⟨by decide, by decide, by decide⟩⟩
    · exact st_no hJ hj (by decide) (fun ad M d mc ms fs h0 hm => h_send_2 h0 hm) (c_X6_send_y (by first | assumption | rfl) (by first | assumption | rfl) (by first | assumption | rfl) (by first | assumption | rfl) (by first | assumption | rfl) (by first | assumption | rfl) (by first | assumption | rfl) (by first | assumption | rfl) (by first | assumption | rfl)) (fun hX90 => c_X7_send_y (Q := P) (by first | assumption | rfl) (by first | assumption | rfl) (by first | assumption | rfl) (by first | assumption | rfl) (by first | assumption | rfl) (by first | assumption | rfl) (by first | assumption | rfl)) ⟨⟨by decide, by decide, by decide⟩, ⟨by decide, by decide, by decide⟩⟩
  · exact st_no hJ hj (by decide) (fun ad M d mc ms fs h0 hm => h_send_1 h0 hm) (c_X6_send_x (by first | assumption | rfl) (by first | assumption | rfl) (by first | assumption | rfl) (by first | assumption | rfl) (by first | assumption | rfl) (by first | assumption | rfl)) (fun hX90 => c_X7_send_x (Q := P) (by first | assumption | rfl) (by first | assumption | rfl) (by first | assumption | rfl) (by first | assumption | rfl) (by first | assumption | rfl) (by first | assumption | rfl) (by first | assumption | rfl)) ⟨⟨by decide, by decide, by decide⟩, ⟨by decide, by decide, by decide⟩⟩
