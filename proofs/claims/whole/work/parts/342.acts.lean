/-! ===== the law's acts ===== -/
set_option maxHeartbeats 1000000 in
set_option maxRecDepth 100000 in
theorem s_setKeep {l : Launch} {Δ : zDl} {t k : Int} (hst : l.stackTraces = false) (hr_t : zR t) (hr_k : zR k) : zCs l Δ yL_setKeep cL_setKeep 5 [(0, 10, 13, 21), (0, 10, 17, 13)] yX7_setKeep cX7_setKeep 4 .int [.int (zI t), .int (zI k)] := by
  intro P T j w wd ad hJ hj hj2
  have hP := hJ.2.2.2.2.2.2
  have hW := hJ.2.2.2.2.1
  have hV := hJ.2.2.2.2.2.1
  by_cases c1 : 0 ≤ t ∧ t < P 0 0 0
  · by_cases c2 : 0 ≤ k ∧ k ≤ 200
    · exact st_b (S1 := (zst T (8, t, 0, 0) 3 k)) hJ hj (fun ad M d mc ms fs w0 P0 post h0 h82 hm hP0 => h_setKeep h0 h82 hm hP0) (zfr.rf.st rfl) (Int.le_trans (Int.le_of_eq ((zfr.rf.st rfl : zfr kC T _) (0, 0, 0, 0) 4 rfl)) (Int.le_add_one (Int.le_refl _))) (fr.rf.st rfl) (fun hJ1 => ⟨o_keep hJ1 c1 c2, by rw [zst_k _ _ _ _ (by simp)]; exact (hJ.1.1.B t c1).1⟩) (c_X6_setKeep (by first | assumption | rfl) (by first | assumption | rfl) (by first | assumption | rfl) (by first | assumption | rfl)) (fun hV1 hS X9 hX90 => c_X7_setKeep (Q := P) (S := (zst T (8, t, 0, 0) 3 k)) (by first | assumption | rfl) (by first | assumption | rfl) (by first | assumption | rfl)) ⟨⟨by decide, by decide, by decide⟩, ⟨by decide, by decide, by decide⟩⟩
    · exact st_no hJ hj (by decide) (fun ad M d mc ms fs h0 hm => h_setKeep_2 h0 hm) (c_X6_setKeep_y (by first | assumption | rfl) (by first | assumption | rfl) (by first | assumption | rfl) (by first | assumption | rfl) (by first | assumption | rfl) (by first | assumption | rfl)) (fun hX90 => c_X7_setKeep_y (Q := P) (by first | assumption | rfl) (by first | assumption | rfl) (by first | assumption | rfl) (by first | assumption | rfl)) ⟨⟨by decide, by decide, by decide⟩, ⟨by decide, by decide, by decide⟩⟩
  · exact st_no hJ hj (by decide) (fun ad M d mc ms fs h0 hm => h_setKeep_1 h0 hm) (c_X6_setKeep_x (by first | assumption | rfl) (by first | assumption | rfl) (by first | assumption | rfl) (by first | assumption | rfl) (by first | assumption | rfl)) (fun hX90 => c_X7_setKeep_x (Q := P) (by first | assumption | rfl) (by first | assumption | rfl) (by first | assumption | rfl) (by first | assumption | rfl)) ⟨⟨by decide, by decide, by decide⟩, ⟨by decide, by decide, by decide⟩⟩
set_option maxHeartbeats 1000000 in
set_option maxRecDepth 100000 in
theorem s_setPatience {l : Launch} {Δ : zDl} {x y : Int} (hst : l.stackTraces = false) (hr_x : zR x) (hr_y : zR y) : zCs l Δ yL_setPatience cL_setPatience 5 [(0, 10, 13, 13)] yX7_setPatience cX7_setPatience 4 .int [.int (zI x), .int (zI y)] := by
  intro P T j w wd ad hJ hj hj2
  have hP := hJ.2.2.2.2.2.2
  have hW := hJ.2.2.2.2.1
  have hV := hJ.2.2.2.2.2.1
  by_cases c1 : (1 ≤ x ∧ x ≤ 20) ∧ (1 ≤ y ∧ y ≤ 50)
  · exact st_b (S1 := (zst (zst T (0, 0, 0, 0) 7 x) (0, 0, 0, 0) 8 y)) hJ hj (fun ad M d mc ms fs w0 P0 post h0 h82 hm hP0 => h_setPatience h0 h82 hm hP0) ((zfr.rf.st rfl).st rfl) (by rw [zst_f _ _ _ (by decide), zst_f _ _ _ (by decide)]; omega) ((fr.rf.st rfl).st rfl) (fun hJ1 => ⟨o_patience hJ1 c1.1 c1.2, by rw [zst_k _ _ _ _ (by simp), zst_k _ _ _ _ (by simp)]; exact hJ.1.1.A.2.1⟩) (c_X6_setPatience (by first | assumption | rfl) (by first | assumption | rfl) c1.1 c1.2) (fun hV1 hS X9 hX90 => c_X7_setPatience (Q := P) (S := (zst (zst T (0, 0, 0, 0) 7 x) (0, 0, 0, 0) 8 y)) (by first | assumption | rfl) c1.1 c1.2) ⟨⟨by decide, by decide, by decide⟩, ⟨by decide, by decide, by decide⟩⟩
  · exact st_no hJ hj (by decide) (fun ad M d mc ms fs h0 hm => h_setPatience_1 h0 hm) (c_X6_setPatience_y (by first | assumption | rfl) (by first | assumption | rfl) (by first | assumption | rfl) (by first | assumption | rfl) (by first | assumption | rfl) (by first | assumption | rfl)) (fun hX90 => c_X7_setPatience_y (Q := P) (by first | assumption | rfl) (by first | assumption | rfl) (by first | assumption | rfl) (by first | assumption | rfl)) ⟨⟨by decide, by decide, by decide⟩, ⟨by decide, by decide, by decide⟩⟩
set_option maxHeartbeats 1000000 in
set_option maxRecDepth 100000 in
theorem s_seek {l : Launch} {Δ : zDl} {g p o : Int} (hst : l.stackTraces = false) (hr_g : zR g) (hr_p : zR p) (hr_o : zR o) : zCs l Δ yL_seek cL_seek 6 [(0, 12, 15, 21), (0, 12, 19, 13)] yX7_seek cX7_seek 9 .int [.int (zI g), .int (zI p), .int (zI o)] := by
  intro P T j w wd ad hJ hj hj2
  have hP := hJ.2.2.2.2.2.2
  have hW := hJ.2.2.2.2.1
  have hV := hJ.2.2.2.2.2.1
  by_cases c1 : (0 ≤ g ∧ g < P 3 0 0) ∧ (0 ≤ p ∧ p < P 1 (P 4 g 0) 0)
  · obtain ⟨hg, hp⟩ := c1
    have hG := hP.g hg
    have e47 := a_start hJ hG hp
    have hs := hW.s hG hp
    by_cases c2 : T (11, P 4 g 0, p, 0) 1 ≤ o ∧ o ≤ P 2 (P 4 g 0) p
    · exact st_b (S1 := (zku P (zmv P T g p o) g p)) hJ hj (fun ad M d mc ms fs w0 P0 post h0 h82 hm hP0 => h_seek h0 h82 hm hP0) ((zmv_fr rfl rfl rfl).tr (zku_fr rfl rfl rfl)) (Int.le_trans (Int.le_of_eq (((zmv_fr rfl rfl rfl).tr (zku_fr rfl rfl rfl) : zfr kC T _) (0, 0, 0, 0) 4 rfl)) (Int.le_add_one (Int.le_refl _))) ((zfr_aM msk_kM).tr msa_aM) (fun hJ1 => ⟨o_seek hJ1 hg hp ⟨by omega, c2.2⟩, by rw [zst_k _ _ _ _ (by simp), ((zmv_fr rfl rfl rfl).tr (zku_fr rfl rfl rfl) : zfr k00 T _) (65, 0, 0, 0) _ rfl]; exact (hJ.1.2.1 g p hg hp).1⟩) (c_X6_seek (by first | assumption | rfl) (by first | assumption | rfl) (by first | assumption | rfl) (by first | assumption | rfl) (by first | assumption | rfl)) (fun hV1 hS X9 hX90 => c_X7_seek (Q := P) (S := (zku P (zmv P T g p o) g p)) (by first | assumption | rfl) (by first | assumption | rfl) (by first | assumption | rfl) (by first | assumption | rfl) (by rw [hS 47 _ (by decide), ← e47]; assumption)) ⟨⟨by decide, by decide, by decide⟩, ⟨by decide, by decide, by decide⟩⟩
    · exact st_no hJ hj (by decide) (fun ad M d mc ms fs h0 hm => h_seek_2 h0 hm) (c_X6_seek_y (by first | assumption | rfl) (by first | assumption | rfl) (by first | assumption | rfl) (by first | assumption | rfl) (by first | assumption | rfl) (by first | assumption | rfl) (by first | assumption | rfl)) (fun hX90 => c_X7_seek_y (Q := P) (by first | assumption | rfl) (by first | assumption | rfl) (by first | assumption | rfl) (by first | assumption | rfl) (by first | assumption | rfl) (by rw [← e47]; assumption)) ⟨⟨by decide, by decide, by decide⟩, ⟨by decide, by decide, by decide⟩⟩
  · exact st_no hJ hj (by decide) (fun ad M d mc ms fs h0 hm => h_seek_1 h0 hm) (c_X6_seek_x (by first | assumption | rfl) (by first | assumption | rfl) (by first | assumption | rfl) (by first | assumption | rfl) (by first | assumption | rfl) (by first | assumption | rfl)) (fun hX90 => c_X7_seek_x (Q := P) (by first | assumption | rfl) (by first | assumption | rfl) (by first | assumption | rfl) (by first | assumption | rfl) (by first | assumption | rfl)) ⟨⟨by decide, by decide, by decide⟩, ⟨by decide, by decide, by decide⟩⟩
set_option maxHeartbeats 1000000 in
set_option maxRecDepth 100000 in
theorem s_ack {l : Launch} {Δ : zDl} {g p o : Int} (hst : l.stackTraces = false) (hr_g : zR g) (hr_p : zR p) (hr_o : zR o) : zCs l Δ yL_ack cL_ack 6 [(0, 12, 15, 21), (0, 12, 19, 15)] yX7_ack cX7_ack 5 .int [.int (zI g), .int (zI p), .int (zI o)] := by
  intro P T j w wd ad hJ hj hj2
  have hP := hJ.2.2.2.2.2.2
  have hW := hJ.2.2.2.2.1
  have hV := hJ.2.2.2.2.2.1
  by_cases c1 : (0 ≤ g ∧ g < P 3 0 0) ∧ (0 ≤ p ∧ p < P 1 (P 4 g 0) 0)
  · obtain ⟨hg, hp⟩ := c1
    have hiff : ((0 ≤ o ∧ o < P 2 (P 4 g 0) p) ∧ T (19, g, p, 0) o = 1) ↔ ((0 ≤ o ∧ o < P 2 (P 4 g 0) p) ∧ T (69, 0, 0, 0) (g * 80 + T (59, 0, 0, 0) ((P 4 g 0 * 4 + p) * 80 + o)) = 1) := ⟨fun q => ⟨q.1, by rw [← show T (19, g, p, 0) o = _ from (a_cell hJ hg hp q.1).1]; exact q.2⟩, fun q => ⟨q.1, by rw [show T (19, g, p, 0) o = _ from (a_cell hJ hg hp q.1).1]; exact q.2⟩⟩
    by_cases c2 : (0 ≤ o ∧ o < P 2 (P 4 g 0) p) ∧ T (19, g, p, 0) o = 1
    · exact st_b (S1 := (zlw (zku P (zst T (19, g, p, 0) o 3) g p) 1 g p o (T (0, 0, 0, 0) 6))) hJ hj (fun ad M d mc ms fs w0 P0 post h0 h82 hm hP0 => h_ack h0 h82 hm hP0) (((zfr.rf.st rfl).tr (zku_fr rfl rfl rfl)).tr (zlw_fr rfl rfl)) (Int.le_trans (Int.le_of_eq ((((zfr.rf.st rfl).tr (zku_fr rfl rfl rfl)).tr (zlw_fr rfl rfl) : zfr kC T _) (0, 0, 0, 0) 4 rfl)) (Int.le_add_one (Int.le_refl _))) ((((fr.rf.st rfl).tr (mwr_f (A := aM) rfl (fun _ => rfl)))).tr msa_aM) (fun hJ1 => by have h := o_ack hJ1 hg hp c2.1 c2.2; exact ⟨h.1, h.2.symm⟩) (c_X6_ack (by first | assumption | rfl) (by first | assumption | rfl) (by first | assumption | rfl) (by first | assumption | rfl) (by first | assumption | rfl)) (fun hV1 hS X9 hX90 => c_X7_ack (Q := P) (S := (zlw (zku P (zst T (19, g, p, 0) o 3) g p) 1 g p o (T (0, 0, 0, 0) 6))) (by first | assumption | rfl) (by first | assumption | rfl) (by first | assumption | rfl) (by first | assumption | rfl) (by first | assumption | rfl) (by rw [hS 59 _ (by decide), hS 69 _ (by decide)]; exact hiff.mp c2)) ⟨⟨by decide, by decide, by decide⟩, ⟨by decide, by decide, by decide⟩⟩
    · exact st_no hJ hj (by decide) (fun ad M d mc ms fs h0 hm => h_ack_2 h0 hm) (c_X6_ack_y (by first | assumption | rfl) (by first | assumption | rfl) (by first | assumption | rfl) (by first | assumption | rfl) (by first | assumption | rfl) (by first | assumption | rfl) (by first | assumption | rfl)) (fun hX90 => c_X7_ack_y (Q := P) (by first | assumption | rfl) (by first | assumption | rfl) (by first | assumption | rfl) (by first | assumption | rfl) (by first | assumption | rfl) (by first | assumption | rfl) (fun q => c2 (hiff.mpr q))) ⟨⟨by decide, by decide, by decide⟩, ⟨by decide, by decide, by decide⟩⟩
  · exact st_no hJ hj (by decide) (fun ad M d mc ms fs h0 hm => h_ack_1 h0 hm) (c_X6_ack_x (by first | assumption | rfl) (by first | assumption | rfl) (by first | assumption | rfl) (by first | assumption | rfl) (by first | assumption | rfl) (by first | assumption | rfl)) (fun hX90 => c_X7_ack_x (Q := P) (by first | assumption | rfl) (by first | assumption | rfl) (by first | assumption | rfl) (by first | assumption | rfl) (by first | assumption | rfl) (by first | assumption | rfl)) ⟨⟨by decide, by decide, by decide⟩, ⟨by decide, by decide, by decide⟩⟩
set_option maxHeartbeats 1000000 in
set_option maxRecDepth 100000 in
theorem s_nack {l : Launch} {Δ : zDl} {g p o : Int} (hst : l.stackTraces = false) (hr_g : zR g) (hr_p : zR p) (hr_o : zR o) : zCs l Δ yL_nack cL_nack 6 [(0, 12, 15, 21), (0, 12, 19, 15)] yX7_nack cX7_nack 5 .int [.int (zI g), .int (zI p), .int (zI o)] := by
  intro P T j w wd ad hJ hj hj2
  have hP := hJ.2.2.2.2.2.2
  have hW := hJ.2.2.2.2.1
  have hV := hJ.2.2.2.2.2.1
  by_cases c1 : (0 ≤ g ∧ g < P 3 0 0) ∧ (0 ≤ p ∧ p < P 1 (P 4 g 0) 0)
  · obtain ⟨hg, hp⟩ := c1
    have hiff : ((0 ≤ o ∧ o < P 2 (P 4 g 0) p) ∧ T (19, g, p, 0) o = 1) ↔ ((0 ≤ o ∧ o < P 2 (P 4 g 0) p) ∧ T (69, 0, 0, 0) (g * 80 + T (59, 0, 0, 0) ((P 4 g 0 * 4 + p) * 80 + o)) = 1) := ⟨fun q => ⟨q.1, by rw [← show T (19, g, p, 0) o = _ from (a_cell hJ hg hp q.1).1]; exact q.2⟩, fun q => ⟨q.1, by rw [show T (19, g, p, 0) o = _ from (a_cell hJ hg hp q.1).1]; exact q.2⟩⟩
    by_cases c2 : (0 ≤ o ∧ o < P 2 (P 4 g 0) p) ∧ T (19, g, p, 0) o = 1
    · exact st_b (S1 := (zku P (zB T g p o) g p)) hJ hj (fun ad M d mc ms fs w0 P0 post h0 h82 hm hP0 => h_nack h0 h82 hm hP0) ((zB_fr rfl rfl rfl rfl).tr (zku_fr rfl rfl rfl)) (Int.le_trans (Int.le_of_eq (((zB_fr rfl rfl rfl rfl).tr (zku_fr rfl rfl rfl) : zfr kC T _) (0, 0, 0, 0) 4 rfl)) (Int.le_add_one (Int.le_refl _))) (mnk_aM.tr msa_aM) (fun hJ1 => by have h := o_nack hJ1 hg hp c2.1 c2.2; exact ⟨h.1, h.2.symm⟩) (c_X6_nack (by first | assumption | rfl) (by first | assumption | rfl) (by first | assumption | rfl) (by first | assumption | rfl) (by first | assumption | rfl)) (fun hV1 hS X9 hX90 => c_X7_nack (Q := P) (S := (zku P (zB T g p o) g p)) (by first | assumption | rfl) (by first | assumption | rfl) (by first | assumption | rfl) (by first | assumption | rfl) (by first | assumption | rfl) (by rw [hS 59 _ (by decide), hS 69 _ (by decide)]; exact hiff.mp c2) (by rw [hS 59 _ (by decide), hS 70 _ (by decide)]; have h := (a_cell hJ hg hp c2.1).2; have h9 := (hW.c g p o).2 c2.2; rw [h] at h9; exact h9)) ⟨⟨by decide, by decide, by decide⟩, ⟨by decide, by decide, by decide⟩⟩
    · exact st_no hJ hj (by decide) (fun ad M d mc ms fs h0 hm => h_nack_2 h0 hm) (c_X6_nack_y (by first | assumption | rfl) (by first | assumption | rfl) (by first | assumption | rfl) (by first | assumption | rfl) (by first | assumption | rfl) (by first | assumption | rfl) (by first | assumption | rfl)) (fun hX90 => c_X7_nack_y (Q := P) (by first | assumption | rfl) (by first | assumption | rfl) (by first | assumption | rfl) (by first | assumption | rfl) (by first | assumption | rfl) (by first | assumption | rfl) (fun q => c2 (hiff.mpr q))) ⟨⟨by decide, by decide, by decide⟩, ⟨by decide, by decide, by decide⟩⟩
  · exact st_no hJ hj (by decide) (fun ad M d mc ms fs h0 hm => h_nack_1 h0 hm) (c_X6_nack_x (by first | assumption | rfl) (by first | assumption | rfl) (by first | assumption | rfl) (by first | assumption | rfl) (by first | assumption | rfl) (by first | assumption | rfl)) (fun hX90 => c_X7_nack_x (Q := P) (by first | assumption | rfl) (by first | assumption | rfl) (by first | assumption | rfl) (by first | assumption | rfl) (by first | assumption | rfl) (by first | assumption | rfl)) ⟨⟨by decide, by decide, by decide⟩, ⟨by decide, by decide, by decide⟩⟩
set_option maxHeartbeats 1000000 in
set_option maxRecDepth 100000 in
theorem s_clean {l : Launch} {Δ : zDl} {t : Int} (hst : l.stackTraces = false) (hr_t : zR t) : zCs l Δ yL_clean cL_clean 4 [(0, 9, 12, 21), (0, 9, 15, 15)] yX7_clean cX7_clean 3 .int [.int (zI t)] := by
  intro P T j w wd ad hJ hj hj2
  have hP := hJ.2.2.2.2.2.2
  have hW := hJ.2.2.2.2.1
  have hV := hJ.2.2.2.2.2.1
  by_cases c1 : 0 ≤ t ∧ t < P 0 0 0
  · have e50 := (hJ.1.1.B t c1).2.1
    by_cases c2 : T (8, t, 0, 0) 1 = 0
    · exact st_no hJ hj (by decide) (fun ad M d mc ms fs h0 hm => h_clean_2 h0 hm) (c_X6_clean_y (by first | assumption | rfl) (by first | assumption | rfl) (by first | assumption | rfl) (by first | assumption | rfl) (by first | assumption | rfl)) (fun hX90 => c_X7_clean_y (Q := P) (by first | assumption | rfl) (by first | assumption | rfl) (by first | assumption | rfl) (by first | assumption | rfl) (by rw [e50]; assumption)) ⟨⟨by decide, by decide, by decide⟩, ⟨by decide, by decide, by decide⟩⟩
    · exact st_b (S1 := (zkA P (lp (ztr P t) 0 (P 1 t 0) (T, 0)).1)) hJ hj (fun ad M d mc ms fs w0 P0 post h0 h82 hm hP0 => h_clean h0 h82 hm hP0) ((lp_fr2 (s := (T, 0)) fun o s => ztr_fr rfl).tr (zkA_fr rfl rfl rfl)) (Int.le_trans (Int.le_of_eq (((lp_fr2 (s := (T, 0)) fun o s => ztr_fr rfl).tr (zkA_fr rfl rfl rfl) : zfr kC T _) (0, 0, 0, 0) 4 rfl)) (Int.le_add_one (Int.le_refl _))) ((zfr_aM (mcl_fr rfl rfl rfl)).tr msa_aM) (fun hJ1 => o_clean hJ1 c1) (c_X6_clean (by first | assumption | rfl) (by first | assumption | rfl) (by first | assumption | rfl) (by first | assumption | rfl)) (fun hV1 hS X9 hX90 => c_X7_clean (Q := P) (S := (zkA P (lp (ztr P t) 0 (P 1 t 0) (T, 0)).1)) (by first | assumption | rfl) (by first | assumption | rfl) (by first | assumption | rfl) (by first | assumption | rfl) (by rw [hS 50 _ (by decide), e50]; assumption)) ⟨⟨by decide, by decide, by decide⟩, ⟨by decide, by decide, by decide⟩⟩
  · exact st_no hJ hj (by decide) (fun ad M d mc ms fs h0 hm => h_clean_1 h0 hm) (c_X6_clean_x (by first | assumption | rfl) (by first | assumption | rfl) (by first | assumption | rfl) (by first | assumption | rfl) (by first | assumption | rfl)) (fun hX90 => c_X7_clean_x (Q := P) (by first | assumption | rfl) (by first | assumption | rfl) (by first | assumption | rfl) (by first | assumption | rfl) (by first | assumption | rfl)) ⟨⟨by decide, by decide, by decide⟩, ⟨by decide, by decide, by decide⟩⟩
