/-! ===== the law's other acts and questions ===== -/
set_option maxHeartbeats 1000000 in
set_option maxRecDepth 100000 in
theorem s_take {l : Launch} {Δ : zDl} {g r : Int} (hst : l.stackTraces = false) (hr_g : zR g) (hr_r : zR r) : zCs l Δ yL_take cL_take 5 [(0, 10, 13, 21), (0, 10, 17, 15)] yX7_take cX7_take 5 .int [.int (zI g), .int (zI r)] := by
  intro P T j w wd ad hJ hj hj2
  have hP := hJ.2.2.2.2.2.2
  have hW := hJ.2.2.2.2.1
  have hV := hJ.2.2.2.2.2.1
  by_cases c1 : (0 ≤ g ∧ g < P 3 0 0) ∧ (0 ≤ r ∧ r < 6)
  · obtain ⟨hg, hr⟩ := c1
    have e68 := (hJ.1.1.G g r hg hr.1 hr.2).1
    by_cases c2 : T (17, g, 0, 0) r = 0
    · exact st_no hJ hj (by decide) (fun ad M d mc ms fs h0 hm => h_take_2 h0 hm) (c_X6_take_y (by first | assumption | rfl) (by first | assumption | rfl) (by first | assumption | rfl) (by first | assumption | rfl) (by first | assumption | rfl) (by first | assumption | rfl)) (fun hX90 => c_X7_take_y (Q := P) (by first | assumption | rfl) (by first | assumption | rfl) (by first | assumption | rfl) (by first | assumption | rfl) (by rw [e68]; assumption)) ⟨⟨by decide, by decide, by decide⟩, ⟨by decide, by decide, by decide⟩⟩
    · rcases znp_sp hP hW hg (r := r) (x := T (0, 0, 0, 0) 6) with ⟨hz, -⟩ | ⟨p, o, hp, ho, -, -, hz, -⟩
      · exact st_q' hJ hj (fun ad M d mc ms fs w0 P0 post h0 h82 hm hP0 => h_take h0 h82 hm hP0) rfl (fun hX90 hX91 => c_X6_take_n (by first | assumption | rfl) (by first | assumption | rfl) (by first | assumption | rfl) (by first | assumption | rfl) (by first | assumption | rfl) (by first | assumption | rfl)) (fun hX90 => c_X7_take_n (Q := P) (by first | assumption | rfl) (by first | assumption | rfl) (by first | assumption | rfl) (by first | assumption | rfl) (by first | assumption | rfl) (by rw [e68]; assumption) ((r_gt (xJ_th hJ zR_0) hg).1 (show znp P T g r (T (0, 0, 0, 0) 6) = -1 from hz))) ⟨⟨by decide, by decide, by decide⟩, ⟨by decide, by decide, by decide⟩⟩
      · have F1 : zfr k00 T (zlw (zgv T g p o (T (0, 0, 0, 0) 6)) 0 g p o (T (0, 0, 0, 0) 6)) := (zgv_fr rfl rfl rfl rfl).tr (zlw_fr rfl rfl)
        have hS1 := zfr00_40 F1
        have hJ2 := xJ_th (v := 0) (xJ_M hS1 hJ) zR_0
        have h := o_take hJ2 hg hp ho hz
        have hT := o_take hJ hg hp ho hz
        have q := hJ2.2.2.2.2.2.1.b59 ((P 4 g 0 * 4 + p) * 80 + o)
        exact st_b (S1 := (zlw (zgv T g p o (T (0, 0, 0, 0) 6)) 0 g p o (T (0, 0, 0, 0) 6))) hJ hj (fun ad M d mc ms fs w0 P0 post h0 h82 hm hP0 => h_take h0 h82 hm hP0) ((zgv_fr rfl rfl rfl rfl).tr (zlw_fr rfl rfl)) (Int.le_trans (Int.le_of_eq (((zgv_fr rfl rfl rfl rfl).tr (zlw_fr rfl rfl) : zfr kC T _) (0, 0, 0, 0) 4 rfl)) (Int.le_add_one (Int.le_refl _))) (((zfr_aM (mtk_fr rfl rfl rfl rfl)).tr (mwr_f (A := aM) rfl (fun _ => rfl))).tr msa_aM) (fun hJ1 => ⟨h.1, h.2.2.1⟩) (c_X6_take_o (by first | assumption | rfl) (by first | assumption | rfl) (by first | assumption | rfl) (by first | assumption | rfl) (by first | assumption | rfl) (by first | assumption | rfl) (by first | assumption | rfl) (by first | assumption | rfl) hT.2.2.2.1) (fun hV1 hS X9 hX90 => c_X7_take_o (Q := P) (S := (zlw (zgv T g p o (T (0, 0, 0, 0) 6)) 0 g p o (T (0, 0, 0, 0) 6))) (by first | assumption | rfl) (by first | assumption | rfl) (by first | assumption | rfl) (by first | assumption | rfl) (by first | assumption | rfl) (by rw [hS 68 _ (by decide), e68]; assumption) ⟨q.1, Int.lt_of_le_of_lt q.2 (by decide)⟩ h.2.1 (by have h9 := h.2.2.2.2; rw [zst_k _ _ _ _ (by simp)] at h9; exact h9)) ⟨⟨by decide, by decide, by decide⟩, ⟨by decide, by decide, by decide⟩⟩
  · exact st_no hJ hj (by decide) (fun ad M d mc ms fs h0 hm => h_take_1 h0 hm) (c_X6_take_x (by first | assumption | rfl) (by first | assumption | rfl) (by first | assumption | rfl) (by first | assumption | rfl) (by first | assumption | rfl) (by first | assumption | rfl)) (fun hX90 => c_X7_take_x (Q := P) (by first | assumption | rfl) (by first | assumption | rfl) (by first | assumption | rfl) (by first | assumption | rfl) (by first | assumption | rfl)) ⟨⟨by decide, by decide, by decide⟩, ⟨by decide, by decide, by decide⟩⟩
set_option maxHeartbeats 1000000 in
set_option maxRecDepth 100000 in
theorem s_wouldRead {l : Launch} {Δ : zDl} {g r p : Int} (hst : l.stackTraces = false) (hr_g : zR g) (hr_r : zR r) (hr_p : zR p) : zCs l Δ yL_wouldRead cL_wouldRead 6 [(0, 12, 15, 21)] yX7_wouldRead cX7_wouldRead 6 .int [.int (zI g), .int (zI r), .int (zI p)] := by
  intro P T j w wd ad hJ hj hj2
  have hP := hJ.2.2.2.2.2.2
  have hW := hJ.2.2.2.2.1
  have hV := hJ.2.2.2.2.2.1
  by_cases c1 : ((0 ≤ g ∧ g < P 3 0 0) ∧ (0 ≤ p ∧ p < P 1 (P 4 g 0) 0)) ∧ (0 ≤ r ∧ r < 6)
  · obtain ⟨⟨hg, hp⟩, hr⟩ := c1
    obtain ⟨e68, e01⟩ := hJ.1.1.G g r hg hr.1 hr.2
    rcases e01 with e0 | e0
    · have e6 : T (68, 0, 0, 0) (g * 6 + r) = 0 := e68.trans e0
      exact st_q' hJ hj (fun ad M d mc ms fs w0 P0 post h0 h82 hm hP0 => h_wouldRead h0 h82 hm hP0) (a_share (xJ_th hJ zR_0) hg hp hr (Or.inl ⟨(zst_k _ _ _ _ (by simp)).trans e6, rfl⟩)).symm (fun hX90 hX91 => c_X6_wouldRead (by first | assumption | rfl) (by first | assumption | rfl) (by first | assumption | rfl) (by first | assumption | rfl) (by first | assumption | rfl)) (fun hX90 => c_X7_wouldRead_0 (Q := P) (by first | assumption | rfl) (by first | assumption | rfl) (by first | assumption | rfl) (by first | assumption | rfl) (by first | assumption | rfl) (by first | assumption | rfl) (by first | assumption | rfl)) ⟨⟨by decide, by decide, by decide⟩, ⟨by decide, by decide, by decide⟩⟩
    · have e6 : T (68, 0, 0, 0) (g * 6 + r) = 1 := e68.trans e0
      exact st_q' hJ hj (fun ad M d mc ms fs w0 P0 post h0 h82 hm hP0 => h_wouldRead h0 h82 hm hP0) (a_share (xJ_th hJ zR_0) hg hp hr (Or.inr ⟨(zst_k _ _ _ _ (by simp)).trans e6, rfl⟩)).symm (fun hX90 hX91 => c_X6_wouldRead (by first | assumption | rfl) (by first | assumption | rfl) (by first | assumption | rfl) (by first | assumption | rfl) (by first | assumption | rfl)) (fun hX90 => c_X7_wouldRead_1 (Q := P) (by first | assumption | rfl) (by first | assumption | rfl) (by first | assumption | rfl) (by first | assumption | rfl) (by first | assumption | rfl) (by first | assumption | rfl) (by first | assumption | rfl)) ⟨⟨by decide, by decide, by decide⟩, ⟨by decide, by decide, by decide⟩⟩
  · exact st_no hJ hj (by decide) (fun ad M d mc ms fs h0 hm => h_wouldRead_1 h0 hm) (c_X6_wouldRead_x (by first | assumption | rfl) (by first | assumption | rfl) (by first | assumption | rfl) (by first | assumption | rfl) (by first | assumption | rfl) (by first | assumption | rfl) (by first | assumption | rfl)) (fun hX90 => c_X7_wouldRead_x (Q := P) (by first | assumption | rfl) (by first | assumption | rfl) (by first | assumption | rfl) (by first | assumption | rfl) (by first | assumption | rfl) (by first | assumption | rfl) (by first | assumption | rfl)) ⟨⟨by decide, by decide, by decide⟩, ⟨by decide, by decide, by decide⟩⟩
set_option maxHeartbeats 1000000 in
set_option maxRecDepth 100000 in
theorem s_wouldDrop {l : Launch} {Δ : zDl} {t : Int} (hst : l.stackTraces = false) (hr_t : zR t) : zCs l Δ yL_wouldDrop cL_wouldDrop 4 [(0, 9, 12, 21)] yX7_wouldDrop cX7_wouldDrop 2 .int [.int (zI t)] := by
  intro P T j w wd ad hJ hj hj2
  have hP := hJ.2.2.2.2.2.2
  have hW := hJ.2.2.2.2.1
  have hV := hJ.2.2.2.2.2.1
  by_cases c1 : 0 ≤ t ∧ t < P 0 0 0
  · exact st_q' hJ hj (fun ad M d mc ms fs w0 P0 post h0 h82 hm hP0 => h_wouldDrop h0 h82 hm hP0) (a_drop (xJ_th hJ zR_0) c1).symm (fun hX90 hX91 => c_X6_wouldDrop (by first | assumption | rfl) (by first | assumption | rfl) (by first | assumption | rfl)) (fun hX90 => by have h := @c_X7_wouldDrop l Δ ad P T _ P t hV hX90 c1 rfl; rw [mcl_0] at h; exact h) ⟨⟨by decide, by decide, by decide⟩, ⟨by decide, by decide, by decide⟩⟩
  · exact st_no hJ hj (by decide) (fun ad M d mc ms fs h0 hm => h_wouldDrop_1 h0 hm) (c_X6_wouldDrop_x (by first | assumption | rfl) (by first | assumption | rfl) (by first | assumption | rfl) (by first | assumption | rfl) (by first | assumption | rfl)) (fun hX90 => c_X7_wouldDrop_x (Q := P) (by first | assumption | rfl) (by first | assumption | rfl) (by first | assumption | rfl) (by first | assumption | rfl) (by first | assumption | rfl)) ⟨⟨by decide, by decide, by decide⟩, ⟨by decide, by decide, by decide⟩⟩
set_option maxHeartbeats 1000000 in
set_option maxRecDepth 100000 in
theorem s_setClock {l : Launch} {Δ : zDl} {x : Int} (hst : l.stackTraces = false) (hr_x : zR x) : zCs l Δ yL_setClock cL_setClock 4 [(0, 9, 12, 13)] yX7_setClock cX7_setClock 7 .int [.int (zI x)] := by
  intro P T j w wd ad hJ hj hj2
  have hP := hJ.2.2.2.2.2.2
  have hW := hJ.2.2.2.2.1
  have hV := hJ.2.2.2.2.2.1
  have e1 := hJ.1.1.A.1
  by_cases c1 : T (0, 0, 0, 0) 6 < x ∧ x ≤ 9999
  · have F1 : zfr k00 T (zkA P (lp (zv4 P x) 0 (P 0 0 0) (lp (zv3 P) 0 (P 3 0 0) (zst T (0, 0, 0, 0) 6 x, 0)).1)) := ((zfr.rf.st rfl).tr ((lp_fr2 (s := (zst T (0, 0, 0, 0) 6 x, 0)) fun o s => zv3_fr rfl rfl rfl rfl).tr (lp_fr fun o s => zv4_fr rfl rfl))).tr (zkA_fr rfl rfl rfl)
    have hS1 := zfr00_40 F1
    have hJ2 := xJ_th (v := 0) (xJ_M hS1 hJ) zR_0
    exact st_b (S1 := (zkA P (lp (zv4 P x) 0 (P 0 0 0) (lp (zv3 P) 0 (P 3 0 0) (zst T (0, 0, 0, 0) 6 x, 0)).1))) hJ hj (fun ad M d mc ms fs w0 P0 post h0 h82 hm hP0 => h_setClock h0 h82 hm hP0) (((zfr.rf.st rfl).tr ((lp_fr2 (s := (zst T (0, 0, 0, 0) 6 x, 0)) fun o s => zv3_fr rfl rfl rfl rfl).tr (lp_fr fun o s => zv4_fr rfl rfl))).tr (zkA_fr rfl rfl rfl)) (Int.le_trans (Int.le_of_eq (((((lp_fr2 (s := (zst T (0, 0, 0, 0) 6 x, 0)) fun o s => zv3_fr rfl rfl rfl rfl).tr (lp_fr fun o s => zv4_fr rfl rfl)).tr (zkA_fr rfl rfl rfl) : zfr kC (zst T (0, 0, 0, 0) 6 x) _) (0, 0, 0, 0) 4 rfl).trans (show zst T (0, 0, 0, 0) 6 x (0, 0, 0, 0) 4 = T (0, 0, 0, 0) 4 from zst_f _ _ _ (by decide)))) (Int.le_add_one (Int.le_refl _))) (((fr.rf.st rfl).tr (mv3_aM.tr (zfr_aM mv5_kM))).tr msa_aM) (fun hJ1 => by have h := o_clock hJ1 c1; exact ⟨h.1, h.2.symm⟩) (c_X6_setClock (by first | assumption | rfl) (by first | assumption | rfl) (by first | assumption | rfl)) (fun hV1 hS X9 hX90 => c_X7_setClock (Q := P) (S := (zkA P (lp (zv4 P x) 0 (P 0 0 0) (lp (zv3 P) 0 (P 3 0 0) (zst T (0, 0, 0, 0) 6 x, 0)).1))) (by first | assumption | rfl) (by first | assumption | rfl) (by first | assumption | rfl) (by rw [hS 40 _ (by decide), e1]; assumption) (fun k hk => by have h := (xJ_M hS1 hJ).1.2.2.2.2.2.2; exact h k hk) (fun g hg => r_mqw hJ.1.1.E hJ.2.2.2.2.2.1 hg)) ⟨⟨by decide, by decide, by decide⟩, ⟨by decide, by decide, by decide⟩⟩
  · exact st_no hJ hj (by decide) (fun ad M d mc ms fs h0 hm => h_setClock_1 h0 hm) (c_X6_setClock_y (by first | assumption | rfl) (by first | assumption | rfl) (by first | assumption | rfl) (by first | assumption | rfl) (by first | assumption | rfl)) (fun hX90 => c_X7_setClock_y (Q := P) (by first | assumption | rfl) (by first | assumption | rfl) (by first | assumption | rfl) (by first | assumption | rfl) (by rw [e1]; assumption)) ⟨⟨by decide, by decide, by decide⟩, ⟨by decide, by decide, by decide⟩⟩
set_option maxHeartbeats 1000000 in
set_option maxRecDepth 100000 in
theorem s_end {l : Launch} {Δ : zDl} {x b : Int} (hst : l.stackTraces = false) (hr_x : zR x) (hb : b = 0 ∨ b = 1) : zCs l Δ yL_end cL_end 5 [(0, 10, 13, 21), (0, 10, 17, 15)] yX7_end cX7_end 6 .int [.int (zI x), .int (zI b)] := by
  intro P T j w wd ad hJ hj hj2
  have hP := hJ.2.2.2.2.2.2
  have hW := hJ.2.2.2.2.1
  have hV := hJ.2.2.2.2.2.1
  have hr_b : zR b := ⟨by omega, by omega⟩
  by_cases c1 : 0 ≤ x ∧ x < 4
  · have e62 := (hJ.1.1.D x c1.1 c1.2).1
    by_cases c2 : T (3, 0, 0, 0) x = 0
    · exact st_no hJ hj (by decide) (fun ad M d mc ms fs h0 hm => h_end_2 h0 hm) (c_X6_end_y (by first | assumption | rfl) (by first | assumption | rfl) (by first | assumption | rfl) (by first | assumption | rfl) (by first | assumption | rfl)) (fun hX90 => c_X7_end_y (Q := P) (by first | assumption | rfl) (by first | assumption | rfl) (by first | assumption | rfl) (by first | assumption | rfl) (e62.mp c2)) ⟨⟨by decide, by decide, by decide⟩, ⟨by decide, by decide, by decide⟩⟩
    · have c3 : ¬ T (62, 0, 0, 0) x = -1 := fun q => c2 (e62.mpr q)
      rcases hb with hb | hb
      · exact st_b (S1 := (zkA P (lp (zse1 P x 1) 0 (P 0 0 0) (zst T (3, 0, 0, 0) x 0, 0)).1)) hJ hj (fun ad M d mc ms fs w0 P0 post h0 h82 hm hP0 => h_end h0 h82 hm hP0) (((zfr.rf.st rfl).tr (lp_fr2 (s := (zst T (3, 0, 0, 0) x 0, 0)) fun o s => zse1_fr rfl)).tr (zkA_fr rfl rfl rfl)) (Int.le_trans (Int.le_of_eq ((((zfr.rf.st rfl).tr (lp_fr2 (s := (zst T (3, 0, 0, 0) x 0, 0)) fun o s => zse1_fr rfl)).tr (zkA_fr rfl rfl rfl) : zfr kC T _) (0, 0, 0, 0) 4 rfl)) (Int.le_add_one (Int.le_refl _))) (((fr.rf.st rfl).st rfl).tr msa_aM) (fun hJ1 => by have h := o_end hJ1 c1 c2 (Or.inr ⟨rfl, rfl⟩); rw [zst_k (zkA P _) _ _ _ (by simp)] at h; exact ⟨h.1, h.2.symm⟩) (c_X6_end_0 (by first | assumption | rfl) (by first | assumption | rfl) (by first | assumption | rfl) (by first | assumption | rfl) (by first | assumption | rfl) hb) (fun hV1 hS X9 hX90 => c_X7_end_0 (Q := P) (S := (zkA P (lp (zse1 P x 1) 0 (P 0 0 0) (zst T (3, 0, 0, 0) x 0, 0)).1)) (by first | assumption | rfl) (by first | assumption | rfl) (by first | assumption | rfl) (by first | assumption | rfl) hb (by rw [hS 62 _ (by decide)]; exact c3)) ⟨⟨by decide, by decide, by decide⟩, ⟨by decide, by decide, by decide⟩⟩
      · exact st_b (S1 := (zkA P (lp (zse1 P x 0) 0 (P 0 0 0) (zst T (3, 0, 0, 0) x 0, 0)).1)) hJ hj (fun ad M d mc ms fs w0 P0 post h0 h82 hm hP0 => h_end h0 h82 hm hP0) (((zfr.rf.st rfl).tr (lp_fr2 (s := (zst T (3, 0, 0, 0) x 0, 0)) fun o s => zse1_fr rfl)).tr (zkA_fr rfl rfl rfl)) (Int.le_trans (Int.le_of_eq ((((zfr.rf.st rfl).tr (lp_fr2 (s := (zst T (3, 0, 0, 0) x 0, 0)) fun o s => zse1_fr rfl)).tr (zkA_fr rfl rfl rfl) : zfr kC T _) (0, 0, 0, 0) 4 rfl)) (Int.le_add_one (Int.le_refl _))) (((fr.rf.st rfl).st rfl).tr msa_aM) (fun hJ1 => by have h := o_end hJ1 c1 c2 (Or.inl ⟨rfl, rfl⟩); rw [zst_k (zkA P _) _ _ _ (by simp)] at h; exact ⟨h.1, h.2.symm⟩) (c_X6_end_1 (by first | assumption | rfl) (by first | assumption | rfl) (by first | assumption | rfl) (by first | assumption | rfl) (by first | assumption | rfl) (by omega)) (fun hV1 hS X9 hX90 => c_X7_end_1 (Q := P) (S := (zkA P (lp (zse1 P x 0) 0 (P 0 0 0) (zst T (3, 0, 0, 0) x 0, 0)).1)) (by first | assumption | rfl) (by first | assumption | rfl) (by first | assumption | rfl) (by first | assumption | rfl) (by omega) (by rw [hS 62 _ (by decide)]; exact c3)) ⟨⟨by decide, by decide, by decide⟩, ⟨by decide, by decide, by decide⟩⟩
  · exact st_no hJ hj (by decide) (fun ad M d mc ms fs h0 hm => h_end_1 h0 hm) (c_X6_end_x (by first | assumption | rfl) (by first | assumption | rfl) (by first | assumption | rfl) (by first | assumption | rfl) (by first | assumption | rfl)) (fun hX90 => c_X7_end_x (Q := P) (by first | assumption | rfl) (by first | assumption | rfl) (by first | assumption | rfl) (by first | assumption | rfl) (by first | assumption | rfl)) ⟨⟨by decide, by decide, by decide⟩, ⟨by decide, by decide, by decide⟩⟩
