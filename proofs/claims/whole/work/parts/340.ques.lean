/-! ===== the law's questions ===== -/
section STQ
variable {l : Launch} {Δ : zDl} {yw yc ym : MethodName} {bw bc bm : ByteArray} {mlw mlc mlm : Nat} {hh : List (Nat × Nat × Nat × Nat)} {rt : FieldType} {vs : List Value} {P : zP} {T : zS} {j : Int} {w : Int64} {wd : UInt64} {ad : zK → Nat}
theorem st_q' {d mc ms d2 mc2 ms2 : Nat} {r r' : Int} (hJ : xJ P T T) (hj : T (0, 0, 0, 0) 4 ≤ j) (ho : zWo l Δ yw bw mlw hh yc bc mlc vs) (he : r' = r) (h1 : ∀ {X : zMem}, X (90, 0, 0, 0) = none → X (91, 0, 0, 0) = none → zMn l Δ yc bc mlc (some .int) d mc ms (.ref (ad (0, 0, 0, 0)) :: vs) ad (mm Δ ad P T X) (zD (some (.int (zI r))) ad (mm Δ ad P T X)))
    (h2 : ∀ {X : zMem}, X (90, 0, 0, 0) = none → zMn l Δ ym bm mlm (some rt) d2 mc2 ms2 (.ref (ad (40, 0, 0, 0)) :: vs) ad (mm Δ ad P T X) (zD (some (.int (zI r'))) ad (mm Δ ad P (zst T (40, 0, 0, 0) 0 0) X))) (hr : zRq1 (d + 1) mc ms ∧ zRq d2 mc2 ms2) : zCa l Δ yw bw mlw hh ym bm mlm rt vs P T j w wd ad := by
  subst he
  obtain ⟨z, hz, e⟩ := zI_of (zI r')
  rw [e] at h1 h2
  exact st_q hJ hj ho hz rfl h1 h2 hr
theorem st_a' {d mc ms d2 mc2 ms2 : Nat} {r r' : Int} {S1 M2 : zS} (hj : T (0, 0, 0, 0) 4 ≤ j) (ho : zWo l Δ yw bw mlw hh yc bc mlc vs) (he : r' = r) (h1 : ∀ {X : zMem}, zMn l Δ yc bc mlc (some .int) d mc ms (.ref (ad (0, 0, 0, 0)) :: vs) ad (mm Δ ad P T X) (zD (some (.int (zI r))) ad (mm Δ ad P S1 X)))
    (h2 : ∀ {X : zMem}, X (90, 0, 0, 0) = none → zMn l Δ ym bm mlm (some rt) d2 mc2 ms2 (.ref (ad (40, 0, 0, 0)) :: vs) ad (mm Δ ad P S1 X) (zD (some (.int (zI r'))) ad (mm Δ ad P M2 X))) (hM : zfr k40 S1 M2) (h0 : M2 (40, 0, 0, 0) 0 = 0) (hJ : xJ P S1 M2) (h4 : S1 (0, 0, 0, 0) 4 ≤ T (0, 0, 0, 0) 4 + 1) (hr : zRq1 (d + 1) mc ms ∧ zRq d2 mc2 ms2) : zCa l Δ yw bw mlw hh ym bm mlm rt vs P T j w wd ad := by
  subst he
  obtain ⟨z, hz, e⟩ := zI_of (zI r')
  rw [e] at h1 h2
  exact st_a hj ho hz rfl h1 h2 hM h0 hJ h4 hr
end STQ
set_option maxHeartbeats 1000000 in
set_option maxRecDepth 100000 in
theorem s_start {l : Launch} {Δ : zDl} {t p : Int} (hst : l.stackTraces = false) (hr_t : zR t) (hr_p : zR p) : zCs l Δ yL_start cL_start 5 [(0, 10, 13, 21)] yX7_start cX7_start 3 .int [.int (zI t), .int (zI p)] := by
  intro P T j w wd ad hJ hj hj2
  have hP := hJ.2.2.2.2.2.2
  have hW := hJ.2.2.2.2.1
  have hV := hJ.2.2.2.2.2.1
  by_cases c1 : (0 ≤ t ∧ t < P 0 0 0) ∧ (0 ≤ p ∧ p < P 1 t 0)
  · obtain ⟨ht, hp⟩ := c1
    exact st_q' hJ hj (fun ad M d mc ms fs w0 P0 post h0 h82 hm hP0 => h_start h0 h82 hm hP0) (a_start (xJ_th hJ zR_0) ht hp).symm (fun hX90 hX91 => c_X6_start (by first | assumption | rfl) (by first | assumption | rfl) (by first | assumption | rfl) (by first | assumption | rfl)) (fun hX90 => c_X7_start (Q := P) (by first | assumption | rfl) (by first | assumption | rfl) (by first | assumption | rfl)) ⟨⟨by decide, by decide, by decide⟩, ⟨by decide, by decide, by decide⟩⟩
  · exact st_no hJ hj (by decide) (fun ad M d mc ms fs h0 hm => h_start_1 h0 hm) (c_X6_start_x (by first | assumption | rfl) (by first | assumption | rfl) (by first | assumption | rfl) (by first | assumption | rfl) (by first | assumption | rfl) (by first | assumption | rfl)) (fun hX90 => c_X7_start_x (Q := P) (by first | assumption | rfl) (by first | assumption | rfl) (by first | assumption | rfl) (by first | assumption | rfl)) ⟨⟨by decide, by decide, by decide⟩, ⟨by decide, by decide, by decide⟩⟩
set_option maxHeartbeats 1000000 in
set_option maxRecDepth 100000 in
theorem s_endOf {l : Launch} {Δ : zDl} {t p : Int} (hst : l.stackTraces = false) (hr_t : zR t) (hr_p : zR p) : zCs l Δ yL_endOf cL_endOf 5 [(0, 10, 13, 21)] yX7_endOf cX7_endOf 3 .int [.int (zI t), .int (zI p)] := by
  intro P T j w wd ad hJ hj hj2
  have hP := hJ.2.2.2.2.2.2
  have hW := hJ.2.2.2.2.1
  have hV := hJ.2.2.2.2.2.1
  by_cases c1 : (0 ≤ t ∧ t < P 0 0 0) ∧ (0 ≤ p ∧ p < P 1 t 0)
  · obtain ⟨ht, hp⟩ := c1
    exact st_q' hJ hj (fun ad M d mc ms fs w0 P0 post h0 h82 hm hP0 => h_endOf h0 h82 hm hP0) (a_end (xJ_th hJ zR_0) ht hp).symm (fun hX90 hX91 => c_X6_endOf (by first | assumption | rfl) (by first | assumption | rfl) (by first | assumption | rfl) (by first | assumption | rfl)) (fun hX90 => c_X7_endOf (Q := P) (by first | assumption | rfl) (by first | assumption | rfl) (by first | assumption | rfl)) ⟨⟨by decide, by decide, by decide⟩, ⟨by decide, by decide, by decide⟩⟩
  · exact st_no hJ hj (by decide) (fun ad M d mc ms fs h0 hm => h_endOf_1 h0 hm) (c_X6_endOf_x (by first | assumption | rfl) (by first | assumption | rfl) (by first | assumption | rfl) (by first | assumption | rfl) (by first | assumption | rfl) (by first | assumption | rfl)) (fun hX90 => c_X7_endOf_x (Q := P) (by first | assumption | rfl) (by first | assumption | rfl) (by first | assumption | rfl) (by first | assumption | rfl)) ⟨⟨by decide, by decide, by decide⟩, ⟨by decide, by decide, by decide⟩⟩
set_option maxHeartbeats 1000000 in
set_option maxRecDepth 100000 in
theorem s_stable {l : Launch} {Δ : zDl} {t p : Int} (hst : l.stackTraces = false) (hr_t : zR t) (hr_p : zR p) : zCs l Δ yL_stable cL_stable 5 [(0, 10, 13, 21)] yX7_stable cX7_stable 3 .int [.int (zI t), .int (zI p)] := by
  intro P T j w wd ad hJ hj hj2
  have hP := hJ.2.2.2.2.2.2
  have hW := hJ.2.2.2.2.1
  have hV := hJ.2.2.2.2.2.1
  by_cases c1 : (0 ≤ t ∧ t < P 0 0 0) ∧ (0 ≤ p ∧ p < P 1 t 0)
  · obtain ⟨ht, hp⟩ := c1
    exact st_q' hJ hj (fun ad M d mc ms fs w0 P0 post h0 h82 hm hP0 => h_stable h0 h82 hm hP0) (a_stable (xJ_th hJ zR_0) ht hp).symm (fun hX90 hX91 => c_X6_stable (by first | assumption | rfl) (by first | assumption | rfl) (by first | assumption | rfl) (by first | assumption | rfl)) (fun hX90 => c_X7_stable (Q := P) (by first | assumption | rfl) (by first | assumption | rfl) (by first | assumption | rfl) (by first | assumption | rfl)) ⟨⟨by decide, by decide, by decide⟩, ⟨by decide, by decide, by decide⟩⟩
  · exact st_no hJ hj (by decide) (fun ad M d mc ms fs h0 hm => h_stable_1 h0 hm) (c_X6_stable_x (by first | assumption | rfl) (by first | assumption | rfl) (by first | assumption | rfl) (by first | assumption | rfl) (by first | assumption | rfl) (by first | assumption | rfl)) (fun hX90 => c_X7_stable_x (Q := P) (by first | assumption | rfl) (by first | assumption | rfl) (by first | assumption | rfl) (by first | assumption | rfl) (by first | assumption | rfl)) ⟨⟨by decide, by decide, by decide⟩, ⟨by decide, by decide, by decide⟩⟩
set_option maxHeartbeats 1000000 in
set_option maxRecDepth 100000 in
theorem s_kept {l : Launch} {Δ : zDl} {t : Int} (hst : l.stackTraces = false) (hr_t : zR t) : zCs l Δ yL_kept cL_kept 4 [(0, 9, 12, 21)] yX7_kept cX7_kept 2 .int [.int (zI t)] := by
  intro P T j w wd ad hJ hj hj2
  have hP := hJ.2.2.2.2.2.2
  have hW := hJ.2.2.2.2.1
  have hV := hJ.2.2.2.2.2.1
  by_cases c1 : 0 ≤ t ∧ t < P 0 0 0
  · exact st_q' hJ hj (fun ad M d mc ms fs w0 P0 post h0 h82 hm hP0 => h_kept h0 h82 hm hP0) (a_kept (xJ_th hJ zR_0) c1).symm (fun hX90 hX91 => c_X6_kept (by first | assumption | rfl) (by first | assumption | rfl) (by first | assumption | rfl)) (fun hX90 => c_X7_kept (Q := P) (by first | assumption | rfl) (by first | assumption | rfl) (by first | assumption | rfl)) ⟨⟨by decide, by decide, by decide⟩, ⟨by decide, by decide, by decide⟩⟩
  · exact st_no hJ hj (by decide) (fun ad M d mc ms fs h0 hm => h_kept_1 h0 hm) (c_X6_kept_x (by first | assumption | rfl) (by first | assumption | rfl) (by first | assumption | rfl) (by first | assumption | rfl) (by first | assumption | rfl)) (fun hX90 => c_X7_kept_x (Q := P) (by first | assumption | rfl) (by first | assumption | rfl) (by first | assumption | rfl) (by first | assumption | rfl)) ⟨⟨by decide, by decide, by decide⟩, ⟨by decide, by decide, by decide⟩⟩
set_option maxHeartbeats 1000000 in
set_option maxRecDepth 100000 in
theorem s_reader {l : Launch} {Δ : zDl} {g p : Int} (hst : l.stackTraces = false) (hr_g : zR g) (hr_p : zR p) : zCs l Δ yL_reader cL_reader 5 [(0, 10, 13, 21)] yX7_reader cX7_reader 3 .int [.int (zI g), .int (zI p)] := by
  intro P T j w wd ad hJ hj hj2
  have hP := hJ.2.2.2.2.2.2
  have hW := hJ.2.2.2.2.1
  have hV := hJ.2.2.2.2.2.1
  by_cases c1 : (0 ≤ g ∧ g < P 3 0 0) ∧ (0 ≤ p ∧ p < P 1 (P 4 g 0) 0)
  · obtain ⟨hg, hp⟩ := c1
    exact st_q' hJ hj (fun ad M d mc ms fs w0 P0 post h0 h82 hm hP0 => h_reader h0 h82 hm hP0) (hJ.1.2.1 g p hg hp).2.2 (fun hX90 hX91 => c_X6_reader (by first | assumption | rfl) (by first | assumption | rfl) (by first | assumption | rfl) (by first | assumption | rfl)) (fun hX90 => c_X7_reader (Q := P) (by first | assumption | rfl) (by first | assumption | rfl) (by first | assumption | rfl)) ⟨⟨by decide, by decide, by decide⟩, ⟨by decide, by decide, by decide⟩⟩
  · exact st_no hJ hj (by decide) (fun ad M d mc ms fs h0 hm => h_reader_1 h0 hm) (c_X6_reader_x (by first | assumption | rfl) (by first | assumption | rfl) (by first | assumption | rfl) (by first | assumption | rfl) (by first | assumption | rfl) (by first | assumption | rfl)) (fun hX90 => c_X7_reader_x (Q := P) (by first | assumption | rfl) (by first | assumption | rfl) (by first | assumption | rfl) (by first | assumption | rfl)) ⟨⟨by decide, by decide, by decide⟩, ⟨by decide, by decide, by decide⟩⟩
set_option maxHeartbeats 1000000 in
set_option maxRecDepth 100000 in
theorem s_mark {l : Launch} {Δ : zDl} {g p : Int} (hst : l.stackTraces = false) (hr_g : zR g) (hr_p : zR p) : zCs l Δ yL_mark cL_mark 5 [(0, 10, 13, 21)] yX7_mark cX7_mark 3 .int [.int (zI g), .int (zI p)] := by
  intro P T j w wd ad hJ hj hj2
  have hP := hJ.2.2.2.2.2.2
  have hW := hJ.2.2.2.2.1
  have hV := hJ.2.2.2.2.2.1
  by_cases c1 : (0 ≤ g ∧ g < P 3 0 0) ∧ (0 ≤ p ∧ p < P 1 (P 4 g 0) 0)
  · obtain ⟨hg, hp⟩ := c1
    exact st_q' hJ hj (fun ad M d mc ms fs w0 P0 post h0 h82 hm hP0 => h_mark h0 h82 hm hP0) (hJ.1.2.1 g p hg hp).1 (fun hX90 hX91 => c_X6_mark (by first | assumption | rfl) (by first | assumption | rfl) (by first | assumption | rfl) (by first | assumption | rfl)) (fun hX90 => c_X7_mark (Q := P) (by first | assumption | rfl) (by first | assumption | rfl) (by first | assumption | rfl)) ⟨⟨by decide, by decide, by decide⟩, ⟨by decide, by decide, by decide⟩⟩
  · exact st_no hJ hj (by decide) (fun ad M d mc ms fs h0 hm => h_mark_1 h0 hm) (c_X6_mark_x (by first | assumption | rfl) (by first | assumption | rfl) (by first | assumption | rfl) (by first | assumption | rfl) (by first | assumption | rfl) (by first | assumption | rfl)) (fun hX90 => c_X7_mark_x (Q := P) (by first | assumption | rfl) (by first | assumption | rfl) (by first | assumption | rfl) (by first | assumption | rfl)) ⟨⟨by decide, by decide, by decide⟩, ⟨by decide, by decide, by decide⟩⟩
set_option maxHeartbeats 1000000 in
set_option maxRecDepth 100000 in
theorem s_cursor {l : Launch} {Δ : zDl} {g p : Int} (hst : l.stackTraces = false) (hr_g : zR g) (hr_p : zR p) : zCs l Δ yL_cursor cL_cursor 5 [(0, 10, 13, 21)] yX7_cursor cX7_cursor 3 .int [.int (zI g), .int (zI p)] := by
  intro P T j w wd ad hJ hj hj2
  have hP := hJ.2.2.2.2.2.2
  have hW := hJ.2.2.2.2.1
  have hV := hJ.2.2.2.2.2.1
  by_cases c1 : (0 ≤ g ∧ g < P 3 0 0) ∧ (0 ≤ p ∧ p < P 1 (P 4 g 0) 0)
  · obtain ⟨hg, hp⟩ := c1
    exact st_q' hJ hj (fun ad M d mc ms fs w0 P0 post h0 h82 hm hP0 => h_cursor h0 h82 hm hP0) (hJ.1.2.1 g p hg hp).2.1 (fun hX90 hX91 => c_X6_cursor (by first | assumption | rfl) (by first | assumption | rfl) (by first | assumption | rfl) (by first | assumption | rfl)) (fun hX90 => c_X7_cursor (Q := P) (by first | assumption | rfl) (by first | assumption | rfl) (by first | assumption | rfl)) ⟨⟨by decide, by decide, by decide⟩, ⟨by decide, by decide, by decide⟩⟩
  · exact st_no hJ hj (by decide) (fun ad M d mc ms fs h0 hm => h_cursor_1 h0 hm) (c_X6_cursor_x (by first | assumption | rfl) (by first | assumption | rfl) (by first | assumption | rfl) (by first | assumption | rfl) (by first | assumption | rfl) (by first | assumption | rfl)) (fun hX90 => c_X7_cursor_x (Q := P) (by first | assumption | rfl) (by first | assumption | rfl) (by first | assumption | rfl) (by first | assumption | rfl)) ⟨⟨by decide, by decide, by decide⟩, ⟨by decide, by decide, by decide⟩⟩
set_option maxHeartbeats 1000000 in
set_option maxRecDepth 100000 in
theorem s_lag {l : Launch} {Δ : zDl} {g p : Int} (hst : l.stackTraces = false) (hr_g : zR g) (hr_p : zR p) : zCs l Δ yL_lag cL_lag 5 [(0, 10, 13, 21)] yX7_lag cX7_lag 3 .int [.int (zI g), .int (zI p)] := by
  intro P T j w wd ad hJ hj hj2
  have hP := hJ.2.2.2.2.2.2
  have hW := hJ.2.2.2.2.1
  have hV := hJ.2.2.2.2.2.1
  by_cases c1 : (0 ≤ g ∧ g < P 3 0 0) ∧ (0 ≤ p ∧ p < P 1 (P 4 g 0) 0)
  · obtain ⟨hg, hp⟩ := c1
    exact st_q' hJ hj (fun ad M d mc ms fs w0 P0 post h0 h82 hm hP0 => h_lag h0 h82 hm hP0) (a_lag (xJ_th hJ zR_0) hg hp).symm (fun hX90 hX91 => c_X6_lag (by first | assumption | rfl) (by first | assumption | rfl) (by first | assumption | rfl) (by first | assumption | rfl)) (fun hX90 => c_X7_lag (Q := P) (by first | assumption | rfl) (by first | assumption | rfl) (by first | assumption | rfl) (by first | assumption | rfl)) ⟨⟨by decide, by decide, by decide⟩, ⟨by decide, by decide, by decide⟩⟩
  · exact st_no hJ hj (by decide) (fun ad M d mc ms fs h0 hm => h_lag_1 h0 hm) (c_X6_lag_x (by first | assumption | rfl) (by first | assumption | rfl) (by first | assumption | rfl) (by first | assumption | rfl) (by first | assumption | rfl) (by first | assumption | rfl)) (fun hX90 => c_X7_lag_x (Q := P) (by first | assumption | rfl) (by first | assumption | rfl) (by first | assumption | rfl) (by first | assumption | rfl) (by first | assumption | rfl)) ⟨⟨by decide, by decide, by decide⟩, ⟨by decide, by decide, by decide⟩⟩
set_option maxHeartbeats 1000000 in
set_option maxRecDepth 100000 in
theorem s_state {l : Launch} {Δ : zDl} {g p o : Int} (hst : l.stackTraces = false) (hr_g : zR g) (hr_p : zR p) (hr_o : zR o) : zCs l Δ yL_state cL_state 6 [(0, 12, 15, 21)] yX7_state cX7_state 4 .int [.int (zI g), .int (zI p), .int (zI o)] := by
  intro P T j w wd ad hJ hj hj2
  have hP := hJ.2.2.2.2.2.2
  have hW := hJ.2.2.2.2.1
  have hV := hJ.2.2.2.2.2.1
  by_cases c1 : ((0 ≤ g ∧ g < P 3 0 0) ∧ (0 ≤ p ∧ p < P 1 (P 4 g 0) 0)) ∧ (0 ≤ o ∧ o < P 2 (P 4 g 0) p)
  · obtain ⟨⟨hg, hp⟩, ho⟩ := c1
    exact st_q' hJ hj (fun ad M d mc ms fs w0 P0 post h0 h82 hm hP0 => h_state h0 h82 hm hP0) (a_cell (xJ_th hJ zR_0) hg hp ho).1.symm (fun hX90 hX91 => c_X6_state (by first | assumption | rfl) (by first | assumption | rfl) (by first | assumption | rfl) (by first | assumption | rfl) (by first | assumption | rfl)) (fun hX90 => c_X7_state (Q := P) (by first | assumption | rfl) (by first | assumption | rfl) (by first | assumption | rfl) (by first | assumption | rfl)) ⟨⟨by decide, by decide, by decide⟩, ⟨by decide, by decide, by decide⟩⟩
  · exact st_no hJ hj (by decide) (fun ad M d mc ms fs h0 hm => h_state_1 h0 hm) (c_X6_state_x (by first | assumption | rfl) (by first | assumption | rfl) (by first | assumption | rfl) (by first | assumption | rfl) (by first | assumption | rfl) (by first | assumption | rfl) (by first | assumption | rfl)) (fun hX90 => c_X7_state_x (Q := P) (by first | assumption | rfl) (by first | assumption | rfl) (by first | assumption | rfl) (by first | assumption | rfl) (by first | assumption | rfl)) ⟨⟨by decide, by decide, by decide⟩, ⟨by decide, by decide, by decide⟩⟩
set_option maxHeartbeats 1000000 in
set_option maxRecDepth 100000 in
theorem s_tries {l : Launch} {Δ : zDl} {g p o : Int} (hst : l.stackTraces = false) (hr_g : zR g) (hr_p : zR p) (hr_o : zR o) : zCs l Δ yL_tries cL_tries 6 [(0, 12, 15, 21)] yX7_tries cX7_tries 4 .int [.int (zI g), .int (zI p), .int (zI o)] := by
  intro P T j w wd ad hJ hj hj2
  have hP := hJ.2.2.2.2.2.2
  have hW := hJ.2.2.2.2.1
  have hV := hJ.2.2.2.2.2.1
  by_cases c1 : ((0 ≤ g ∧ g < P 3 0 0) ∧ (0 ≤ p ∧ p < P 1 (P 4 g 0) 0)) ∧ (0 ≤ o ∧ o < P 2 (P 4 g 0) p)
  · obtain ⟨⟨hg, hp⟩, ho⟩ := c1
    exact st_q' hJ hj (fun ad M d mc ms fs w0 P0 post h0 h82 hm hP0 => h_tries h0 h82 hm hP0) (a_cell (xJ_th hJ zR_0) hg hp ho).2.symm (fun hX90 hX91 => c_X6_tries (by first | assumption | rfl) (by first | assumption | rfl) (by first | assumption | rfl) (by first | assumption | rfl) (by first | assumption | rfl)) (fun hX90 => c_X7_tries (Q := P) (by first | assumption | rfl) (by first | assumption | rfl) (by first | assumption | rfl) (by first | assumption | rfl)) ⟨⟨by decide, by decide, by decide⟩, ⟨by decide, by decide, by decide⟩⟩
  · exact st_no hJ hj (by decide) (fun ad M d mc ms fs h0 hm => h_tries_1 h0 hm) (c_X6_tries_x (by first | assumption | rfl) (by first | assumption | rfl) (by first | assumption | rfl) (by first | assumption | rfl) (by first | assumption | rfl) (by first | assumption | rfl) (by first | assumption | rfl)) (fun hX90 => c_X7_tries_x (Q := P) (by first | assumption | rfl) (by first | assumption | rfl) (by first | assumption | rfl) (by first | assumption | rfl) (by first | assumption | rfl)) ⟨⟨by decide, by decide, by decide⟩, ⟨by decide, by decide, by decide⟩⟩
set_option maxHeartbeats 1000000 in
set_option maxRecDepth 100000 in
theorem s_aside {l : Launch} {Δ : zDl} {g : Int} (hst : l.stackTraces = false) (hr_g : zR g) : zCs l Δ yL_aside cL_aside 4 [(0, 9, 12, 21)] yX7_aside cX7_aside 2 .int [.int (zI g)] := by
  intro P T j w wd ad hJ hj hj2
  have hP := hJ.2.2.2.2.2.2
  have hW := hJ.2.2.2.2.1
  have hV := hJ.2.2.2.2.2.1
  by_cases c1 : 0 ≤ g ∧ g < P 3 0 0
  · exact st_q' hJ hj (fun ad M d mc ms fs w0 P0 post h0 h82 hm hP0 => h_aside h0 h82 hm hP0) (a_aside (xJ_th hJ zR_0) c1 (by decide)).symm (fun hX90 hX91 => c_X6_aside (by first | assumption | rfl) (by first | assumption | rfl) (by first | assumption | rfl)) (fun hX90 => c_X7_aside (Q := P) (by first | assumption | rfl) (by first | assumption | rfl)) ⟨⟨by decide, by decide, by decide⟩, ⟨by decide, by decide, by decide⟩⟩
  · exact st_no hJ hj (by decide) (fun ad M d mc ms fs h0 hm => h_aside_1 h0 hm) (c_X6_aside_x (by first | assumption | rfl) (by first | assumption | rfl) (by first | assumption | rfl) (by first | assumption | rfl) (by first | assumption | rfl)) (fun hX90 => c_X7_aside_x (Q := P) (by first | assumption | rfl) (by first | assumption | rfl) (by first | assumption | rfl)) ⟨⟨by decide, by decide, by decide⟩, ⟨by decide, by decide, by decide⟩⟩
set_option maxHeartbeats 1000000 in
set_option maxRecDepth 100000 in
theorem s_wouldTake {l : Launch} {Δ : zDl} {g r : Int} (hst : l.stackTraces = false) (hr_g : zR g) (hr_r : zR r) : zCs l Δ yL_wouldTake cL_wouldTake 5 [(0, 10, 13, 21)] yX7_wouldTake cX7_wouldTake 3 .int [.int (zI g), .int (zI r)] := by
  intro P T j w wd ad hJ hj hj2
  have hP := hJ.2.2.2.2.2.2
  have hW := hJ.2.2.2.2.1
  have hV := hJ.2.2.2.2.2.1
  by_cases c1 : (0 ≤ g ∧ g < P 3 0 0) ∧ (0 ≤ r ∧ r < 6)
  · obtain ⟨hg, hr⟩ := c1
    exact st_q' hJ hj (fun ad M d mc ms fs w0 P0 post h0 h82 hm hP0 => h_wouldTake h0 h82 hm hP0) (a_would (xJ_th hJ zR_0) hg hr).symm (fun hX90 hX91 => c_X6_wouldTake (by first | assumption | rfl) (by first | assumption | rfl) (by first | assumption | rfl) (by first | assumption | rfl)) (fun hX90 => c_X7_wouldTake (Q := P) (by first | assumption | rfl) (by first | assumption | rfl) (by first | assumption | rfl) (by first | assumption | rfl)) ⟨⟨by decide, by decide, by decide⟩, ⟨by decide, by decide, by decide⟩⟩
  · exact st_no hJ hj (by decide) (fun ad M d mc ms fs h0 hm => h_wouldTake_1 h0 hm) (c_X6_wouldTake_x (by first | assumption | rfl) (by first | assumption | rfl) (by first | assumption | rfl) (by first | assumption | rfl) (by first | assumption | rfl) (by first | assumption | rfl)) (fun hX90 => c_X7_wouldTake_x (Q := P) (by first | assumption | rfl) (by first | assumption | rfl) (by first | assumption | rfl) (by first | assumption | rfl) (by first | assumption | rfl)) ⟨⟨by decide, by decide, by decide⟩, ⟨by decide, by decide, by decide⟩⟩
set_option maxHeartbeats 1000000 in
set_option maxRecDepth 100000 in
theorem s_nextTime {l : Launch} {Δ : zDl} {g : Int} (hst : l.stackTraces = false) (hr_g : zR g) : zCs l Δ yL_nextTime cL_nextTime 4 [(0, 9, 12, 21)] yX7_nextTime cX7_nextTime 2 .int [.int (zI g)] := by
  intro P T j w wd ad hJ hj hj2
  have hP := hJ.2.2.2.2.2.2
  have hW := hJ.2.2.2.2.1
  have hV := hJ.2.2.2.2.2.1
  by_cases c1 : 0 ≤ g ∧ g < P 3 0 0
  · exact st_q' hJ hj (fun ad M d mc ms fs w0 P0 post h0 h82 hm hP0 => h_nextTime h0 h82 hm hP0) (a_next (xJ_th hJ zR_0) c1).symm (fun hX90 hX91 => c_X6_nextTime (by first | assumption | rfl) (by first | assumption | rfl) (by first | assumption | rfl)) (fun hX90 => c_X7_nextTime (Q := P) (by first | assumption | rfl) (by first | assumption | rfl) (by first | assumption | rfl)) ⟨⟨by decide, by decide, by decide⟩, ⟨by decide, by decide, by decide⟩⟩
  · exact st_no hJ hj (by decide) (fun ad M d mc ms fs h0 hm => h_nextTime_1 h0 hm) (c_X6_nextTime_x (by first | assumption | rfl) (by first | assumption | rfl) (by first | assumption | rfl) (by first | assumption | rfl) (by first | assumption | rfl)) (fun hX90 => c_X7_nextTime_x (Q := P) (by first | assumption | rfl) (by first | assumption | rfl) (by first | assumption | rfl) (by first | assumption | rfl)) ⟨⟨by decide, by decide, by decide⟩, ⟨by decide, by decide, by decide⟩⟩
set_option maxHeartbeats 1000000 in
set_option maxRecDepth 100000 in
theorem s_message {l : Launch} {Δ : zDl} {t p o u : Int} (hst : l.stackTraces = false) (hr_t : zR t) (hr_p : zR p) (hr_o : zR o) (hr_u : zR u) : zCs l Δ yL_message cL_message 7 [(0, 14, 17, 21), (0, 14, 21, 13)] yX7_message cX7_message 5 .int [.int (zI t), .int (zI p), .int (zI o), .int (zI u)] := by
  intro P T j w wd ad hJ hj hj2
  have hP := hJ.2.2.2.2.2.2
  have hW := hJ.2.2.2.2.1
  have hV := hJ.2.2.2.2.2.1
  by_cases c1 : ((0 ≤ t ∧ t < P 0 0 0) ∧ (0 ≤ p ∧ p < P 1 t 0)) ∧ (0 ≤ o ∧ o < P 2 t p)
  · obtain ⟨⟨ht, hp⟩, ho⟩ := c1
    by_cases c2 : 0 ≤ u ∧ u ≤ 4
    · exact st_q' hJ hj (fun ad M d mc ms fs w0 P0 post h0 h82 hm hP0 => h_message h0 h82 hm hP0) (a_msg (xJ_th hJ zR_0) ht hp ho).symm (fun hX90 hX91 => c_X6_message (by first | assumption | rfl) (by first | assumption | rfl) (by first | assumption | rfl) (by first | assumption | rfl) (by first | assumption | rfl) (by first | assumption | rfl)) (fun hX90 => c_X7_message (Q := P) (by first | assumption | rfl) (by first | assumption | rfl) (by first | assumption | rfl) (by first | assumption | rfl) (by first | assumption | rfl) (by first | assumption | rfl)) ⟨⟨by decide, by decide, by decide⟩, ⟨by decide, by decide, by decide⟩⟩
    · exact st_no hJ hj (by decide) (fun ad M d mc ms fs h0 hm => h_message_2 h0 hm) (c_X6_message_y (by first | assumption | rfl) (by first | assumption | rfl) (by first | assumption | rfl) (by first | assumption | rfl) (by first | assumption | rfl) (by first | assumption | rfl) (by first | assumption | rfl) (by first | assumption | rfl)) (fun hX90 => c_X7_message_y (Q := P) (by first | assumption | rfl) (by first | assumption | rfl) (by first | assumption | rfl) (by first | assumption | rfl) (by first | assumption | rfl) (by first | assumption | rfl) (by first | assumption | rfl)) ⟨⟨by decide, by decide, by decide⟩, ⟨by decide, by decide, by decide⟩⟩
  · exact st_no hJ hj (by decide) (fun ad M d mc ms fs h0 hm => h_message_1 h0 hm) (c_X6_message_x (by first | assumption | rfl) (by first | assumption | rfl) (by first | assumption | rfl) (by first | assumption | rfl) (by first | assumption | rfl) (by first | assumption | rfl) (by first | assumption | rfl)) (fun hX90 => c_X7_message_x (Q := P) (by first | assumption | rfl) (by first | assumption | rfl) (by first | assumption | rfl) (by first | assumption | rfl) (by first | assumption | rfl) (by first | assumption | rfl) (by first | assumption | rfl)) ⟨⟨by decide, by decide, by decide⟩, ⟨by decide, by decide, by decide⟩⟩
set_option maxHeartbeats 1000000 in
set_option maxRecDepth 100000 in
theorem s_row {l : Launch} {Δ : zDl} {x u : Int} (hst : l.stackTraces = false) (hr_x : zR x) (hr_u : zR u) : zCs l Δ yL_row cL_row 5 [(0, 10, 13, 21), (0, 10, 17, 13)] yX7_row cX7_row 3 .int [.int (zI x), .int (zI u)] := by
  intro P T j w wd ad hJ hj hj2
  have hP := hJ.2.2.2.2.2.2
  have hW := hJ.2.2.2.2.1
  have hV := hJ.2.2.2.2.2.1
  have e32 : T (40, 0, 0, 0) 32 = T (1, 0, 0, 0) 1 := hJ.2.1.1
  by_cases c1 : 0 ≤ x ∧ x < T (1, 0, 0, 0) 1
  · by_cases c2 : 0 ≤ u ∧ u ≤ 4
    · exact st_q' hJ hj (fun ad M d mc ms fs w0 P0 post h0 h82 hm hP0 => h_row h0 h82 hm hP0) (a_row (xJ_th hJ zR_0)).symm (fun hX90 hX91 => c_X6_row (by first | assumption | rfl) (by first | assumption | rfl) (by first | assumption | rfl) (by first | assumption | rfl)) (fun hX90 => c_X7_row (Q := P) (by first | assumption | rfl) (by rw [e32]; assumption) (by first | assumption | rfl)) ⟨⟨by decide, by decide, by decide⟩, ⟨by decide, by decide, by decide⟩⟩
    · exact st_no hJ hj (by decide) (fun ad M d mc ms fs h0 hm => h_row_2 h0 hm) (c_X6_row_y (by first | assumption | rfl) (by first | assumption | rfl) (by first | assumption | rfl) (by first | assumption | rfl) (by first | assumption | rfl) (by first | assumption | rfl)) (fun hX90 => c_X7_row_y (Q := P) (by first | assumption | rfl) (by first | assumption | rfl) (by rw [e32]; assumption) (by first | assumption | rfl)) ⟨⟨by decide, by decide, by decide⟩, ⟨by decide, by decide, by decide⟩⟩
  · exact st_no hJ hj (by decide) (fun ad M d mc ms fs h0 hm => h_row_1 h0 hm) (c_X6_row_x (by first | assumption | rfl) (by first | assumption | rfl) (by first | assumption | rfl) (by first | assumption | rfl) (by first | assumption | rfl)) (fun hX90 => c_X7_row_x (Q := P) (by first | assumption | rfl) (by first | assumption | rfl) (by first | assumption | rfl) (by rw [e32]; assumption)) ⟨⟨by decide, by decide, by decide⟩, ⟨by decide, by decide, by decide⟩⟩
