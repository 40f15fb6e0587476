/-! ===== the law's wrappers: each answers 0 and lays down what the class answered, or the number of the exception ===== -/
theorem cl_xIAE : Cond.classLink RL 13 "java/lang/IllegalArgumentException" ∈ zAW := zAW_of 261 (by decide +kernel) (by decide +kernel)
theorem ca_xIAE : Cond.castable "java/lang/IllegalArgumentException" "java/lang/IllegalArgumentException" ∈ zNW := zNW_of 272 (by decide +kernel) (by decide +kernel)
theorem cl_xISE : Cond.classLink RL 15 "java/lang/IllegalStateException" ∈ zAW := zAW_of 262 (by decide +kernel) (by decide +kernel)
theorem ca_xISE : Cond.castable "java/lang/IllegalStateException" "java/lang/IllegalStateException" ∈ zNW := zNW_of 340 (by decide +kernel) (by decide +kernel)
theorem cl_xIOOB : Cond.classLink RL 21 "java/lang/IndexOutOfBoundsException" ∈ zAW := zAW_of 452 (by decide +kernel) (by decide +kernel)
theorem ca_xIOOB : Cond.castable "java/lang/IndexOutOfBoundsException" "java/lang/IndexOutOfBoundsException" ∈ zNW := zNW_of 463 (by decide +kernel) (by decide +kernel)
theorem hk_topic : zCH RL 123 yL_topic cL_topic 5 (some .int) [(0, 10, 13, 13), (0, 10, 17, 15)] 4 := ⟨zAW_of 258 (by decide +kernel) (by decide +kernel), zAW_of 259 (by decide +kernel) (by decide +kernel), zAW_of 0 (by decide +kernel) (by decide +kernel), zAW_of 260 (by decide +kernel) (by decide +kernel), by decide, by decide, by decide +kernel⟩
set_option maxHeartbeats 1000000 in
set_option maxRecDepth 100000 in
theorem h_topic {P0 : zPo} {l : Launch} {Δ : zDl} {ad : zK → Nat} {M : zMem} {p1 p2 : Int} {d mc ms : Nat} {fs : List Value} {w0 : Int64} {post : Int → (zK → Nat) → zMem → Prop} (h0 : M (0, 0, 0, 0) = some (.inr (7, fs))) (h82 : M (82, 0, 0, 0) = some (zLo Δ w0)) (hm : zMn l Δ yX6_topic cX6_topic 3 (some .int) d mc ms [.ref (ad (0, 0, 0, 0)), .int (zI p1), .int (zI p2)] ad M P0) (hP0 : ∀ v ad' M', P0 v ad' M' → ∃ r, v = some (.int (zI r)) ∧ zR r ∧ ad' (82, 0, 0, 0) = ad (82, 0, 0, 0) ∧ M' (82, 0, 0, 0) = some (zLo Δ w0) ∧ post r ad' M') : zMh l Δ yL_topic cL_topic 5 (some .int) [(0, 10, 13, 13), (0, 10, 17, 15)] (d + 1) mc ms [.ref (ad (0, 0, 0, 0)), .int (zI p1), .int (zI p2), .ref (ad (82, 0, 0, 0))] ad M (fun v ad' M' => v = some (.int (zI 0)) ∧ ∃ r M1, zR r ∧ post r ad' M1 ∧ M' = zup1 M1 (82, 0, 0, 0) (some (zLo Δ (zL r)))) := by
  refine zMh_of (by decide) (Nat.le_of_ble_eq_true rfl) (fun Γ hl hΔ hF htab hNc => ?_)
  subst hl hΔ
  show G Γ _ _ _ RL _ _ _ _ _ [(0, .ref (ad (0, 0, 0, 0))), (1, .int (zI p1)), (2, .int (zI p2)), (3, .ref (ad (82, 0, 0, 0)))] []
  refine G_aload_n (pc := 0) 3 3 dL_topic_0 rfl rfl ?_
  refine G_iconst (pc := 1) dL_topic_1 ?_
  refine G_aload_n (pc := 2) 0 0 dL_topic_2 rfl rfl ?_
  refine G_iload_n (pc := 3) 1 1 dL_topic_3 rfl rfl ?_
  refine G_iload_n (pc := 4) 2 2 dL_topic_4 rfl rfl ?_
  refine G_callV (pc := 5) gk_L_7 dL_topic_5 h0 rfl hm rfl rfl (Nat.le_of_ble_eq_true rfl) ⟨⟨Nat.le_refl _, by show 8 + (3 + 11) + 38 * d ≤ 38 * (d + 1); omega⟩, by show 0 + mc ≤ mc; omega, by show 0 + ms ≤ ms; omega⟩ (fun v ad1 M1 hpo => ?_)
  obtain ⟨r, rfl, hr, ha, h82', hp⟩ := hP0 _ _ _ hpo
  show G Γ _ _ _ _ _ _ _ _ _ _ [.int (zI r), .int (zI 0), .ref (ad (82, 0, 0, 0))]
  rw [← ha]
  refine G_i2l (pc := 8) dL_topic_8 hr ?_
  refine G_last (pc := 9) dL_topic_9 h82' ?_
  refine G_goto (pc := 10) 21 dL_topic_10 (by decide) ?_
  refine G_iconst (pc := 21) dL_topic_21 ?_
  refine G_iret (pc := 22) hF dL_topic_22 ⟨by omega, by omega⟩ ⟨rfl, r, M1, hr, hp, rfl⟩
set_option maxHeartbeats 1000000 in
set_option maxRecDepth 100000 in
theorem h_topic_1 {l : Launch} {Δ : zDl} {ad : zK → Nat} {M : zMem} {p1 p2 : Int} {d mc ms : Nat} {fs : List Value} (h0 : M (0, 0, 0, 0) = some (.inr (7, fs))) (hm : zMx l Δ yX6_topic cX6_topic 3 (some .int) d mc ms [.ref (ad (0, 0, 0, 0)), .int (zI p1), .int (zI p2)] ad M zF0 (zE "java/lang/IllegalArgumentException" ad M)) : zMh l Δ yL_topic cL_topic 5 (some .int) [(0, 10, 13, 13), (0, 10, 17, 15)] (d + 1) mc ms [.ref (ad (0, 0, 0, 0)), .int (zI p1), .int (zI p2), .ref (ad (82, 0, 0, 0))] ad M (zD (some (.int (zI 1))) ad M) := by
  refine zMh_of (by decide) (Nat.le_of_ble_eq_true rfl) (fun Γ hl hΔ hF htab hNc => ?_)
  subst hl hΔ
  show G Γ _ _ _ RL _ _ _ _ _ [(0, .ref (ad (0, 0, 0, 0))), (1, .int (zI p1)), (2, .int (zI p2)), (3, .ref (ad (82, 0, 0, 0)))] []
  refine G_aload_n (pc := 0) 3 3 dL_topic_0 rfl rfl ?_
  refine G_iconst (pc := 1) dL_topic_1 ?_
  refine G_aload_n (pc := 2) 0 0 dL_topic_2 rfl rfl ?_
  refine G_iload_n (pc := 3) 1 1 dL_topic_3 rfl rfl ?_
  refine G_iload_n (pc := 4) 2 2 dL_topic_4 rfl rfl ?_
  refine G_callVx (pc := 5) gk_L_7 dL_topic_5 h0 rfl hm rfl rfl (Nat.le_of_ble_eq_true rfl) ⟨⟨Nat.le_refl _, by show 8 + (3 + 11) + 38 * d ≤ 38 * (d + 1); omega⟩, by show 0 + mc ≤ mc; omega, by show 0 + ms ≤ ms; omega⟩ (fun E ad1 M1 hE => ?_) (fun v ad1 M1 h => h.elim)
  obtain ⟨e1, e2, e3⟩ := hE
  rw [e1, e2, e3]
  refine zGX_catch [] ⟨0, 10, 13, 13⟩ [⟨0, 10, 17, 15⟩] (htab.trans rfl) (fun z hz => absurd hz List.not_mem_nil) rfl (by decide) cl_xIAE ca_xIAE (fun q => ?_)
  refine G_astore (pc := 13) [(4, .ref q), (0, .ref (ad (0, 0, 0, 0))), (1, .int (zI p1)), (2, .int (zI p2)), (3, .ref (ad (82, 0, 0, 0)))] dL_topic_13 (by decide) rfl ?_
  refine G_iconst (pc := 15) dL_topic_15 ?_
  exact G_iret (pc := 16) hF dL_topic_16 ⟨by omega, by omega⟩ ⟨rfl, rfl, rfl⟩
set_option maxHeartbeats 1000000 in
set_option maxRecDepth 100000 in
theorem h_topic_2 {l : Launch} {Δ : zDl} {ad : zK → Nat} {M : zMem} {p1 p2 : Int} {d mc ms : Nat} {fs : List Value} (h0 : M (0, 0, 0, 0) = some (.inr (7, fs))) (hm : zMx l Δ yX6_topic cX6_topic 3 (some .int) d mc ms [.ref (ad (0, 0, 0, 0)), .int (zI p1), .int (zI p2)] ad M zF0 (zE "java/lang/IllegalStateException" ad M)) : zMh l Δ yL_topic cL_topic 5 (some .int) [(0, 10, 13, 13), (0, 10, 17, 15)] (d + 1) mc ms [.ref (ad (0, 0, 0, 0)), .int (zI p1), .int (zI p2), .ref (ad (82, 0, 0, 0))] ad M (zD (some (.int (zI 2))) ad M) := by
  refine zMh_of (by decide) (Nat.le_of_ble_eq_true rfl) (fun Γ hl hΔ hF htab hNc => ?_)
  subst hl hΔ
  show G Γ _ _ _ RL _ _ _ _ _ [(0, .ref (ad (0, 0, 0, 0))), (1, .int (zI p1)), (2, .int (zI p2)), (3, .ref (ad (82, 0, 0, 0)))] []
  refine G_aload_n (pc := 0) 3 3 dL_topic_0 rfl rfl ?_
  refine G_iconst (pc := 1) dL_topic_1 ?_
  refine G_aload_n (pc := 2) 0 0 dL_topic_2 rfl rfl ?_
  refine G_iload_n (pc := 3) 1 1 dL_topic_3 rfl rfl ?_
  refine G_iload_n (pc := 4) 2 2 dL_topic_4 rfl rfl ?_
  refine G_callVx (pc := 5) gk_L_7 dL_topic_5 h0 rfl hm rfl rfl (Nat.le_of_ble_eq_true rfl) ⟨⟨Nat.le_refl _, by show 8 + (3 + 11) + 38 * d ≤ 38 * (d + 1); omega⟩, by show 0 + mc ≤ mc; omega, by show 0 + ms ≤ ms; omega⟩ (fun E ad1 M1 hE => ?_) (fun v ad1 M1 h => h.elim)
  obtain ⟨e1, e2, e3⟩ := hE
  rw [e1, e2, e3]
  refine zGX_catch [⟨0, 10, 13, 13⟩] ⟨0, 10, 17, 15⟩ [] (htab.trans rfl) (fun z hz => by rw [List.mem_singleton.mp hz]; exact ⟨by decide, _, cl_xIAE, hNc.2.2⟩) rfl (by decide) cl_xISE ca_xISE (fun q => ?_)
  refine G_astore (pc := 17) [(4, .ref q), (0, .ref (ad (0, 0, 0, 0))), (1, .int (zI p1)), (2, .int (zI p2)), (3, .ref (ad (82, 0, 0, 0)))] dL_topic_17 (by decide) rfl ?_
  refine G_iconst (pc := 19) dL_topic_19 ?_
  exact G_iret (pc := 20) hF dL_topic_20 ⟨by omega, by omega⟩ ⟨rfl, rfl, rfl⟩
theorem hk_send : zCH RL 133 yL_send cL_send 8 (some .int) [(0, 16, 19, 21), (0, 16, 23, 13), (0, 16, 27, 15)] 7 := ⟨zAW_of 449 (by decide +kernel) (by decide +kernel), zAW_of 450 (by decide +kernel) (by decide +kernel), zAW_of 0 (by decide +kernel) (by decide +kernel), zAW_of 451 (by decide +kernel) (by decide +kernel), by decide, by decide, by decide +kernel⟩
set_option maxHeartbeats 1000000 in
set_option maxRecDepth 100000 in
theorem h_send {P0 : zPo} {l : Launch} {Δ : zDl} {ad : zK → Nat} {M : zMem} {p1 p2 p3 p4 p5 : Int} {d mc ms : Nat} {fs : List Value} {w0 : Int64} {post : Int → (zK → Nat) → zMem → Prop} (h0 : M (0, 0, 0, 0) = some (.inr (7, fs))) (h82 : M (82, 0, 0, 0) = some (zLo Δ w0)) (hm : zMn l Δ yX6_send cX6_send 9 (some .int) d mc ms [.ref (ad (0, 0, 0, 0)), .int (zI p1), .int (zI p2), .int (zI p3), .int (zI p4), .int (zI p5)] ad M P0) (hP0 : ∀ v ad' M', P0 v ad' M' → ∃ r, v = some (.int (zI r)) ∧ zR r ∧ ad' (82, 0, 0, 0) = ad (82, 0, 0, 0) ∧ M' (82, 0, 0, 0) = some (zLo Δ w0) ∧ post r ad' M') : zMh l Δ yL_send cL_send 8 (some .int) [(0, 16, 19, 21), (0, 16, 23, 13), (0, 16, 27, 15)] (d + 1) mc ms [.ref (ad (0, 0, 0, 0)), .int (zI p1), .int (zI p2), .int (zI p3), .int (zI p4), .int (zI p5), .ref (ad (82, 0, 0, 0))] ad M (fun v ad' M' => v = some (.int (zI 0)) ∧ ∃ r M1, zR r ∧ post r ad' M1 ∧ M' = zup1 M1 (82, 0, 0, 0) (some (zLo Δ (zL r)))) := by
  refine zMh_of (by decide) (Nat.le_of_ble_eq_true rfl) (fun Γ hl hΔ hF htab hNc => ?_)
  subst hl hΔ
  show G Γ _ _ _ RL _ _ _ _ _ [(0, .ref (ad (0, 0, 0, 0))), (1, .int (zI p1)), (2, .int (zI p2)), (3, .int (zI p3)), (4, .int (zI p4)), (5, .int (zI p5)), (6, .ref (ad (82, 0, 0, 0)))] []
  refine G_aload (pc := 0) 6 dL_send_0 rfl ?_
  refine G_iconst (pc := 2) dL_send_2 ?_
  refine G_aload_n (pc := 3) 0 0 dL_send_3 rfl rfl ?_
  refine G_iload_n (pc := 4) 1 1 dL_send_4 rfl rfl ?_
  refine G_iload_n (pc := 5) 2 2 dL_send_5 rfl rfl ?_
  refine G_iload_n (pc := 6) 3 3 dL_send_6 rfl rfl ?_
  refine G_iload (pc := 7) 4 dL_send_7 rfl ?_
  refine G_iload (pc := 9) 5 dL_send_9 rfl ?_
  refine G_callV (pc := 11) gk_L_17 dL_send_11 h0 rfl hm rfl rfl (Nat.le_of_ble_eq_true rfl) ⟨⟨Nat.le_refl _, by show 8 + (9 + 11) + 38 * d ≤ 38 * (d + 1); omega⟩, by show 0 + mc ≤ mc; omega, by show 0 + ms ≤ ms; omega⟩ (fun v ad1 M1 hpo => ?_)
  obtain ⟨r, rfl, hr, ha, h82', hp⟩ := hP0 _ _ _ hpo
  show G Γ _ _ _ _ _ _ _ _ _ _ [.int (zI r), .int (zI 0), .ref (ad (82, 0, 0, 0))]
  rw [← ha]
  refine G_i2l (pc := 14) dL_send_14 hr ?_
  refine G_last (pc := 15) dL_send_15 h82' ?_
  refine G_goto (pc := 16) 31 dL_send_16 (by decide) ?_
  refine G_iconst (pc := 31) dL_send_31 ?_
  refine G_iret (pc := 32) hF dL_send_32 ⟨by omega, by omega⟩ ⟨rfl, r, M1, hr, hp, rfl⟩
set_option maxHeartbeats 1000000 in
set_option maxRecDepth 100000 in
theorem h_send_1 {l : Launch} {Δ : zDl} {ad : zK → Nat} {M : zMem} {p1 p2 p3 p4 p5 : Int} {d mc ms : Nat} {fs : List Value} (h0 : M (0, 0, 0, 0) = some (.inr (7, fs))) (hm : zMx l Δ yX6_send cX6_send 9 (some .int) d mc ms [.ref (ad (0, 0, 0, 0)), .int (zI p1), .int (zI p2), .int (zI p3), .int (zI p4), .int (zI p5)] ad M zF0 (zE "java/lang/IndexOutOfBoundsException" ad M)) : zMh l Δ yL_send cL_send 8 (some .int) [(0, 16, 19, 21), (0, 16, 23, 13), (0, 16, 27, 15)] (d + 1) mc ms [.ref (ad (0, 0, 0, 0)), .int (zI p1), .int (zI p2), .int (zI p3), .int (zI p4), .int (zI p5), .ref (ad (82, 0, 0, 0))] ad M (zD (some (.int (zI 1))) ad M) := by
  refine zMh_of (by decide) (Nat.le_of_ble_eq_true rfl) (fun Γ hl hΔ hF htab hNc => ?_)
  subst hl hΔ
  show G Γ _ _ _ RL _ _ _ _ _ [(0, .ref (ad (0, 0, 0, 0))), (1, .int (zI p1)), (2, .int (zI p2)), (3, .int (zI p3)), (4, .int (zI p4)), (5, .int (zI p5)), (6, .ref (ad (82, 0, 0, 0)))] []
  refine G_aload (pc := 0) 6 dL_send_0 rfl ?_
  refine G_iconst (pc := 2) dL_send_2 ?_
  refine G_aload_n (pc := 3) 0 0 dL_send_3 rfl rfl ?_
  refine G_iload_n (pc := 4) 1 1 dL_send_4 rfl rfl ?_
  refine G_iload_n (pc := 5) 2 2 dL_send_5 rfl rfl ?_
  refine G_iload_n (pc := 6) 3 3 dL_send_6 rfl rfl ?_
  refine G_iload (pc := 7) 4 dL_send_7 rfl ?_
  refine G_iload (pc := 9) 5 dL_send_9 rfl ?_
  refine G_callVx (pc := 11) gk_L_17 dL_send_11 h0 rfl hm rfl rfl (Nat.le_of_ble_eq_true rfl) ⟨⟨Nat.le_refl _, by show 8 + (9 + 11) + 38 * d ≤ 38 * (d + 1); omega⟩, by show 0 + mc ≤ mc; omega, by show 0 + ms ≤ ms; omega⟩ (fun E ad1 M1 hE => ?_) (fun v ad1 M1 h => h.elim)
  obtain ⟨e1, e2, e3⟩ := hE
  rw [e1, e2, e3]
  refine zGX_catch [] ⟨0, 16, 19, 21⟩ [⟨0, 16, 23, 13⟩, ⟨0, 16, 27, 15⟩] (htab.trans rfl) (fun z hz => absurd hz List.not_mem_nil) rfl (by decide) cl_xIOOB ca_xIOOB (fun q => ?_)
  refine G_astore (pc := 19) [(7, .ref q), (0, .ref (ad (0, 0, 0, 0))), (1, .int (zI p1)), (2, .int (zI p2)), (3, .int (zI p3)), (4, .int (zI p4)), (5, .int (zI p5)), (6, .ref (ad (82, 0, 0, 0)))] dL_send_19 (by decide) rfl ?_
  refine G_iconst (pc := 21) dL_send_21 ?_
  exact G_iret (pc := 22) hF dL_send_22 ⟨by omega, by omega⟩ ⟨rfl, rfl, rfl⟩
set_option maxHeartbeats 1000000 in
set_option maxRecDepth 100000 in
theorem h_send_2 {l : Launch} {Δ : zDl} {ad : zK → Nat} {M : zMem} {p1 p2 p3 p4 p5 : Int} {d mc ms : Nat} {fs : List Value} (h0 : M (0, 0, 0, 0) = some (.inr (7, fs))) (hm : zMx l Δ yX6_send cX6_send 9 (some .int) d mc ms [.ref (ad (0, 0, 0, 0)), .int (zI p1), .int (zI p2), .int (zI p3), .int (zI p4), .int (zI p5)] ad M zF0 (zE "java/lang/IllegalArgumentException" ad M)) : zMh l Δ yL_send cL_send 8 (some .int) [(0, 16, 19, 21), (0, 16, 23, 13), (0, 16, 27, 15)] (d + 1) mc ms [.ref (ad (0, 0, 0, 0)), .int (zI p1), .int (zI p2), .int (zI p3), .int (zI p4), .int (zI p5), .ref (ad (82, 0, 0, 0))] ad M (zD (some (.int (zI 2))) ad M) := by
  refine zMh_of (by decide) (Nat.le_of_ble_eq_true rfl) (fun Γ hl hΔ hF htab hNc => ?_)
  subst hl hΔ
  show G Γ _ _ _ RL _ _ _ _ _ [(0, .ref (ad (0, 0, 0, 0))), (1, .int (zI p1)), (2, .int (zI p2)), (3, .int (zI p3)), (4, .int (zI p4)), (5, .int (zI p5)), (6, .ref (ad (82, 0, 0, 0)))] []
  refine G_aload (pc := 0) 6 dL_send_0 rfl ?_
  refine G_iconst (pc := 2) dL_send_2 ?_
  refine G_aload_n (pc := 3) 0 0 dL_send_3 rfl rfl ?_
  refine G_iload_n (pc := 4) 1 1 dL_send_4 rfl rfl ?_
  refine G_iload_n (pc := 5) 2 2 dL_send_5 rfl rfl ?_
  refine G_iload_n (pc := 6) 3 3 dL_send_6 rfl rfl ?_
  refine G_iload (pc := 7) 4 dL_send_7 rfl ?_
  refine G_iload (pc := 9) 5 dL_send_9 rfl ?_
  refine G_callVx (pc := 11) gk_L_17 dL_send_11 h0 rfl hm rfl rfl (Nat.le_of_ble_eq_true rfl) ⟨⟨Nat.le_refl _, by show 8 + (9 + 11) + 38 * d ≤ 38 * (d + 1); omega⟩, by show 0 + mc ≤ mc; omega, by show 0 + ms ≤ ms; omega⟩ (fun E ad1 M1 hE => ?_) (fun v ad1 M1 h => h.elim)
  obtain ⟨e1, e2, e3⟩ := hE
  rw [e1, e2, e3]
  refine zGX_catch [⟨0, 16, 19, 21⟩] ⟨0, 16, 23, 13⟩ [⟨0, 16, 27, 15⟩] (htab.trans rfl) (fun z hz => by rw [List.mem_singleton.mp hz]; exact ⟨by decide, _, cl_xIOOB, hNc.1⟩) rfl (by decide) cl_xIAE ca_xIAE (fun q => ?_)
  refine G_astore (pc := 23) [(7, .ref q), (0, .ref (ad (0, 0, 0, 0))), (1, .int (zI p1)), (2, .int (zI p2)), (3, .int (zI p3)), (4, .int (zI p4)), (5, .int (zI p5)), (6, .ref (ad (82, 0, 0, 0)))] dL_send_23 (by decide) rfl ?_
  refine G_iconst (pc := 25) dL_send_25 ?_
  exact G_iret (pc := 26) hF dL_send_26 ⟨by omega, by omega⟩ ⟨rfl, rfl, rfl⟩
set_option maxHeartbeats 1000000 in
set_option maxRecDepth 100000 in
theorem h_send_3 {l : Launch} {Δ : zDl} {ad : zK → Nat} {M : zMem} {p1 p2 p3 p4 p5 : Int} {d mc ms : Nat} {fs : List Value} (h0 : M (0, 0, 0, 0) = some (.inr (7, fs))) (hm : zMx l Δ yX6_send cX6_send 9 (some .int) d mc ms [.ref (ad (0, 0, 0, 0)), .int (zI p1), .int (zI p2), .int (zI p3), .int (zI p4), .int (zI p5)] ad M zF0 (zE "java/lang/IllegalStateException" ad M)) : zMh l Δ yL_send cL_send 8 (some .int) [(0, 16, 19, 21), (0, 16, 23, 13), (0, 16, 27, 15)] (d + 1) mc ms [.ref (ad (0, 0, 0, 0)), .int (zI p1), .int (zI p2), .int (zI p3), .int (zI p4), .int (zI p5), .ref (ad (82, 0, 0, 0))] ad M (zD (some (.int (zI 3))) ad M) := by
  refine zMh_of (by decide) (Nat.le_of_ble_eq_true rfl) (fun Γ hl hΔ hF htab hNc => ?_)
  subst hl hΔ
  show G Γ _ _ _ RL _ _ _ _ _ [(0, .ref (ad (0, 0, 0, 0))), (1, .int (zI p1)), (2, .int (zI p2)), (3, .int (zI p3)), (4, .int (zI p4)), (5, .int (zI p5)), (6, .ref (ad (82, 0, 0, 0)))] []
  refine G_aload (pc := 0) 6 dL_send_0 rfl ?_
  refine G_iconst (pc := 2) dL_send_2 ?_
  refine G_aload_n (pc := 3) 0 0 dL_send_3 rfl rfl ?_
  refine G_iload_n (pc := 4) 1 1 dL_send_4 rfl rfl ?_
  refine G_iload_n (pc := 5) 2 2 dL_send_5 rfl rfl ?_
  refine G_iload_n (pc := 6) 3 3 dL_send_6 rfl rfl ?_
  refine G_iload (pc := 7) 4 dL_send_7 rfl ?_
  refine G_iload (pc := 9) 5 dL_send_9 rfl ?_
  refine G_callVx (pc := 11) gk_L_17 dL_send_11 h0 rfl hm rfl rfl (Nat.le_of_ble_eq_true rfl) ⟨⟨Nat.le_refl _, by show 8 + (9 + 11) + 38 * d ≤ 38 * (d + 1); omega⟩, by show 0 + mc ≤ mc; omega, by show 0 + ms ≤ ms; omega⟩ (fun E ad1 M1 hE => ?_) (fun v ad1 M1 h => h.elim)
  obtain ⟨e1, e2, e3⟩ := hE
  rw [e1, e2, e3]
  refine zGX_catch [⟨0, 16, 19, 21⟩, ⟨0, 16, 23, 13⟩] ⟨0, 16, 27, 15⟩ [] (htab.trans rfl) (fun z hz => by
    rcases List.mem_cons.mp hz with hz | hz
    · rw [hz]; exact ⟨by decide, _, cl_xIOOB, hNc.2.1⟩
    · rw [List.mem_singleton.mp hz]; exact ⟨by decide, _, cl_xIAE, hNc.2.2⟩) rfl (by decide) cl_xISE ca_xISE (fun q => ?_)
  refine G_astore (pc := 27) [(7, .ref q), (0, .ref (ad (0, 0, 0, 0))), (1, .int (zI p1)), (2, .int (zI p2)), (3, .int (zI p3)), (4, .int (zI p4)), (5, .int (zI p5)), (6, .ref (ad (82, 0, 0, 0)))] dL_send_27 (by decide) rfl ?_
  refine G_iconst (pc := 29) dL_send_29 ?_
  exact G_iret (pc := 30) hF dL_send_30 ⟨by omega, by omega⟩ ⟨rfl, rfl, rfl⟩
theorem hk_begin : zCH RL 137 yL_begin cL_begin 4 (some .int) [(0, 9, 12, 21), (0, 9, 15, 15)] 3 := ⟨zAW_of 526 (by decide +kernel) (by decide +kernel), zAW_of 527 (by decide +kernel) (by decide +kernel), zAW_of 0 (by decide +kernel) (by decide +kernel), zAW_of 528 (by decide +kernel) (by decide +kernel), by decide, by decide, by decide +kernel⟩
set_option maxHeartbeats 1000000 in
set_option maxRecDepth 100000 in
theorem h_begin {P0 : zPo} {l : Launch} {Δ : zDl} {ad : zK → Nat} {M : zMem} {p1 : Int} {d mc ms : Nat} {fs : List Value} {w0 : Int64} {post : Int → (zK → Nat) → zMem → Prop} (h0 : M (0, 0, 0, 0) = some (.inr (7, fs))) (h82 : M (82, 0, 0, 0) = some (zLo Δ w0)) (hm : zMn l Δ yX6_begin cX6_begin 2 (some .int) d mc ms [.ref (ad (0, 0, 0, 0)), .int (zI p1)] ad M P0) (hP0 : ∀ v ad' M', P0 v ad' M' → ∃ r, v = some (.int (zI r)) ∧ zR r ∧ ad' (82, 0, 0, 0) = ad (82, 0, 0, 0) ∧ M' (82, 0, 0, 0) = some (zLo Δ w0) ∧ post r ad' M') : zMh l Δ yL_begin cL_begin 4 (some .int) [(0, 9, 12, 21), (0, 9, 15, 15)] (d + 1) mc ms [.ref (ad (0, 0, 0, 0)), .int (zI p1), .ref (ad (82, 0, 0, 0))] ad M (fun v ad' M' => v = some (.int (zI 0)) ∧ ∃ r M1, zR r ∧ post r ad' M1 ∧ M' = zup1 M1 (82, 0, 0, 0) (some (zLo Δ (zL r)))) := by
  refine zMh_of (by decide) (Nat.le_of_ble_eq_true rfl) (fun Γ hl hΔ hF htab hNc => ?_)
  subst hl hΔ
  show G Γ _ _ _ RL _ _ _ _ _ [(0, .ref (ad (0, 0, 0, 0))), (1, .int (zI p1)), (2, .ref (ad (82, 0, 0, 0)))] []
  refine G_aload_n (pc := 0) 2 2 dL_begin_0 rfl rfl ?_
  refine G_iconst (pc := 1) dL_begin_1 ?_
  refine G_aload_n (pc := 2) 0 0 dL_begin_2 rfl rfl ?_
  refine G_iload_n (pc := 3) 1 1 dL_begin_3 rfl rfl ?_
  refine G_callV (pc := 4) gk_L_23 dL_begin_4 h0 rfl hm rfl rfl (Nat.le_of_ble_eq_true rfl) ⟨⟨Nat.le_refl _, by show 8 + (2 + 11) + 38 * d ≤ 38 * (d + 1); omega⟩, by show 0 + mc ≤ mc; omega, by show 0 + ms ≤ ms; omega⟩ (fun v ad1 M1 hpo => ?_)
  obtain ⟨r, rfl, hr, ha, h82', hp⟩ := hP0 _ _ _ hpo
  show G Γ _ _ _ _ _ _ _ _ _ _ [.int (zI r), .int (zI 0), .ref (ad (82, 0, 0, 0))]
  rw [← ha]
  refine G_i2l (pc := 7) dL_begin_7 hr ?_
  refine G_last (pc := 8) dL_begin_8 h82' ?_
  refine G_goto (pc := 9) 18 dL_begin_9 (by decide) ?_
  refine G_iconst (pc := 18) dL_begin_18 ?_
  refine G_iret (pc := 19) hF dL_begin_19 ⟨by omega, by omega⟩ ⟨rfl, r, M1, hr, hp, rfl⟩
set_option maxHeartbeats 1000000 in
set_option maxRecDepth 100000 in
theorem h_begin_1 {l : Launch} {Δ : zDl} {ad : zK → Nat} {M : zMem} {p1 : Int} {d mc ms : Nat} {fs : List Value} (h0 : M (0, 0, 0, 0) = some (.inr (7, fs))) (hm : zMx l Δ yX6_begin cX6_begin 2 (some .int) d mc ms [.ref (ad (0, 0, 0, 0)), .int (zI p1)] ad M zF0 (zE "java/lang/IndexOutOfBoundsException" ad M)) : zMh l Δ yL_begin cL_begin 4 (some .int) [(0, 9, 12, 21), (0, 9, 15, 15)] (d + 1) mc ms [.ref (ad (0, 0, 0, 0)), .int (zI p1), .ref (ad (82, 0, 0, 0))] ad M (zD (some (.int (zI 1))) ad M) := by
  refine zMh_of (by decide) (Nat.le_of_ble_eq_true rfl) (fun Γ hl hΔ hF htab hNc => ?_)
  subst hl hΔ
  show G Γ _ _ _ RL _ _ _ _ _ [(0, .ref (ad (0, 0, 0, 0))), (1, .int (zI p1)), (2, .ref (ad (82, 0, 0, 0)))] []
  refine G_aload_n (pc := 0) 2 2 dL_begin_0 rfl rfl ?_
  refine G_iconst (pc := 1) dL_begin_1 ?_
  refine G_aload_n (pc := 2) 0 0 dL_begin_2 rfl rfl ?_
  refine G_iload_n (pc := 3) 1 1 dL_begin_3 rfl rfl ?_
  refine G_callVx (pc := 4) gk_L_23 dL_begin_4 h0 rfl hm rfl rfl (Nat.le_of_ble_eq_true rfl) ⟨⟨Nat.le_refl _, by show 8 + (2 + 11) + 38 * d ≤ 38 * (d + 1); omega⟩, by show 0 + mc ≤ mc; omega, by show 0 + ms ≤ ms; omega⟩ (fun E ad1 M1 hE => ?_) (fun v ad1 M1 h => h.elim)
  obtain ⟨e1, e2, e3⟩ := hE
  rw [e1, e2, e3]
  refine zGX_catch [] ⟨0, 9, 12, 21⟩ [⟨0, 9, 15, 15⟩] (htab.trans rfl) (fun z hz => absurd hz List.not_mem_nil) rfl (by decide) cl_xIOOB ca_xIOOB (fun q => ?_)
  refine G_astore_n (pc := 12) 3 [(3, .ref q), (0, .ref (ad (0, 0, 0, 0))), (1, .int (zI p1)), (2, .ref (ad (82, 0, 0, 0)))] dL_begin_12 rfl (by decide) rfl ?_
  refine G_iconst (pc := 13) dL_begin_13 ?_
  exact G_iret (pc := 14) hF dL_begin_14 ⟨by omega, by omega⟩ ⟨rfl, rfl, rfl⟩
set_option maxHeartbeats 1000000 in
set_option maxRecDepth 100000 in
theorem h_begin_2 {l : Launch} {Δ : zDl} {ad : zK → Nat} {M : zMem} {p1 : Int} {d mc ms : Nat} {fs : List Value} (h0 : M (0, 0, 0, 0) = some (.inr (7, fs))) (hm : zMx l Δ yX6_begin cX6_begin 2 (some .int) d mc ms [.ref (ad (0, 0, 0, 0)), .int (zI p1)] ad M zF0 (zE "java/lang/IllegalStateException" ad M)) : zMh l Δ yL_begin cL_begin 4 (some .int) [(0, 9, 12, 21), (0, 9, 15, 15)] (d + 1) mc ms [.ref (ad (0, 0, 0, 0)), .int (zI p1), .ref (ad (82, 0, 0, 0))] ad M (zD (some (.int (zI 2))) ad M) := by
  refine zMh_of (by decide) (Nat.le_of_ble_eq_true rfl) (fun Γ hl hΔ hF htab hNc => ?_)
  subst hl hΔ
  show G Γ _ _ _ RL _ _ _ _ _ [(0, .ref (ad (0, 0, 0, 0))), (1, .int (zI p1)), (2, .ref (ad (82, 0, 0, 0)))] []
  refine G_aload_n (pc := 0) 2 2 dL_begin_0 rfl rfl ?_
  refine G_iconst (pc := 1) dL_begin_1 ?_
  refine G_aload_n (pc := 2) 0 0 dL_begin_2 rfl rfl ?_
  refine G_iload_n (pc := 3) 1 1 dL_begin_3 rfl rfl ?_
  refine G_callVx (pc := 4) gk_L_23 dL_begin_4 h0 rfl hm rfl rfl (Nat.le_of_ble_eq_true rfl) ⟨⟨Nat.le_refl _, by show 8 + (2 + 11) + 38 * d ≤ 38 * (d + 1); omega⟩, by show 0 + mc ≤ mc; omega, by show 0 + ms ≤ ms; omega⟩ (fun E ad1 M1 hE => ?_) (fun v ad1 M1 h => h.elim)
  obtain ⟨e1, e2, e3⟩ := hE
  rw [e1, e2, e3]
  refine zGX_catch [⟨0, 9, 12, 21⟩] ⟨0, 9, 15, 15⟩ [] (htab.trans rfl) (fun z hz => by rw [List.mem_singleton.mp hz]; exact ⟨by decide, _, cl_xIOOB, hNc.2.1⟩) rfl (by decide) cl_xISE ca_xISE (fun q => ?_)
  refine G_astore_n (pc := 15) 3 [(3, .ref q), (0, .ref (ad (0, 0, 0, 0))), (1, .int (zI p1)), (2, .ref (ad (82, 0, 0, 0)))] dL_begin_15 rfl (by decide) rfl ?_
  refine G_iconst (pc := 16) dL_begin_16 ?_
  exact G_iret (pc := 17) hF dL_begin_17 ⟨by omega, by omega⟩ ⟨rfl, rfl, rfl⟩
theorem hk_end : zCH RL 141 yL_end cL_end 5 (some .int) [(0, 10, 13, 21), (0, 10, 17, 15)] 4 := ⟨zAW_of 534 (by decide +kernel) (by decide +kernel), zAW_of 535 (by decide +kernel) (by decide +kernel), zAW_of 0 (by decide +kernel) (by decide +kernel), zAW_of 536 (by decide +kernel) (by decide +kernel), by decide, by decide, by decide +kernel⟩
set_option maxHeartbeats 1000000 in
set_option maxRecDepth 100000 in
theorem h_end {P0 : zPo} {l : Launch} {Δ : zDl} {ad : zK → Nat} {M : zMem} {p1 p2 : Int} {d mc ms : Nat} {fs : List Value} {w0 : Int64} {post : Int → (zK → Nat) → zMem → Prop} (h0 : M (0, 0, 0, 0) = some (.inr (7, fs))) (h82 : M (82, 0, 0, 0) = some (zLo Δ w0)) (hm : zMn l Δ yX6_end cX6_end 5 (some .int) d mc ms [.ref (ad (0, 0, 0, 0)), .int (zI p1), .int (zI p2)] ad M P0) (hP0 : ∀ v ad' M', P0 v ad' M' → ∃ r, v = some (.int (zI r)) ∧ zR r ∧ ad' (82, 0, 0, 0) = ad (82, 0, 0, 0) ∧ M' (82, 0, 0, 0) = some (zLo Δ w0) ∧ post r ad' M') : zMh l Δ yL_end cL_end 5 (some .int) [(0, 10, 13, 21), (0, 10, 17, 15)] (d + 1) mc ms [.ref (ad (0, 0, 0, 0)), .int (zI p1), .int (zI p2), .ref (ad (82, 0, 0, 0))] ad M (fun v ad' M' => v = some (.int (zI 0)) ∧ ∃ r M1, zR r ∧ post r ad' M1 ∧ M' = zup1 M1 (82, 0, 0, 0) (some (zLo Δ (zL r)))) := by
  refine zMh_of (by decide) (Nat.le_of_ble_eq_true rfl) (fun Γ hl hΔ hF htab hNc => ?_)
  subst hl hΔ
  show G Γ _ _ _ RL _ _ _ _ _ [(0, .ref (ad (0, 0, 0, 0))), (1, .int (zI p1)), (2, .int (zI p2)), (3, .ref (ad (82, 0, 0, 0)))] []
  refine G_aload_n (pc := 0) 3 3 dL_end_0 rfl rfl ?_
  refine G_iconst (pc := 1) dL_end_1 ?_
  refine G_aload_n (pc := 2) 0 0 dL_end_2 rfl rfl ?_
  refine G_iload_n (pc := 3) 1 1 dL_end_3 rfl rfl ?_
  refine G_iload_n (pc := 4) 2 2 dL_end_4 rfl rfl ?_
  refine G_callV (pc := 5) gk_L_27 dL_end_5 h0 rfl hm rfl rfl (Nat.le_of_ble_eq_true rfl) ⟨⟨Nat.le_refl _, by show 8 + (5 + 11) + 38 * d ≤ 38 * (d + 1); omega⟩, by show 0 + mc ≤ mc; omega, by show 0 + ms ≤ ms; omega⟩ (fun v ad1 M1 hpo => ?_)
  obtain ⟨r, rfl, hr, ha, h82', hp⟩ := hP0 _ _ _ hpo
  show G Γ _ _ _ _ _ _ _ _ _ _ [.int (zI r), .int (zI 0), .ref (ad (82, 0, 0, 0))]
  rw [← ha]
  refine G_i2l (pc := 8) dL_end_8 hr ?_
  refine G_last (pc := 9) dL_end_9 h82' ?_
  refine G_goto (pc := 10) 21 dL_end_10 (by decide) ?_
  refine G_iconst (pc := 21) dL_end_21 ?_
  refine G_iret (pc := 22) hF dL_end_22 ⟨by omega, by omega⟩ ⟨rfl, r, M1, hr, hp, rfl⟩
set_option maxHeartbeats 1000000 in
set_option maxRecDepth 100000 in
theorem h_end_1 {l : Launch} {Δ : zDl} {ad : zK → Nat} {M : zMem} {p1 p2 : Int} {d mc ms : Nat} {fs : List Value} (h0 : M (0, 0, 0, 0) = some (.inr (7, fs))) (hm : zMx l Δ yX6_end cX6_end 5 (some .int) d mc ms [.ref (ad (0, 0, 0, 0)), .int (zI p1), .int (zI p2)] ad M zF0 (zE "java/lang/IndexOutOfBoundsException" ad M)) : zMh l Δ yL_end cL_end 5 (some .int) [(0, 10, 13, 21), (0, 10, 17, 15)] (d + 1) mc ms [.ref (ad (0, 0, 0, 0)), .int (zI p1), .int (zI p2), .ref (ad (82, 0, 0, 0))] ad M (zD (some (.int (zI 1))) ad M) := by
  refine zMh_of (by decide) (Nat.le_of_ble_eq_true rfl) (fun Γ hl hΔ hF htab hNc => ?_)
  subst hl hΔ
  show G Γ _ _ _ RL _ _ _ _ _ [(0, .ref (ad (0, 0, 0, 0))), (1, .int (zI p1)), (2, .int (zI p2)), (3, .ref (ad (82, 0, 0, 0)))] []
  refine G_aload_n (pc := 0) 3 3 dL_end_0 rfl rfl ?_
  refine G_iconst (pc := 1) dL_end_1 ?_
  refine G_aload_n (pc := 2) 0 0 dL_end_2 rfl rfl ?_
  refine G_iload_n (pc := 3) 1 1 dL_end_3 rfl rfl ?_
  refine G_iload_n (pc := 4) 2 2 dL_end_4 rfl rfl ?_
  refine G_callVx (pc := 5) gk_L_27 dL_end_5 h0 rfl hm rfl rfl (Nat.le_of_ble_eq_true rfl) ⟨⟨Nat.le_refl _, by show 8 + (5 + 11) + 38 * d ≤ 38 * (d + 1); omega⟩, by show 0 + mc ≤ mc; omega, by show 0 + ms ≤ ms; omega⟩ (fun E ad1 M1 hE => ?_) (fun v ad1 M1 h => h.elim)
  obtain ⟨e1, e2, e3⟩ := hE
  rw [e1, e2, e3]
  refine zGX_catch [] ⟨0, 10, 13, 21⟩ [⟨0, 10, 17, 15⟩] (htab.trans rfl) (fun z hz => absurd hz List.not_mem_nil) rfl (by decide) cl_xIOOB ca_xIOOB (fun q => ?_)
  refine G_astore (pc := 13) [(4, .ref q), (0, .ref (ad (0, 0, 0, 0))), (1, .int (zI p1)), (2, .int (zI p2)), (3, .ref (ad (82, 0, 0, 0)))] dL_end_13 (by decide) rfl ?_
  refine G_iconst (pc := 15) dL_end_15 ?_
  exact G_iret (pc := 16) hF dL_end_16 ⟨by omega, by omega⟩ ⟨rfl, rfl, rfl⟩
set_option maxHeartbeats 1000000 in
set_option maxRecDepth 100000 in
theorem h_end_2 {l : Launch} {Δ : zDl} {ad : zK → Nat} {M : zMem} {p1 p2 : Int} {d mc ms : Nat} {fs : List Value} (h0 : M (0, 0, 0, 0) = some (.inr (7, fs))) (hm : zMx l Δ yX6_end cX6_end 5 (some .int) d mc ms [.ref (ad (0, 0, 0, 0)), .int (zI p1), .int (zI p2)] ad M zF0 (zE "java/lang/IllegalStateException" ad M)) : zMh l Δ yL_end cL_end 5 (some .int) [(0, 10, 13, 21), (0, 10, 17, 15)] (d + 1) mc ms [.ref (ad (0, 0, 0, 0)), .int (zI p1), .int (zI p2), .ref (ad (82, 0, 0, 0))] ad M (zD (some (.int (zI 2))) ad M) := by
  refine zMh_of (by decide) (Nat.le_of_ble_eq_true rfl) (fun Γ hl hΔ hF htab hNc => ?_)
  subst hl hΔ
  show G Γ _ _ _ RL _ _ _ _ _ [(0, .ref (ad (0, 0, 0, 0))), (1, .int (zI p1)), (2, .int (zI p2)), (3, .ref (ad (82, 0, 0, 0)))] []
  refine G_aload_n (pc := 0) 3 3 dL_end_0 rfl rfl ?_
  refine G_iconst (pc := 1) dL_end_1 ?_
  refine G_aload_n (pc := 2) 0 0 dL_end_2 rfl rfl ?_
  refine G_iload_n (pc := 3) 1 1 dL_end_3 rfl rfl ?_
  refine G_iload_n (pc := 4) 2 2 dL_end_4 rfl rfl ?_
  refine G_callVx (pc := 5) gk_L_27 dL_end_5 h0 rfl hm rfl rfl (Nat.le_of_ble_eq_true rfl) ⟨⟨Nat.le_refl _, by show 8 + (5 + 11) + 38 * d ≤ 38 * (d + 1); omega⟩, by show 0 + mc ≤ mc; omega, by show 0 + ms ≤ ms; omega⟩ (fun E ad1 M1 hE => ?_) (fun v ad1 M1 h => h.elim)
  obtain ⟨e1, e2, e3⟩ := hE
  rw [e1, e2, e3]
  refine zGX_catch [⟨0, 10, 13, 21⟩] ⟨0, 10, 17, 15⟩ [] (htab.trans rfl) (fun z hz => by rw [List.mem_singleton.mp hz]; exact ⟨by decide, _, cl_xIOOB, hNc.2.1⟩) rfl (by decide) cl_xISE ca_xISE (fun q => ?_)
  refine G_astore (pc := 17) [(4, .ref q), (0, .ref (ad (0, 0, 0, 0))), (1, .int (zI p1)), (2, .int (zI p2)), (3, .ref (ad (82, 0, 0, 0)))] dL_end_17 (by decide) rfl ?_
  refine G_iconst (pc := 19) dL_end_19 ?_
  exact G_iret (pc := 20) hF dL_end_20 ⟨by omega, by omega⟩ ⟨rfl, rfl, rfl⟩
theorem hk_setKeep : zCH RL 144 yL_setKeep cL_setKeep 5 (some .int) [(0, 10, 13, 21), (0, 10, 17, 13)] 4 := ⟨zAW_of 574 (by decide +kernel) (by decide +kernel), zAW_of 575 (by decide +kernel) (by decide +kernel), zAW_of 0 (by decide +kernel) (by decide +kernel), zAW_of 576 (by decide +kernel) (by decide +kernel), by decide, by decide, by decide +kernel⟩
set_option maxHeartbeats 1000000 in
set_option maxRecDepth 100000 in
theorem h_setKeep {P0 : zPo} {l : Launch} {Δ : zDl} {ad : zK → Nat} {M : zMem} {p1 p2 : Int} {d mc ms : Nat} {fs : List Value} {w0 : Int64} {post : Int → (zK → Nat) → zMem → Prop} (h0 : M (0, 0, 0, 0) = some (.inr (7, fs))) (h82 : M (82, 0, 0, 0) = some (zLo Δ w0)) (hm : zMn l Δ yX6_setKeep cX6_setKeep 5 (some .int) d mc ms [.ref (ad (0, 0, 0, 0)), .int (zI p1), .int (zI p2)] ad M P0) (hP0 : ∀ v ad' M', P0 v ad' M' → ∃ r, v = some (.int (zI r)) ∧ zR r ∧ ad' (82, 0, 0, 0) = ad (82, 0, 0, 0) ∧ M' (82, 0, 0, 0) = some (zLo Δ w0) ∧ post r ad' M') : zMh l Δ yL_setKeep cL_setKeep 5 (some .int) [(0, 10, 13, 21), (0, 10, 17, 13)] (d + 1) mc ms [.ref (ad (0, 0, 0, 0)), .int (zI p1), .int (zI p2), .ref (ad (82, 0, 0, 0))] ad M (fun v ad' M' => v = some (.int (zI 0)) ∧ ∃ r M1, zR r ∧ post r ad' M1 ∧ M' = zup1 M1 (82, 0, 0, 0) (some (zLo Δ (zL r)))) := by
  refine zMh_of (by decide) (Nat.le_of_ble_eq_true rfl) (fun Γ hl hΔ hF htab hNc => ?_)
  subst hl hΔ
  show G Γ _ _ _ RL _ _ _ _ _ [(0, .ref (ad (0, 0, 0, 0))), (1, .int (zI p1)), (2, .int (zI p2)), (3, .ref (ad (82, 0, 0, 0)))] []
  refine G_aload_n (pc := 0) 3 3 dL_setKeep_0 rfl rfl ?_
  refine G_iconst (pc := 1) dL_setKeep_1 ?_
  refine G_aload_n (pc := 2) 0 0 dL_setKeep_2 rfl rfl ?_
  refine G_iload_n (pc := 3) 1 1 dL_setKeep_3 rfl rfl ?_
  refine G_iload_n (pc := 4) 2 2 dL_setKeep_4 rfl rfl ?_
  refine G_callV (pc := 5) gk_L_30 dL_setKeep_5 h0 rfl hm rfl rfl (Nat.le_of_ble_eq_true rfl) ⟨⟨Nat.le_refl _, by show 8 + (5 + 11) + 38 * d ≤ 38 * (d + 1); omega⟩, by show 0 + mc ≤ mc; omega, by show 0 + ms ≤ ms; omega⟩ (fun v ad1 M1 hpo => ?_)
  obtain ⟨r, rfl, hr, ha, h82', hp⟩ := hP0 _ _ _ hpo
  show G Γ _ _ _ _ _ _ _ _ _ _ [.int (zI r), .int (zI 0), .ref (ad (82, 0, 0, 0))]
  rw [← ha]
  refine G_i2l (pc := 8) dL_setKeep_8 hr ?_
  refine G_last (pc := 9) dL_setKeep_9 h82' ?_
  refine G_goto (pc := 10) 21 dL_setKeep_10 (by decide) ?_
  refine G_iconst (pc := 21) dL_setKeep_21 ?_
  refine G_iret (pc := 22) hF dL_setKeep_22 ⟨by omega, by omega⟩ ⟨rfl, r, M1, hr, hp, rfl⟩
set_option maxHeartbeats 1000000 in
set_option maxRecDepth 100000 in
theorem h_setKeep_1 {l : Launch} {Δ : zDl} {ad : zK → Nat} {M : zMem} {p1 p2 : Int} {d mc ms : Nat} {fs : List Value} (h0 : M (0, 0, 0, 0) = some (.inr (7, fs))) (hm : zMx l Δ yX6_setKeep cX6_setKeep 5 (some .int) d mc ms [.ref (ad (0, 0, 0, 0)), .int (zI p1), .int (zI p2)] ad M zF0 (zE "java/lang/IndexOutOfBoundsException" ad M)) : zMh l Δ yL_setKeep cL_setKeep 5 (some .int) [(0, 10, 13, 21), (0, 10, 17, 13)] (d + 1) mc ms [.ref (ad (0, 0, 0, 0)), .int (zI p1), .int (zI p2), .ref (ad (82, 0, 0, 0))] ad M (zD (some (.int (zI 1))) ad M) := by
  refine zMh_of (by decide) (Nat.le_of_ble_eq_true rfl) (fun Γ hl hΔ hF htab hNc => ?_)
  subst hl hΔ
  show G Γ _ _ _ RL _ _ _ _ _ [(0, .ref (ad (0, 0, 0, 0))), (1, .int (zI p1)), (2, .int (zI p2)), (3, .ref (ad (82, 0, 0, 0)))] []
  refine G_aload_n (pc := 0) 3 3 dL_setKeep_0 rfl rfl ?_
  refine G_iconst (pc := 1) dL_setKeep_1 ?_
  refine G_aload_n (pc := 2) 0 0 dL_setKeep_2 rfl rfl ?_
  refine G_iload_n (pc := 3) 1 1 dL_setKeep_3 rfl rfl ?_
  refine G_iload_n (pc := 4) 2 2 dL_setKeep_4 rfl rfl ?_
  refine G_callVx (pc := 5) gk_L_30 dL_setKeep_5 h0 rfl hm rfl rfl (Nat.le_of_ble_eq_true rfl) ⟨⟨Nat.le_refl _, by show 8 + (5 + 11) + 38 * d ≤ 38 * (d + 1); omega⟩, by show 0 + mc ≤ mc; omega, by show 0 + ms ≤ ms; omega⟩ (fun E ad1 M1 hE => ?_) (fun v ad1 M1 h => h.elim)
  obtain ⟨e1, e2, e3⟩ := hE
  rw [e1, e2, e3]
  refine zGX_catch [] ⟨0, 10, 13, 21⟩ [⟨0, 10, 17, 13⟩] (htab.trans rfl) (fun z hz => absurd hz List.not_mem_nil) rfl (by decide) cl_xIOOB ca_xIOOB (fun q => ?_)
  refine G_astore (pc := 13) [(4, .ref q), (0, .ref (ad (0, 0, 0, 0))), (1, .int (zI p1)), (2, .int (zI p2)), (3, .ref (ad (82, 0, 0, 0)))] dL_setKeep_13 (by decide) rfl ?_
  refine G_iconst (pc := 15) dL_setKeep_15 ?_
  exact G_iret (pc := 16) hF dL_setKeep_16 ⟨by omega, by omega⟩ ⟨rfl, rfl, rfl⟩
set_option maxHeartbeats 1000000 in
set_option maxRecDepth 100000 in
theorem h_setKeep_2 {l : Launch} {Δ : zDl} {ad : zK → Nat} {M : zMem} {p1 p2 : Int} {d mc ms : Nat} {fs : List Value} (h0 : M (0, 0, 0, 0) = some (.inr (7, fs))) (hm : zMx l Δ yX6_setKeep cX6_setKeep 5 (some .int) d mc ms [.ref (ad (0, 0, 0, 0)), .int (zI p1), .int (zI p2)] ad M zF0 (zE "java/lang/IllegalArgumentException" ad M)) : zMh l Δ yL_setKeep cL_setKeep 5 (some .int) [(0, 10, 13, 21), (0, 10, 17, 13)] (d + 1) mc ms [.ref (ad (0, 0, 0, 0)), .int (zI p1), .int (zI p2), .ref (ad (82, 0, 0, 0))] ad M (zD (some (.int (zI 2))) ad M) := by
  refine zMh_of (by decide) (Nat.le_of_ble_eq_true rfl) (fun Γ hl hΔ hF htab hNc => ?_)
  subst hl hΔ
  show G Γ _ _ _ RL _ _ _ _ _ [(0, .ref (ad (0, 0, 0, 0))), (1, .int (zI p1)), (2, .int (zI p2)), (3, .ref (ad (82, 0, 0, 0)))] []
  refine G_aload_n (pc := 0) 3 3 dL_setKeep_0 rfl rfl ?_
  refine G_iconst (pc := 1) dL_setKeep_1 ?_
  refine G_aload_n (pc := 2) 0 0 dL_setKeep_2 rfl rfl ?_
  refine G_iload_n (pc := 3) 1 1 dL_setKeep_3 rfl rfl ?_
  refine G_iload_n (pc := 4) 2 2 dL_setKeep_4 rfl rfl ?_
  refine G_callVx (pc := 5) gk_L_30 dL_setKeep_5 h0 rfl hm rfl rfl (Nat.le_of_ble_eq_true rfl) ⟨⟨Nat.le_refl _, by show 8 + (5 + 11) + 38 * d ≤ 38 * (d + 1); omega⟩, by show 0 + mc ≤ mc; omega, by show 0 + ms ≤ ms; omega⟩ (fun E ad1 M1 hE => ?_) (fun v ad1 M1 h => h.elim)
  obtain ⟨e1, e2, e3⟩ := hE
  rw [e1, e2, e3]
  refine zGX_catch [⟨0, 10, 13, 21⟩] ⟨0, 10, 17, 13⟩ [] (htab.trans rfl) (fun z hz => by rw [List.mem_singleton.mp hz]; exact ⟨by decide, _, cl_xIOOB, hNc.1⟩) rfl (by decide) cl_xIAE ca_xIAE (fun q => ?_)
  refine G_astore (pc := 17) [(4, .ref q), (0, .ref (ad (0, 0, 0, 0))), (1, .int (zI p1)), (2, .int (zI p2)), (3, .ref (ad (82, 0, 0, 0)))] dL_setKeep_17 (by decide) rfl ?_
  refine G_iconst (pc := 19) dL_setKeep_19 ?_
  exact G_iret (pc := 20) hF dL_setKeep_20 ⟨by omega, by omega⟩ ⟨rfl, rfl, rfl⟩
theorem hk_clean : zCH RL 148 yL_clean cL_clean 4 (some .int) [(0, 9, 12, 21), (0, 9, 15, 15)] 3 := ⟨zAW_of 582 (by decide +kernel) (by decide +kernel), zAW_of 583 (by decide +kernel) (by decide +kernel), zAW_of 0 (by decide +kernel) (by decide +kernel), zAW_of 584 (by decide +kernel) (by decide +kernel), by decide, by decide, by decide +kernel⟩
set_option maxHeartbeats 1000000 in
set_option maxRecDepth 100000 in
theorem h_clean {P0 : zPo} {l : Launch} {Δ : zDl} {ad : zK → Nat} {M : zMem} {p1 : Int} {d mc ms : Nat} {fs : List Value} {w0 : Int64} {post : Int → (zK → Nat) → zMem → Prop} (h0 : M (0, 0, 0, 0) = some (.inr (7, fs))) (h82 : M (82, 0, 0, 0) = some (zLo Δ w0)) (hm : zMn l Δ yX6_clean cX6_clean 4 (some .int) d mc ms [.ref (ad (0, 0, 0, 0)), .int (zI p1)] ad M P0) (hP0 : ∀ v ad' M', P0 v ad' M' → ∃ r, v = some (.int (zI r)) ∧ zR r ∧ ad' (82, 0, 0, 0) = ad (82, 0, 0, 0) ∧ M' (82, 0, 0, 0) = some (zLo Δ w0) ∧ post r ad' M') : zMh l Δ yL_clean cL_clean 4 (some .int) [(0, 9, 12, 21), (0, 9, 15, 15)] (d + 1) mc ms [.ref (ad (0, 0, 0, 0)), .int (zI p1), .ref (ad (82, 0, 0, 0))] ad M (fun v ad' M' => v = some (.int (zI 0)) ∧ ∃ r M1, zR r ∧ post r ad' M1 ∧ M' = zup1 M1 (82, 0, 0, 0) (some (zLo Δ (zL r)))) := by
  refine zMh_of (by decide) (Nat.le_of_ble_eq_true rfl) (fun Γ hl hΔ hF htab hNc => ?_)
  subst hl hΔ
  show G Γ _ _ _ RL _ _ _ _ _ [(0, .ref (ad (0, 0, 0, 0))), (1, .int (zI p1)), (2, .ref (ad (82, 0, 0, 0)))] []
  refine G_aload_n (pc := 0) 2 2 dL_clean_0 rfl rfl ?_
  refine G_iconst (pc := 1) dL_clean_1 ?_
  refine G_aload_n (pc := 2) 0 0 dL_clean_2 rfl rfl ?_
  refine G_iload_n (pc := 3) 1 1 dL_clean_3 rfl rfl ?_
  refine G_callV (pc := 4) gk_L_34 dL_clean_4 h0 rfl hm rfl rfl (Nat.le_of_ble_eq_true rfl) ⟨⟨Nat.le_refl _, by show 8 + (4 + 11) + 38 * d ≤ 38 * (d + 1); omega⟩, by show 0 + mc ≤ mc; omega, by show 0 + ms ≤ ms; omega⟩ (fun v ad1 M1 hpo => ?_)
  obtain ⟨r, rfl, hr, ha, h82', hp⟩ := hP0 _ _ _ hpo
  show G Γ _ _ _ _ _ _ _ _ _ _ [.int (zI r), .int (zI 0), .ref (ad (82, 0, 0, 0))]
  rw [← ha]
  refine G_i2l (pc := 7) dL_clean_7 hr ?_
  refine G_last (pc := 8) dL_clean_8 h82' ?_
  refine G_goto (pc := 9) 18 dL_clean_9 (by decide) ?_
  refine G_iconst (pc := 18) dL_clean_18 ?_
  refine G_iret (pc := 19) hF dL_clean_19 ⟨by omega, by omega⟩ ⟨rfl, r, M1, hr, hp, rfl⟩
set_option maxHeartbeats 1000000 in
set_option maxRecDepth 100000 in
theorem h_clean_1 {l : Launch} {Δ : zDl} {ad : zK → Nat} {M : zMem} {p1 : Int} {d mc ms : Nat} {fs : List Value} (h0 : M (0, 0, 0, 0) = some (.inr (7, fs))) (hm : zMx l Δ yX6_clean cX6_clean 4 (some .int) d mc ms [.ref (ad (0, 0, 0, 0)), .int (zI p1)] ad M zF0 (zE "java/lang/IndexOutOfBoundsException" ad M)) : zMh l Δ yL_clean cL_clean 4 (some .int) [(0, 9, 12, 21), (0, 9, 15, 15)] (d + 1) mc ms [.ref (ad (0, 0, 0, 0)), .int (zI p1), .ref (ad (82, 0, 0, 0))] ad M (zD (some (.int (zI 1))) ad M) := by
  refine zMh_of (by decide) (Nat.le_of_ble_eq_true rfl) (fun Γ hl hΔ hF htab hNc => ?_)
  subst hl hΔ
  show G Γ _ _ _ RL _ _ _ _ _ [(0, .ref (ad (0, 0, 0, 0))), (1, .int (zI p1)), (2, .ref (ad (82, 0, 0, 0)))] []
  refine G_aload_n (pc := 0) 2 2 dL_clean_0 rfl rfl ?_
  refine G_iconst (pc := 1) dL_clean_1 ?_
  refine G_aload_n (pc := 2) 0 0 dL_clean_2 rfl rfl ?_
  refine G_iload_n (pc := 3) 1 1 dL_clean_3 rfl rfl ?_
  refine G_callVx (pc := 4) gk_L_34 dL_clean_4 h0 rfl hm rfl rfl (Nat.le_of_ble_eq_true rfl) ⟨⟨Nat.le_refl _, by show 8 + (4 + 11) + 38 * d ≤ 38 * (d + 1); omega⟩, by show 0 + mc ≤ mc; omega, by show 0 + ms ≤ ms; omega⟩ (fun E ad1 M1 hE => ?_) (fun v ad1 M1 h => h.elim)
  obtain ⟨e1, e2, e3⟩ := hE
  rw [e1, e2, e3]
  refine zGX_catch [] ⟨0, 9, 12, 21⟩ [⟨0, 9, 15, 15⟩] (htab.trans rfl) (fun z hz => absurd hz List.not_mem_nil) rfl (by decide) cl_xIOOB ca_xIOOB (fun q => ?_)
  refine G_astore_n (pc := 12) 3 [(3, .ref q), (0, .ref (ad (0, 0, 0, 0))), (1, .int (zI p1)), (2, .ref (ad (82, 0, 0, 0)))] dL_clean_12 rfl (by decide) rfl ?_
  refine G_iconst (pc := 13) dL_clean_13 ?_
  exact G_iret (pc := 14) hF dL_clean_14 ⟨by omega, by omega⟩ ⟨rfl, rfl, rfl⟩
set_option maxHeartbeats 1000000 in
set_option maxRecDepth 100000 in
theorem h_clean_2 {l : Launch} {Δ : zDl} {ad : zK → Nat} {M : zMem} {p1 : Int} {d mc ms : Nat} {fs : List Value} (h0 : M (0, 0, 0, 0) = some (.inr (7, fs))) (hm : zMx l Δ yX6_clean cX6_clean 4 (some .int) d mc ms [.ref (ad (0, 0, 0, 0)), .int (zI p1)] ad M zF0 (zE "java/lang/IllegalStateException" ad M)) : zMh l Δ yL_clean cL_clean 4 (some .int) [(0, 9, 12, 21), (0, 9, 15, 15)] (d + 1) mc ms [.ref (ad (0, 0, 0, 0)), .int (zI p1), .ref (ad (82, 0, 0, 0))] ad M (zD (some (.int (zI 2))) ad M) := by
  refine zMh_of (by decide) (Nat.le_of_ble_eq_true rfl) (fun Γ hl hΔ hF htab hNc => ?_)
  subst hl hΔ
  show G Γ _ _ _ RL _ _ _ _ _ [(0, .ref (ad (0, 0, 0, 0))), (1, .int (zI p1)), (2, .ref (ad (82, 0, 0, 0)))] []
  refine G_aload_n (pc := 0) 2 2 dL_clean_0 rfl rfl ?_
  refine G_iconst (pc := 1) dL_clean_1 ?_
  refine G_aload_n (pc := 2) 0 0 dL_clean_2 rfl rfl ?_
  refine G_iload_n (pc := 3) 1 1 dL_clean_3 rfl rfl ?_
  refine G_callVx (pc := 4) gk_L_34 dL_clean_4 h0 rfl hm rfl rfl (Nat.le_of_ble_eq_true rfl) ⟨⟨Nat.le_refl _, by show 8 + (4 + 11) + 38 * d ≤ 38 * (d + 1); omega⟩, by show 0 + mc ≤ mc; omega, by show 0 + ms ≤ ms; omega⟩ (fun E ad1 M1 hE => ?_) (fun v ad1 M1 h => h.elim)
  obtain ⟨e1, e2, e3⟩ := hE
  rw [e1, e2, e3]
  refine zGX_catch [⟨0, 9, 12, 21⟩] ⟨0, 9, 15, 15⟩ [] (htab.trans rfl) (fun z hz => by rw [List.mem_singleton.mp hz]; exact ⟨by decide, _, cl_xIOOB, hNc.2.1⟩) rfl (by decide) cl_xISE ca_xISE (fun q => ?_)
  refine G_astore_n (pc := 15) 3 [(3, .ref q), (0, .ref (ad (0, 0, 0, 0))), (1, .int (zI p1)), (2, .ref (ad (82, 0, 0, 0)))] dL_clean_15 rfl (by decide) rfl ?_
  refine G_iconst (pc := 16) dL_clean_16 ?_
  exact G_iret (pc := 17) hF dL_clean_17 ⟨by omega, by omega⟩ ⟨rfl, rfl, rfl⟩
theorem hk_setClock : zCH RL 151 yL_setClock cL_setClock 4 (some .int) [(0, 9, 12, 13)] 3 := ⟨zAW_of 598 (by decide +kernel) (by decide +kernel), zAW_of 599 (by decide +kernel) (by decide +kernel), zAW_of 0 (by decide +kernel) (by decide +kernel), zAW_of 600 (by decide +kernel) (by decide +kernel), by decide, by decide, by decide +kernel⟩
set_option maxHeartbeats 1000000 in
set_option maxRecDepth 100000 in
theorem h_setClock {P0 : zPo} {l : Launch} {Δ : zDl} {ad : zK → Nat} {M : zMem} {p1 : Int} {d mc ms : Nat} {fs : List Value} {w0 : Int64} {post : Int → (zK → Nat) → zMem → Prop} (h0 : M (0, 0, 0, 0) = some (.inr (7, fs))) (h82 : M (82, 0, 0, 0) = some (zLo Δ w0)) (hm : zMn l Δ yX6_setClock cX6_setClock 4 (some .int) d mc ms [.ref (ad (0, 0, 0, 0)), .int (zI p1)] ad M P0) (hP0 : ∀ v ad' M', P0 v ad' M' → ∃ r, v = some (.int (zI r)) ∧ zR r ∧ ad' (82, 0, 0, 0) = ad (82, 0, 0, 0) ∧ M' (82, 0, 0, 0) = some (zLo Δ w0) ∧ post r ad' M') : zMh l Δ yL_setClock cL_setClock 4 (some .int) [(0, 9, 12, 13)] (d + 1) mc ms [.ref (ad (0, 0, 0, 0)), .int (zI p1), .ref (ad (82, 0, 0, 0))] ad M (fun v ad' M' => v = some (.int (zI 0)) ∧ ∃ r M1, zR r ∧ post r ad' M1 ∧ M' = zup1 M1 (82, 0, 0, 0) (some (zLo Δ (zL r)))) := by
  refine zMh_of (by decide) (Nat.le_of_ble_eq_true rfl) (fun Γ hl hΔ hF htab hNc => ?_)
  subst hl hΔ
  show G Γ _ _ _ RL _ _ _ _ _ [(0, .ref (ad (0, 0, 0, 0))), (1, .int (zI p1)), (2, .ref (ad (82, 0, 0, 0)))] []
  refine G_aload_n (pc := 0) 2 2 dL_setClock_0 rfl rfl ?_
  refine G_iconst (pc := 1) dL_setClock_1 ?_
  refine G_aload_n (pc := 2) 0 0 dL_setClock_2 rfl rfl ?_
  refine G_iload_n (pc := 3) 1 1 dL_setClock_3 rfl rfl ?_
  refine G_callV (pc := 4) gk_L_37 dL_setClock_4 h0 rfl hm rfl rfl (Nat.le_of_ble_eq_true rfl) ⟨⟨Nat.le_refl _, by show 8 + (4 + 11) + 38 * d ≤ 38 * (d + 1); omega⟩, by show 0 + mc ≤ mc; omega, by show 0 + ms ≤ ms; omega⟩ (fun v ad1 M1 hpo => ?_)
  obtain ⟨r, rfl, hr, ha, h82', hp⟩ := hP0 _ _ _ hpo
  show G Γ _ _ _ _ _ _ _ _ _ _ [.int (zI r), .int (zI 0), .ref (ad (82, 0, 0, 0))]
  rw [← ha]
  refine G_i2l (pc := 7) dL_setClock_7 hr ?_
  refine G_last (pc := 8) dL_setClock_8 h82' ?_
  refine G_goto (pc := 9) 15 dL_setClock_9 (by decide) ?_
  refine G_iconst (pc := 15) dL_setClock_15 ?_
  refine G_iret (pc := 16) hF dL_setClock_16 ⟨by omega, by omega⟩ ⟨rfl, r, M1, hr, hp, rfl⟩
set_option maxHeartbeats 1000000 in
set_option maxRecDepth 100000 in
theorem h_setClock_1 {l : Launch} {Δ : zDl} {ad : zK → Nat} {M : zMem} {p1 : Int} {d mc ms : Nat} {fs : List Value} (h0 : M (0, 0, 0, 0) = some (.inr (7, fs))) (hm : zMx l Δ yX6_setClock cX6_setClock 4 (some .int) d mc ms [.ref (ad (0, 0, 0, 0)), .int (zI p1)] ad M zF0 (zE "java/lang/IllegalArgumentException" ad M)) : zMh l Δ yL_setClock cL_setClock 4 (some .int) [(0, 9, 12, 13)] (d + 1) mc ms [.ref (ad (0, 0, 0, 0)), .int (zI p1), .ref (ad (82, 0, 0, 0))] ad M (zD (some (.int (zI 1))) ad M) := by
  refine zMh_of (by decide) (Nat.le_of_ble_eq_true rfl) (fun Γ hl hΔ hF htab hNc => ?_)
  subst hl hΔ
  show G Γ _ _ _ RL _ _ _ _ _ [(0, .ref (ad (0, 0, 0, 0))), (1, .int (zI p1)), (2, .ref (ad (82, 0, 0, 0)))] []
  refine G_aload_n (pc := 0) 2 2 dL_setClock_0 rfl rfl ?_
  refine G_iconst (pc := 1) dL_setClock_1 ?_
  refine G_aload_n (pc := 2) 0 0 dL_setClock_2 rfl rfl ?_
  refine G_iload_n (pc := 3) 1 1 dL_setClock_3 rfl rfl ?_
  refine G_callVx (pc := 4) gk_L_37 dL_setClock_4 h0 rfl hm rfl rfl (Nat.le_of_ble_eq_true rfl) ⟨⟨Nat.le_refl _, by show 8 + (4 + 11) + 38 * d ≤ 38 * (d + 1); omega⟩, by show 0 + mc ≤ mc; omega, by show 0 + ms ≤ ms; omega⟩ (fun E ad1 M1 hE => ?_) (fun v ad1 M1 h => h.elim)
  obtain ⟨e1, e2, e3⟩ := hE
  rw [e1, e2, e3]
  refine zGX_catch [] ⟨0, 9, 12, 13⟩ [] (htab.trans rfl) (fun z hz => absurd hz List.not_mem_nil) rfl (by decide) cl_xIAE ca_xIAE (fun q => ?_)
  refine G_astore_n (pc := 12) 3 [(3, .ref q), (0, .ref (ad (0, 0, 0, 0))), (1, .int (zI p1)), (2, .ref (ad (82, 0, 0, 0)))] dL_setClock_12 rfl (by decide) rfl ?_
  refine G_iconst (pc := 13) dL_setClock_13 ?_
  exact G_iret (pc := 14) hF dL_setClock_14 ⟨by omega, by omega⟩ ⟨rfl, rfl, rfl⟩
theorem hk_setPatience : zCH RL 154 yL_setPatience cL_setPatience 5 (some .int) [(0, 10, 13, 13)] 4 := ⟨zAW_of 642 (by decide +kernel) (by decide +kernel), zAW_of 643 (by decide +kernel) (by decide +kernel), zAW_of 0 (by decide +kernel) (by decide +kernel), zAW_of 644 (by decide +kernel) (by decide +kernel), by decide, by decide, by decide +kernel⟩
set_option maxHeartbeats 1000000 in
set_option maxRecDepth 100000 in
theorem h_setPatience {P0 : zPo} {l : Launch} {Δ : zDl} {ad : zK → Nat} {M : zMem} {p1 p2 : Int} {d mc ms : Nat} {fs : List Value} {w0 : Int64} {post : Int → (zK → Nat) → zMem → Prop} (h0 : M (0, 0, 0, 0) = some (.inr (7, fs))) (h82 : M (82, 0, 0, 0) = some (zLo Δ w0)) (hm : zMn l Δ yX6_setPatience cX6_setPatience 4 (some .int) d mc ms [.ref (ad (0, 0, 0, 0)), .int (zI p1), .int (zI p2)] ad M P0) (hP0 : ∀ v ad' M', P0 v ad' M' → ∃ r, v = some (.int (zI r)) ∧ zR r ∧ ad' (82, 0, 0, 0) = ad (82, 0, 0, 0) ∧ M' (82, 0, 0, 0) = some (zLo Δ w0) ∧ post r ad' M') : zMh l Δ yL_setPatience cL_setPatience 5 (some .int) [(0, 10, 13, 13)] (d + 1) mc ms [.ref (ad (0, 0, 0, 0)), .int (zI p1), .int (zI p2), .ref (ad (82, 0, 0, 0))] ad M (fun v ad' M' => v = some (.int (zI 0)) ∧ ∃ r M1, zR r ∧ post r ad' M1 ∧ M' = zup1 M1 (82, 0, 0, 0) (some (zLo Δ (zL r)))) := by
  refine zMh_of (by decide) (Nat.le_of_ble_eq_true rfl) (fun Γ hl hΔ hF htab hNc => ?_)
  subst hl hΔ
  show G Γ _ _ _ RL _ _ _ _ _ [(0, .ref (ad (0, 0, 0, 0))), (1, .int (zI p1)), (2, .int (zI p2)), (3, .ref (ad (82, 0, 0, 0)))] []
  refine G_aload_n (pc := 0) 3 3 dL_setPatience_0 rfl rfl ?_
  refine G_iconst (pc := 1) dL_setPatience_1 ?_
  refine G_aload_n (pc := 2) 0 0 dL_setPatience_2 rfl rfl ?_
  refine G_iload_n (pc := 3) 1 1 dL_setPatience_3 rfl rfl ?_
  refine G_iload_n (pc := 4) 2 2 dL_setPatience_4 rfl rfl ?_
  refine G_callV (pc := 5) gk_L_40 dL_setPatience_5 h0 rfl hm rfl rfl (Nat.le_of_ble_eq_true rfl) ⟨⟨Nat.le_refl _, by show 8 + (4 + 11) + 38 * d ≤ 38 * (d + 1); omega⟩, by show 0 + mc ≤ mc; omega, by show 0 + ms ≤ ms; omega⟩ (fun v ad1 M1 hpo => ?_)
  obtain ⟨r, rfl, hr, ha, h82', hp⟩ := hP0 _ _ _ hpo
  show G Γ _ _ _ _ _ _ _ _ _ _ [.int (zI r), .int (zI 0), .ref (ad (82, 0, 0, 0))]
  rw [← ha]
  refine G_i2l (pc := 8) dL_setPatience_8 hr ?_
  refine G_last (pc := 9) dL_setPatience_9 h82' ?_
  refine G_goto (pc := 10) 17 dL_setPatience_10 (by decide) ?_
  refine G_iconst (pc := 17) dL_setPatience_17 ?_
  refine G_iret (pc := 18) hF dL_setPatience_18 ⟨by omega, by omega⟩ ⟨rfl, r, M1, hr, hp, rfl⟩
set_option maxHeartbeats 1000000 in
set_option maxRecDepth 100000 in
theorem h_setPatience_1 {l : Launch} {Δ : zDl} {ad : zK → Nat} {M : zMem} {p1 p2 : Int} {d mc ms : Nat} {fs : List Value} (h0 : M (0, 0, 0, 0) = some (.inr (7, fs))) (hm : zMx l Δ yX6_setPatience cX6_setPatience 4 (some .int) d mc ms [.ref (ad (0, 0, 0, 0)), .int (zI p1), .int (zI p2)] ad M zF0 (zE "java/lang/IllegalArgumentException" ad M)) : zMh l Δ yL_setPatience cL_setPatience 5 (some .int) [(0, 10, 13, 13)] (d + 1) mc ms [.ref (ad (0, 0, 0, 0)), .int (zI p1), .int (zI p2), .ref (ad (82, 0, 0, 0))] ad M (zD (some (.int (zI 1))) ad M) := by
  refine zMh_of (by decide) (Nat.le_of_ble_eq_true rfl) (fun Γ hl hΔ hF htab hNc => ?_)
  subst hl hΔ
  show G Γ _ _ _ RL _ _ _ _ _ [(0, .ref (ad (0, 0, 0, 0))), (1, .int (zI p1)), (2, .int (zI p2)), (3, .ref (ad (82, 0, 0, 0)))] []
  refine G_aload_n (pc := 0) 3 3 dL_setPatience_0 rfl rfl ?_
  refine G_iconst (pc := 1) dL_setPatience_1 ?_
  refine G_aload_n (pc := 2) 0 0 dL_setPatience_2 rfl rfl ?_
  refine G_iload_n (pc := 3) 1 1 dL_setPatience_3 rfl rfl ?_
  refine G_iload_n (pc := 4) 2 2 dL_setPatience_4 rfl rfl ?_
  refine G_callVx (pc := 5) gk_L_40 dL_setPatience_5 h0 rfl hm rfl rfl (Nat.le_of_ble_eq_true rfl) ⟨⟨Nat.le_refl _, by show 8 + (4 + 11) + 38 * d ≤ 38 * (d + 1); omega⟩, by show 0 + mc ≤ mc; omega, by show 0 + ms ≤ ms; omega⟩ (fun E ad1 M1 hE => ?_) (fun v ad1 M1 h => h.elim)
  obtain ⟨e1, e2, e3⟩ := hE
  rw [e1, e2, e3]
  refine zGX_catch [] ⟨0, 10, 13, 13⟩ [] (htab.trans rfl) (fun z hz => absurd hz List.not_mem_nil) rfl (by decide) cl_xIAE ca_xIAE (fun q => ?_)
  refine G_astore (pc := 13) [(4, .ref q), (0, .ref (ad (0, 0, 0, 0))), (1, .int (zI p1)), (2, .int (zI p2)), (3, .ref (ad (82, 0, 0, 0)))] dL_setPatience_13 (by decide) rfl ?_
  refine G_iconst (pc := 15) dL_setPatience_15 ?_
  exact G_iret (pc := 16) hF dL_setPatience_16 ⟨by omega, by omega⟩ ⟨rfl, rfl, rfl⟩
theorem hk_start : zCH RL 165 yL_start cL_start 5 (some .int) [(0, 10, 13, 21)] 4 := ⟨zAW_of 650 (by decide +kernel) (by decide +kernel), zAW_of 651 (by decide +kernel) (by decide +kernel), zAW_of 0 (by decide +kernel) (by decide +kernel), zAW_of 652 (by decide +kernel) (by decide +kernel), by decide, by decide, by decide +kernel⟩
set_option maxHeartbeats 1000000 in
set_option maxRecDepth 100000 in
theorem h_start {P0 : zPo} {l : Launch} {Δ : zDl} {ad : zK → Nat} {M : zMem} {p1 p2 : Int} {d mc ms : Nat} {fs : List Value} {w0 : Int64} {post : Int → (zK → Nat) → zMem → Prop} (h0 : M (0, 0, 0, 0) = some (.inr (7, fs))) (h82 : M (82, 0, 0, 0) = some (zLo Δ w0)) (hm : zMn l Δ yX6_start cX6_start 3 (some .int) d mc ms [.ref (ad (0, 0, 0, 0)), .int (zI p1), .int (zI p2)] ad M P0) (hP0 : ∀ v ad' M', P0 v ad' M' → ∃ r, v = some (.int (zI r)) ∧ zR r ∧ ad' (82, 0, 0, 0) = ad (82, 0, 0, 0) ∧ M' (82, 0, 0, 0) = some (zLo Δ w0) ∧ post r ad' M') : zMh l Δ yL_start cL_start 5 (some .int) [(0, 10, 13, 21)] (d + 1) mc ms [.ref (ad (0, 0, 0, 0)), .int (zI p1), .int (zI p2), .ref (ad (82, 0, 0, 0))] ad M (fun v ad' M' => v = some (.int (zI 0)) ∧ ∃ r M1, zR r ∧ post r ad' M1 ∧ M' = zup1 M1 (82, 0, 0, 0) (some (zLo Δ (zL r)))) := by
  refine zMh_of (by decide) (Nat.le_of_ble_eq_true rfl) (fun Γ hl hΔ hF htab hNc => ?_)
  subst hl hΔ
  show G Γ _ _ _ RL _ _ _ _ _ [(0, .ref (ad (0, 0, 0, 0))), (1, .int (zI p1)), (2, .int (zI p2)), (3, .ref (ad (82, 0, 0, 0)))] []
  refine G_aload_n (pc := 0) 3 3 dL_start_0 rfl rfl ?_
  refine G_iconst (pc := 1) dL_start_1 ?_
  refine G_aload_n (pc := 2) 0 0 dL_start_2 rfl rfl ?_
  refine G_iload_n (pc := 3) 1 1 dL_start_3 rfl rfl ?_
  refine G_iload_n (pc := 4) 2 2 dL_start_4 rfl rfl ?_
  refine G_callV (pc := 5) gk_L_43 dL_start_5 h0 rfl hm rfl rfl (Nat.le_of_ble_eq_true rfl) ⟨⟨Nat.le_refl _, by show 8 + (3 + 11) + 38 * d ≤ 38 * (d + 1); omega⟩, by show 0 + mc ≤ mc; omega, by show 0 + ms ≤ ms; omega⟩ (fun v ad1 M1 hpo => ?_)
  obtain ⟨r, rfl, hr, ha, h82', hp⟩ := hP0 _ _ _ hpo
  show G Γ _ _ _ _ _ _ _ _ _ _ [.int (zI r), .int (zI 0), .ref (ad (82, 0, 0, 0))]
  rw [← ha]
  refine G_i2l (pc := 8) dL_start_8 hr ?_
  refine G_last (pc := 9) dL_start_9 h82' ?_
  refine G_goto (pc := 10) 17 dL_start_10 (by decide) ?_
  refine G_iconst (pc := 17) dL_start_17 ?_
  refine G_iret (pc := 18) hF dL_start_18 ⟨by omega, by omega⟩ ⟨rfl, r, M1, hr, hp, rfl⟩
set_option maxHeartbeats 1000000 in
set_option maxRecDepth 100000 in
theorem h_start_1 {l : Launch} {Δ : zDl} {ad : zK → Nat} {M : zMem} {p1 p2 : Int} {d mc ms : Nat} {fs : List Value} (h0 : M (0, 0, 0, 0) = some (.inr (7, fs))) (hm : zMx l Δ yX6_start cX6_start 3 (some .int) d mc ms [.ref (ad (0, 0, 0, 0)), .int (zI p1), .int (zI p2)] ad M zF0 (zE "java/lang/IndexOutOfBoundsException" ad M)) : zMh l Δ yL_start cL_start 5 (some .int) [(0, 10, 13, 21)] (d + 1) mc ms [.ref (ad (0, 0, 0, 0)), .int (zI p1), .int (zI p2), .ref (ad (82, 0, 0, 0))] ad M (zD (some (.int (zI 1))) ad M) := by
  refine zMh_of (by decide) (Nat.le_of_ble_eq_true rfl) (fun Γ hl hΔ hF htab hNc => ?_)
  subst hl hΔ
  show G Γ _ _ _ RL _ _ _ _ _ [(0, .ref (ad (0, 0, 0, 0))), (1, .int (zI p1)), (2, .int (zI p2)), (3, .ref (ad (82, 0, 0, 0)))] []
  refine G_aload_n (pc := 0) 3 3 dL_start_0 rfl rfl ?_
  refine G_iconst (pc := 1) dL_start_1 ?_
  refine G_aload_n (pc := 2) 0 0 dL_start_2 rfl rfl ?_
  refine G_iload_n (pc := 3) 1 1 dL_start_3 rfl rfl ?_
  refine G_iload_n (pc := 4) 2 2 dL_start_4 rfl rfl ?_
  refine G_callVx (pc := 5) gk_L_43 dL_start_5 h0 rfl hm rfl rfl (Nat.le_of_ble_eq_true rfl) ⟨⟨Nat.le_refl _, by show 8 + (3 + 11) + 38 * d ≤ 38 * (d + 1); omega⟩, by show 0 + mc ≤ mc; omega, by show 0 + ms ≤ ms; omega⟩ (fun E ad1 M1 hE => ?_) (fun v ad1 M1 h => h.elim)
  obtain ⟨e1, e2, e3⟩ := hE
  rw [e1, e2, e3]
  refine zGX_catch [] ⟨0, 10, 13, 21⟩ [] (htab.trans rfl) (fun z hz => absurd hz List.not_mem_nil) rfl (by decide) cl_xIOOB ca_xIOOB (fun q => ?_)
  refine G_astore (pc := 13) [(4, .ref q), (0, .ref (ad (0, 0, 0, 0))), (1, .int (zI p1)), (2, .int (zI p2)), (3, .ref (ad (82, 0, 0, 0)))] dL_start_13 (by decide) rfl ?_
  refine G_iconst (pc := 15) dL_start_15 ?_
  exact G_iret (pc := 16) hF dL_start_16 ⟨by omega, by omega⟩ ⟨rfl, rfl, rfl⟩
theorem hk_endOf : zCH RL 168 yL_endOf cL_endOf 5 (some .int) [(0, 10, 13, 21)] 4 := ⟨zAW_of 662 (by decide +kernel) (by decide +kernel), zAW_of 663 (by decide +kernel) (by decide +kernel), zAW_of 0 (by decide +kernel) (by decide +kernel), zAW_of 664 (by decide +kernel) (by decide +kernel), by decide, by decide, by decide +kernel⟩
set_option maxHeartbeats 1000000 in
set_option maxRecDepth 100000 in
theorem h_endOf {P0 : zPo} {l : Launch} {Δ : zDl} {ad : zK → Nat} {M : zMem} {p1 p2 : Int} {d mc ms : Nat} {fs : List Value} {w0 : Int64} {post : Int → (zK → Nat) → zMem → Prop} (h0 : M (0, 0, 0, 0) = some (.inr (7, fs))) (h82 : M (82, 0, 0, 0) = some (zLo Δ w0)) (hm : zMn l Δ yX6_endOf cX6_endOf 3 (some .int) d mc ms [.ref (ad (0, 0, 0, 0)), .int (zI p1), .int (zI p2)] ad M P0) (hP0 : ∀ v ad' M', P0 v ad' M' → ∃ r, v = some (.int (zI r)) ∧ zR r ∧ ad' (82, 0, 0, 0) = ad (82, 0, 0, 0) ∧ M' (82, 0, 0, 0) = some (zLo Δ w0) ∧ post r ad' M') : zMh l Δ yL_endOf cL_endOf 5 (some .int) [(0, 10, 13, 21)] (d + 1) mc ms [.ref (ad (0, 0, 0, 0)), .int (zI p1), .int (zI p2), .ref (ad (82, 0, 0, 0))] ad M (fun v ad' M' => v = some (.int (zI 0)) ∧ ∃ r M1, zR r ∧ post r ad' M1 ∧ M' = zup1 M1 (82, 0, 0, 0) (some (zLo Δ (zL r)))) := by
  refine zMh_of (by decide) (Nat.le_of_ble_eq_true rfl) (fun Γ hl hΔ hF htab hNc => ?_)
  subst hl hΔ
  show G Γ _ _ _ RL _ _ _ _ _ [(0, .ref (ad (0, 0, 0, 0))), (1, .int (zI p1)), (2, .int (zI p2)), (3, .ref (ad (82, 0, 0, 0)))] []
  refine G_aload_n (pc := 0) 3 3 dL_endOf_0 rfl rfl ?_
  refine G_iconst (pc := 1) dL_endOf_1 ?_
  refine G_aload_n (pc := 2) 0 0 dL_endOf_2 rfl rfl ?_
  refine G_iload_n (pc := 3) 1 1 dL_endOf_3 rfl rfl ?_
  refine G_iload_n (pc := 4) 2 2 dL_endOf_4 rfl rfl ?_
  refine G_callV (pc := 5) gk_L_46 dL_endOf_5 h0 rfl hm rfl rfl (Nat.le_of_ble_eq_true rfl) ⟨⟨Nat.le_refl _, by show 8 + (3 + 11) + 38 * d ≤ 38 * (d + 1); omega⟩, by show 0 + mc ≤ mc; omega, by show 0 + ms ≤ ms; omega⟩ (fun v ad1 M1 hpo => ?_)
  obtain ⟨r, rfl, hr, ha, h82', hp⟩ := hP0 _ _ _ hpo
  show G Γ _ _ _ _ _ _ _ _ _ _ [.int (zI r), .int (zI 0), .ref (ad (82, 0, 0, 0))]
  rw [← ha]
  refine G_i2l (pc := 8) dL_endOf_8 hr ?_
  refine G_last (pc := 9) dL_endOf_9 h82' ?_
  refine G_goto (pc := 10) 17 dL_endOf_10 (by decide) ?_
  refine G_iconst (pc := 17) dL_endOf_17 ?_
  refine G_iret (pc := 18) hF dL_endOf_18 ⟨by omega, by omega⟩ ⟨rfl, r, M1, hr, hp, rfl⟩
set_option maxHeartbeats 1000000 in
set_option maxRecDepth 100000 in
theorem h_endOf_1 {l : Launch} {Δ : zDl} {ad : zK → Nat} {M : zMem} {p1 p2 : Int} {d mc ms : Nat} {fs : List Value} (h0 : M (0, 0, 0, 0) = some (.inr (7, fs))) (hm : zMx l Δ yX6_endOf cX6_endOf 3 (some .int) d mc ms [.ref (ad (0, 0, 0, 0)), .int (zI p1), .int (zI p2)] ad M zF0 (zE "java/lang/IndexOutOfBoundsException" ad M)) : zMh l Δ yL_endOf cL_endOf 5 (some .int) [(0, 10, 13, 21)] (d + 1) mc ms [.ref (ad (0, 0, 0, 0)), .int (zI p1), .int (zI p2), .ref (ad (82, 0, 0, 0))] ad M (zD (some (.int (zI 1))) ad M) := by
  refine zMh_of (by decide) (Nat.le_of_ble_eq_true rfl) (fun Γ hl hΔ hF htab hNc => ?_)
  subst hl hΔ
  show G Γ _ _ _ RL _ _ _ _ _ [(0, .ref (ad (0, 0, 0, 0))), (1, .int (zI p1)), (2, .int (zI p2)), (3, .ref (ad (82, 0, 0, 0)))] []
  refine G_aload_n (pc := 0) 3 3 dL_endOf_0 rfl rfl ?_
  refine G_iconst (pc := 1) dL_endOf_1 ?_
  refine G_aload_n (pc := 2) 0 0 dL_endOf_2 rfl rfl ?_
  refine G_iload_n (pc := 3) 1 1 dL_endOf_3 rfl rfl ?_
  refine G_iload_n (pc := 4) 2 2 dL_endOf_4 rfl rfl ?_
  refine G_callVx (pc := 5) gk_L_46 dL_endOf_5 h0 rfl hm rfl rfl (Nat.le_of_ble_eq_true rfl) ⟨⟨Nat.le_refl _, by show 8 + (3 + 11) + 38 * d ≤ 38 * (d + 1); omega⟩, by show 0 + mc ≤ mc; omega, by show 0 + ms ≤ ms; omega⟩ (fun E ad1 M1 hE => ?_) (fun v ad1 M1 h => h.elim)
  obtain ⟨e1, e2, e3⟩ := hE
  rw [e1, e2, e3]
  refine zGX_catch [] ⟨0, 10, 13, 21⟩ [] (htab.trans rfl) (fun z hz => absurd hz List.not_mem_nil) rfl (by decide) cl_xIOOB ca_xIOOB (fun q => ?_)
  refine G_astore (pc := 13) [(4, .ref q), (0, .ref (ad (0, 0, 0, 0))), (1, .int (zI p1)), (2, .int (zI p2)), (3, .ref (ad (82, 0, 0, 0)))] dL_endOf_13 (by decide) rfl ?_
  refine G_iconst (pc := 15) dL_endOf_15 ?_
  exact G_iret (pc := 16) hF dL_endOf_16 ⟨by omega, by omega⟩ ⟨rfl, rfl, rfl⟩
theorem hk_stable : zCH RL 171 yL_stable cL_stable 5 (some .int) [(0, 10, 13, 21)] 4 := ⟨zAW_of 669 (by decide +kernel) (by decide +kernel), zAW_of 670 (by decide +kernel) (by decide +kernel), zAW_of 0 (by decide +kernel) (by decide +kernel), zAW_of 671 (by decide +kernel) (by decide +kernel), by decide, by decide, by decide +kernel⟩
set_option maxHeartbeats 1000000 in
set_option maxRecDepth 100000 in
theorem h_stable {P0 : zPo} {l : Launch} {Δ : zDl} {ad : zK → Nat} {M : zMem} {p1 p2 : Int} {d mc ms : Nat} {fs : List Value} {w0 : Int64} {post : Int → (zK → Nat) → zMem → Prop} (h0 : M (0, 0, 0, 0) = some (.inr (7, fs))) (h82 : M (82, 0, 0, 0) = some (zLo Δ w0)) (hm : zMn l Δ yX6_stable cX6_stable 3 (some .int) d mc ms [.ref (ad (0, 0, 0, 0)), .int (zI p1), .int (zI p2)] ad M P0) (hP0 : ∀ v ad' M', P0 v ad' M' → ∃ r, v = some (.int (zI r)) ∧ zR r ∧ ad' (82, 0, 0, 0) = ad (82, 0, 0, 0) ∧ M' (82, 0, 0, 0) = some (zLo Δ w0) ∧ post r ad' M') : zMh l Δ yL_stable cL_stable 5 (some .int) [(0, 10, 13, 21)] (d + 1) mc ms [.ref (ad (0, 0, 0, 0)), .int (zI p1), .int (zI p2), .ref (ad (82, 0, 0, 0))] ad M (fun v ad' M' => v = some (.int (zI 0)) ∧ ∃ r M1, zR r ∧ post r ad' M1 ∧ M' = zup1 M1 (82, 0, 0, 0) (some (zLo Δ (zL r)))) := by
  refine zMh_of (by decide) (Nat.le_of_ble_eq_true rfl) (fun Γ hl hΔ hF htab hNc => ?_)
  subst hl hΔ
  show G Γ _ _ _ RL _ _ _ _ _ [(0, .ref (ad (0, 0, 0, 0))), (1, .int (zI p1)), (2, .int (zI p2)), (3, .ref (ad (82, 0, 0, 0)))] []
  refine G_aload_n (pc := 0) 3 3 dL_stable_0 rfl rfl ?_
  refine G_iconst (pc := 1) dL_stable_1 ?_
  refine G_aload_n (pc := 2) 0 0 dL_stable_2 rfl rfl ?_
  refine G_iload_n (pc := 3) 1 1 dL_stable_3 rfl rfl ?_
  refine G_iload_n (pc := 4) 2 2 dL_stable_4 rfl rfl ?_
  refine G_callV (pc := 5) gk_L_49 dL_stable_5 h0 rfl hm rfl rfl (Nat.le_of_ble_eq_true rfl) ⟨⟨Nat.le_refl _, by show 8 + (3 + 11) + 38 * d ≤ 38 * (d + 1); omega⟩, by show 0 + mc ≤ mc; omega, by show 0 + ms ≤ ms; omega⟩ (fun v ad1 M1 hpo => ?_)
  obtain ⟨r, rfl, hr, ha, h82', hp⟩ := hP0 _ _ _ hpo
  show G Γ _ _ _ _ _ _ _ _ _ _ [.int (zI r), .int (zI 0), .ref (ad (82, 0, 0, 0))]
  rw [← ha]
  refine G_i2l (pc := 8) dL_stable_8 hr ?_
  refine G_last (pc := 9) dL_stable_9 h82' ?_
  refine G_goto (pc := 10) 17 dL_stable_10 (by decide) ?_
  refine G_iconst (pc := 17) dL_stable_17 ?_
  refine G_iret (pc := 18) hF dL_stable_18 ⟨by omega, by omega⟩ ⟨rfl, r, M1, hr, hp, rfl⟩
set_option maxHeartbeats 1000000 in
set_option maxRecDepth 100000 in
theorem h_stable_1 {l : Launch} {Δ : zDl} {ad : zK → Nat} {M : zMem} {p1 p2 : Int} {d mc ms : Nat} {fs : List Value} (h0 : M (0, 0, 0, 0) = some (.inr (7, fs))) (hm : zMx l Δ yX6_stable cX6_stable 3 (some .int) d mc ms [.ref (ad (0, 0, 0, 0)), .int (zI p1), .int (zI p2)] ad M zF0 (zE "java/lang/IndexOutOfBoundsException" ad M)) : zMh l Δ yL_stable cL_stable 5 (some .int) [(0, 10, 13, 21)] (d + 1) mc ms [.ref (ad (0, 0, 0, 0)), .int (zI p1), .int (zI p2), .ref (ad (82, 0, 0, 0))] ad M (zD (some (.int (zI 1))) ad M) := by
  refine zMh_of (by decide) (Nat.le_of_ble_eq_true rfl) (fun Γ hl hΔ hF htab hNc => ?_)
  subst hl hΔ
  show G Γ _ _ _ RL _ _ _ _ _ [(0, .ref (ad (0, 0, 0, 0))), (1, .int (zI p1)), (2, .int (zI p2)), (3, .ref (ad (82, 0, 0, 0)))] []
  refine G_aload_n (pc := 0) 3 3 dL_stable_0 rfl rfl ?_
  refine G_iconst (pc := 1) dL_stable_1 ?_
  refine G_aload_n (pc := 2) 0 0 dL_stable_2 rfl rfl ?_
  refine G_iload_n (pc := 3) 1 1 dL_stable_3 rfl rfl ?_
  refine G_iload_n (pc := 4) 2 2 dL_stable_4 rfl rfl ?_
  refine G_callVx (pc := 5) gk_L_49 dL_stable_5 h0 rfl hm rfl rfl (Nat.le_of_ble_eq_true rfl) ⟨⟨Nat.le_refl _, by show 8 + (3 + 11) + 38 * d ≤ 38 * (d + 1); omega⟩, by show 0 + mc ≤ mc; omega, by show 0 + ms ≤ ms; omega⟩ (fun E ad1 M1 hE => ?_) (fun v ad1 M1 h => h.elim)
  obtain ⟨e1, e2, e3⟩ := hE
  rw [e1, e2, e3]
  refine zGX_catch [] ⟨0, 10, 13, 21⟩ [] (htab.trans rfl) (fun z hz => absurd hz List.not_mem_nil) rfl (by decide) cl_xIOOB ca_xIOOB (fun q => ?_)
  refine G_astore (pc := 13) [(4, .ref q), (0, .ref (ad (0, 0, 0, 0))), (1, .int (zI p1)), (2, .int (zI p2)), (3, .ref (ad (82, 0, 0, 0)))] dL_stable_13 (by decide) rfl ?_
  refine G_iconst (pc := 15) dL_stable_15 ?_
  exact G_iret (pc := 16) hF dL_stable_16 ⟨by omega, by omega⟩ ⟨rfl, rfl, rfl⟩
theorem hk_message : zCH RL 174 yL_message cL_message 7 (some .int) [(0, 14, 17, 21), (0, 14, 21, 13)] 6 := ⟨zAW_of 676 (by decide +kernel) (by decide +kernel), zAW_of 677 (by decide +kernel) (by decide +kernel), zAW_of 0 (by decide +kernel) (by decide +kernel), zAW_of 678 (by decide +kernel) (by decide +kernel), by decide, by decide, by decide +kernel⟩
set_option maxHeartbeats 1000000 in
set_option maxRecDepth 100000 in
theorem h_message {P0 : zPo} {l : Launch} {Δ : zDl} {ad : zK → Nat} {M : zMem} {p1 p2 p3 p4 : Int} {d mc ms : Nat} {fs : List Value} {w0 : Int64} {post : Int → (zK → Nat) → zMem → Prop} (h0 : M (0, 0, 0, 0) = some (.inr (7, fs))) (h82 : M (82, 0, 0, 0) = some (zLo Δ w0)) (hm : zMn l Δ yX6_message cX6_message 6 (some .int) d mc ms [.ref (ad (0, 0, 0, 0)), .int (zI p1), .int (zI p2), .int (zI p3), .int (zI p4)] ad M P0) (hP0 : ∀ v ad' M', P0 v ad' M' → ∃ r, v = some (.int (zI r)) ∧ zR r ∧ ad' (82, 0, 0, 0) = ad (82, 0, 0, 0) ∧ M' (82, 0, 0, 0) = some (zLo Δ w0) ∧ post r ad' M') : zMh l Δ yL_message cL_message 7 (some .int) [(0, 14, 17, 21), (0, 14, 21, 13)] (d + 1) mc ms [.ref (ad (0, 0, 0, 0)), .int (zI p1), .int (zI p2), .int (zI p3), .int (zI p4), .ref (ad (82, 0, 0, 0))] ad M (fun v ad' M' => v = some (.int (zI 0)) ∧ ∃ r M1, zR r ∧ post r ad' M1 ∧ M' = zup1 M1 (82, 0, 0, 0) (some (zLo Δ (zL r)))) := by
  refine zMh_of (by decide) (Nat.le_of_ble_eq_true rfl) (fun Γ hl hΔ hF htab hNc => ?_)
  subst hl hΔ
  show G Γ _ _ _ RL _ _ _ _ _ [(0, .ref (ad (0, 0, 0, 0))), (1, .int (zI p1)), (2, .int (zI p2)), (3, .int (zI p3)), (4, .int (zI p4)), (5, .ref (ad (82, 0, 0, 0)))] []
  refine G_aload (pc := 0) 5 dL_message_0 rfl ?_
  refine G_iconst (pc := 2) dL_message_2 ?_
  refine G_aload_n (pc := 3) 0 0 dL_message_3 rfl rfl ?_
  refine G_iload_n (pc := 4) 1 1 dL_message_4 rfl rfl ?_
  refine G_iload_n (pc := 5) 2 2 dL_message_5 rfl rfl ?_
  refine G_iload_n (pc := 6) 3 3 dL_message_6 rfl rfl ?_
  refine G_iload (pc := 7) 4 dL_message_7 rfl ?_
  refine G_callV (pc := 9) gk_L_52 dL_message_9 h0 rfl hm rfl rfl (Nat.le_of_ble_eq_true rfl) ⟨⟨Nat.le_refl _, by show 8 + (6 + 11) + 38 * d ≤ 38 * (d + 1); omega⟩, by show 0 + mc ≤ mc; omega, by show 0 + ms ≤ ms; omega⟩ (fun v ad1 M1 hpo => ?_)
  obtain ⟨r, rfl, hr, ha, h82', hp⟩ := hP0 _ _ _ hpo
  show G Γ _ _ _ _ _ _ _ _ _ _ [.int (zI r), .int (zI 0), .ref (ad (82, 0, 0, 0))]
  rw [← ha]
  refine G_i2l (pc := 12) dL_message_12 hr ?_
  refine G_last (pc := 13) dL_message_13 h82' ?_
  refine G_goto (pc := 14) 25 dL_message_14 (by decide) ?_
  refine G_iconst (pc := 25) dL_message_25 ?_
  refine G_iret (pc := 26) hF dL_message_26 ⟨by omega, by omega⟩ ⟨rfl, r, M1, hr, hp, rfl⟩
set_option maxHeartbeats 1000000 in
set_option maxRecDepth 100000 in
theorem h_message_1 {l : Launch} {Δ : zDl} {ad : zK → Nat} {M : zMem} {p1 p2 p3 p4 : Int} {d mc ms : Nat} {fs : List Value} (h0 : M (0, 0, 0, 0) = some (.inr (7, fs))) (hm : zMx l Δ yX6_message cX6_message 6 (some .int) d mc ms [.ref (ad (0, 0, 0, 0)), .int (zI p1), .int (zI p2), .int (zI p3), .int (zI p4)] ad M zF0 (zE "java/lang/IndexOutOfBoundsException" ad M)) : zMh l Δ yL_message cL_message 7 (some .int) [(0, 14, 17, 21), (0, 14, 21, 13)] (d + 1) mc ms [.ref (ad (0, 0, 0, 0)), .int (zI p1), .int (zI p2), .int (zI p3), .int (zI p4), .ref (ad (82, 0, 0, 0))] ad M (zD (some (.int (zI 1))) ad M) := by
  refine zMh_of (by decide) (Nat.le_of_ble_eq_true rfl) (fun Γ hl hΔ hF htab hNc => ?_)
  subst hl hΔ
  show G Γ _ _ _ RL _ _ _ _ _ [(0, .ref (ad (0, 0, 0, 0))), (1, .int (zI p1)), (2, .int (zI p2)), (3, .int (zI p3)), (4, .int (zI p4)), (5, .ref (ad (82, 0, 0, 0)))] []
  refine G_aload (pc := 0) 5 dL_message_0 rfl ?_
  refine G_iconst (pc := 2) dL_message_2 ?_
  refine G_aload_n (pc := 3) 0 0 dL_message_3 rfl rfl ?_
  refine G_iload_n (pc := 4) 1 1 dL_message_4 rfl rfl ?_
  refine G_iload_n (pc := 5) 2 2 dL_message_5 rfl rfl ?_
  refine G_iload_n (pc := 6) 3 3 dL_message_6 rfl rfl ?_
  refine G_iload (pc := 7) 4 dL_message_7 rfl ?_
  refine G_callVx (pc := 9) gk_L_52 dL_message_9 h0 rfl hm rfl rfl (Nat.le_of_ble_eq_true rfl) ⟨⟨Nat.le_refl _, by show 8 + (6 + 11) + 38 * d ≤ 38 * (d + 1); omega⟩, by show 0 + mc ≤ mc; omega, by show 0 + ms ≤ ms; omega⟩ (fun E ad1 M1 hE => ?_) (fun v ad1 M1 h => h.elim)
  obtain ⟨e1, e2, e3⟩ := hE
  rw [e1, e2, e3]
  refine zGX_catch [] ⟨0, 14, 17, 21⟩ [⟨0, 14, 21, 13⟩] (htab.trans rfl) (fun z hz => absurd hz List.not_mem_nil) rfl (by decide) cl_xIOOB ca_xIOOB (fun q => ?_)
  refine G_astore (pc := 17) [(6, .ref q), (0, .ref (ad (0, 0, 0, 0))), (1, .int (zI p1)), (2, .int (zI p2)), (3, .int (zI p3)), (4, .int (zI p4)), (5, .ref (ad (82, 0, 0, 0)))] dL_message_17 (by decide) rfl ?_
  refine G_iconst (pc := 19) dL_message_19 ?_
  exact G_iret (pc := 20) hF dL_message_20 ⟨by omega, by omega⟩ ⟨rfl, rfl, rfl⟩
set_option maxHeartbeats 1000000 in
set_option maxRecDepth 100000 in
theorem h_message_2 {l : Launch} {Δ : zDl} {ad : zK → Nat} {M : zMem} {p1 p2 p3 p4 : Int} {d mc ms : Nat} {fs : List Value} (h0 : M (0, 0, 0, 0) = some (.inr (7, fs))) (hm : zMx l Δ yX6_message cX6_message 6 (some .int) d mc ms [.ref (ad (0, 0, 0, 0)), .int (zI p1), .int (zI p2), .int (zI p3), .int (zI p4)] ad M zF0 (zE "java/lang/IllegalArgumentException" ad M)) : zMh l Δ yL_message cL_message 7 (some .int) [(0, 14, 17, 21), (0, 14, 21, 13)] (d + 1) mc ms [.ref (ad (0, 0, 0, 0)), .int (zI p1), .int (zI p2), .int (zI p3), .int (zI p4), .ref (ad (82, 0, 0, 0))] ad M (zD (some (.int (zI 2))) ad M) := by
  refine zMh_of (by decide) (Nat.le_of_ble_eq_true rfl) (fun Γ hl hΔ hF htab hNc => ?_)
  subst hl hΔ
  show G Γ _ _ _ RL _ _ _ _ _ [(0, .ref (ad (0, 0, 0, 0))), (1, .int (zI p1)), (2, .int (zI p2)), (3, .int (zI p3)), (4, .int (zI p4)), (5, .ref (ad (82, 0, 0, 0)))] []
  refine G_aload (pc := 0) 5 dL_message_0 rfl ?_
  refine G_iconst (pc := 2) dL_message_2 ?_
  refine G_aload_n (pc := 3) 0 0 dL_message_3 rfl rfl ?_
  refine G_iload_n (pc := 4) 1 1 dL_message_4 rfl rfl ?_
  refine G_iload_n (pc := 5) 2 2 dL_message_5 rfl rfl ?_
  refine G_iload_n (pc := 6) 3 3 dL_message_6 rfl rfl ?_
  refine G_iload (pc := 7) 4 dL_message_7 rfl ?_
  refine G_callVx (pc := 9) gk_L_52 dL_message_9 h0 rfl hm rfl rfl (Nat.le_of_ble_eq_true rfl) ⟨⟨Nat.le_refl _, by show 8 + (6 + 11) + 38 * d ≤ 38 * (d + 1); omega⟩, by show 0 + mc ≤ mc; omega, by show 0 + ms ≤ ms; omega⟩ (fun E ad1 M1 hE => ?_) (fun v ad1 M1 h => h.elim)
  obtain ⟨e1, e2, e3⟩ := hE
  rw [e1, e2, e3]
  refine zGX_catch [⟨0, 14, 17, 21⟩] ⟨0, 14, 21, 13⟩ [] (htab.trans rfl) (fun z hz => by rw [List.mem_singleton.mp hz]; exact ⟨by decide, _, cl_xIOOB, hNc.1⟩) rfl (by decide) cl_xIAE ca_xIAE (fun q => ?_)
  refine G_astore (pc := 21) [(6, .ref q), (0, .ref (ad (0, 0, 0, 0))), (1, .int (zI p1)), (2, .int (zI p2)), (3, .int (zI p3)), (4, .int (zI p4)), (5, .ref (ad (82, 0, 0, 0)))] dL_message_21 (by decide) rfl ?_
  refine G_iconst (pc := 23) dL_message_23 ?_
  exact G_iret (pc := 24) hF dL_message_24 ⟨by omega, by omega⟩ ⟨rfl, rfl, rfl⟩
theorem hk_kept : zCH RL 178 yL_kept cL_kept 4 (some .int) [(0, 9, 12, 21)] 3 := ⟨zAW_of 692 (by decide +kernel) (by decide +kernel), zAW_of 693 (by decide +kernel) (by decide +kernel), zAW_of 0 (by decide +kernel) (by decide +kernel), zAW_of 694 (by decide +kernel) (by decide +kernel), by decide, by decide, by decide +kernel⟩
set_option maxHeartbeats 1000000 in
set_option maxRecDepth 100000 in
theorem h_kept {P0 : zPo} {l : Launch} {Δ : zDl} {ad : zK → Nat} {M : zMem} {p1 : Int} {d mc ms : Nat} {fs : List Value} {w0 : Int64} {post : Int → (zK → Nat) → zMem → Prop} (h0 : M (0, 0, 0, 0) = some (.inr (7, fs))) (h82 : M (82, 0, 0, 0) = some (zLo Δ w0)) (hm : zMn l Δ yX6_kept cX6_kept 2 (some .int) d mc ms [.ref (ad (0, 0, 0, 0)), .int (zI p1)] ad M P0) (hP0 : ∀ v ad' M', P0 v ad' M' → ∃ r, v = some (.int (zI r)) ∧ zR r ∧ ad' (82, 0, 0, 0) = ad (82, 0, 0, 0) ∧ M' (82, 0, 0, 0) = some (zLo Δ w0) ∧ post r ad' M') : zMh l Δ yL_kept cL_kept 4 (some .int) [(0, 9, 12, 21)] (d + 1) mc ms [.ref (ad (0, 0, 0, 0)), .int (zI p1), .ref (ad (82, 0, 0, 0))] ad M (fun v ad' M' => v = some (.int (zI 0)) ∧ ∃ r M1, zR r ∧ post r ad' M1 ∧ M' = zup1 M1 (82, 0, 0, 0) (some (zLo Δ (zL r)))) := by
  refine zMh_of (by decide) (Nat.le_of_ble_eq_true rfl) (fun Γ hl hΔ hF htab hNc => ?_)
  subst hl hΔ
  show G Γ _ _ _ RL _ _ _ _ _ [(0, .ref (ad (0, 0, 0, 0))), (1, .int (zI p1)), (2, .ref (ad (82, 0, 0, 0)))] []
  refine G_aload_n (pc := 0) 2 2 dL_kept_0 rfl rfl ?_
  refine G_iconst (pc := 1) dL_kept_1 ?_
  refine G_aload_n (pc := 2) 0 0 dL_kept_2 rfl rfl ?_
  refine G_iload_n (pc := 3) 1 1 dL_kept_3 rfl rfl ?_
  refine G_callV (pc := 4) gk_L_56 dL_kept_4 h0 rfl hm rfl rfl (Nat.le_of_ble_eq_true rfl) ⟨⟨Nat.le_refl _, by show 8 + (2 + 11) + 38 * d ≤ 38 * (d + 1); omega⟩, by show 0 + mc ≤ mc; omega, by show 0 + ms ≤ ms; omega⟩ (fun v ad1 M1 hpo => ?_)
  obtain ⟨r, rfl, hr, ha, h82', hp⟩ := hP0 _ _ _ hpo
  show G Γ _ _ _ _ _ _ _ _ _ _ [.int (zI r), .int (zI 0), .ref (ad (82, 0, 0, 0))]
  rw [← ha]
  refine G_i2l (pc := 7) dL_kept_7 hr ?_
  refine G_last (pc := 8) dL_kept_8 h82' ?_
  refine G_goto (pc := 9) 15 dL_kept_9 (by decide) ?_
  refine G_iconst (pc := 15) dL_kept_15 ?_
  refine G_iret (pc := 16) hF dL_kept_16 ⟨by omega, by omega⟩ ⟨rfl, r, M1, hr, hp, rfl⟩
set_option maxHeartbeats 1000000 in
set_option maxRecDepth 100000 in
theorem h_kept_1 {l : Launch} {Δ : zDl} {ad : zK → Nat} {M : zMem} {p1 : Int} {d mc ms : Nat} {fs : List Value} (h0 : M (0, 0, 0, 0) = some (.inr (7, fs))) (hm : zMx l Δ yX6_kept cX6_kept 2 (some .int) d mc ms [.ref (ad (0, 0, 0, 0)), .int (zI p1)] ad M zF0 (zE "java/lang/IndexOutOfBoundsException" ad M)) : zMh l Δ yL_kept cL_kept 4 (some .int) [(0, 9, 12, 21)] (d + 1) mc ms [.ref (ad (0, 0, 0, 0)), .int (zI p1), .ref (ad (82, 0, 0, 0))] ad M (zD (some (.int (zI 1))) ad M) := by
  refine zMh_of (by decide) (Nat.le_of_ble_eq_true rfl) (fun Γ hl hΔ hF htab hNc => ?_)
  subst hl hΔ
  show G Γ _ _ _ RL _ _ _ _ _ [(0, .ref (ad (0, 0, 0, 0))), (1, .int (zI p1)), (2, .ref (ad (82, 0, 0, 0)))] []
  refine G_aload_n (pc := 0) 2 2 dL_kept_0 rfl rfl ?_
  refine G_iconst (pc := 1) dL_kept_1 ?_
  refine G_aload_n (pc := 2) 0 0 dL_kept_2 rfl rfl ?_
  refine G_iload_n (pc := 3) 1 1 dL_kept_3 rfl rfl ?_
  refine G_callVx (pc := 4) gk_L_56 dL_kept_4 h0 rfl hm rfl rfl (Nat.le_of_ble_eq_true rfl) ⟨⟨Nat.le_refl _, by show 8 + (2 + 11) + 38 * d ≤ 38 * (d + 1); omega⟩, by show 0 + mc ≤ mc; omega, by show 0 + ms ≤ ms; omega⟩ (fun E ad1 M1 hE => ?_) (fun v ad1 M1 h => h.elim)
  obtain ⟨e1, e2, e3⟩ := hE
  rw [e1, e2, e3]
  refine zGX_catch [] ⟨0, 9, 12, 21⟩ [] (htab.trans rfl) (fun z hz => absurd hz List.not_mem_nil) rfl (by decide) cl_xIOOB ca_xIOOB (fun q => ?_)
  refine G_astore_n (pc := 12) 3 [(3, .ref q), (0, .ref (ad (0, 0, 0, 0))), (1, .int (zI p1)), (2, .ref (ad (82, 0, 0, 0)))] dL_kept_12 rfl (by decide) rfl ?_
  refine G_iconst (pc := 13) dL_kept_13 ?_
  exact G_iret (pc := 14) hF dL_kept_14 ⟨by omega, by omega⟩ ⟨rfl, rfl, rfl⟩
theorem hk_group : zCH RL 181 yL_group cL_group 4 (some .int) [(0, 9, 12, 21), (0, 9, 15, 15)] 3 := ⟨zAW_of 699 (by decide +kernel) (by decide +kernel), zAW_of 700 (by decide +kernel) (by decide +kernel), zAW_of 0 (by decide +kernel) (by decide +kernel), zAW_of 701 (by decide +kernel) (by decide +kernel), by decide, by decide, by decide +kernel⟩
set_option maxHeartbeats 1000000 in
set_option maxRecDepth 100000 in
theorem h_group {P0 : zPo} {l : Launch} {Δ : zDl} {ad : zK → Nat} {M : zMem} {p1 : Int} {d mc ms : Nat} {fs : List Value} {w0 : Int64} {post : Int → (zK → Nat) → zMem → Prop} (h0 : M (0, 0, 0, 0) = some (.inr (7, fs))) (h82 : M (82, 0, 0, 0) = some (zLo Δ w0)) (hm : zMn l Δ yX6_group cX6_group 4 (some .int) d mc ms [.ref (ad (0, 0, 0, 0)), .int (zI p1)] ad M P0) (hP0 : ∀ v ad' M', P0 v ad' M' → ∃ r, v = some (.int (zI r)) ∧ zR r ∧ ad' (82, 0, 0, 0) = ad (82, 0, 0, 0) ∧ M' (82, 0, 0, 0) = some (zLo Δ w0) ∧ post r ad' M') : zMh l Δ yL_group cL_group 4 (some .int) [(0, 9, 12, 21), (0, 9, 15, 15)] (d + 1) mc ms [.ref (ad (0, 0, 0, 0)), .int (zI p1), .ref (ad (82, 0, 0, 0))] ad M (fun v ad' M' => v = some (.int (zI 0)) ∧ ∃ r M1, zR r ∧ post r ad' M1 ∧ M' = zup1 M1 (82, 0, 0, 0) (some (zLo Δ (zL r)))) := by
  refine zMh_of (by decide) (Nat.le_of_ble_eq_true rfl) (fun Γ hl hΔ hF htab hNc => ?_)
  subst hl hΔ
  show G Γ _ _ _ RL _ _ _ _ _ [(0, .ref (ad (0, 0, 0, 0))), (1, .int (zI p1)), (2, .ref (ad (82, 0, 0, 0)))] []
  refine G_aload_n (pc := 0) 2 2 dL_group_0 rfl rfl ?_
  refine G_iconst (pc := 1) dL_group_1 ?_
  refine G_aload_n (pc := 2) 0 0 dL_group_2 rfl rfl ?_
  refine G_iload_n (pc := 3) 1 1 dL_group_3 rfl rfl ?_
  refine G_callV (pc := 4) gk_L_59 dL_group_4 h0 rfl hm rfl rfl (Nat.le_of_ble_eq_true rfl) ⟨⟨Nat.le_refl _, by show 8 + (4 + 11) + 38 * d ≤ 38 * (d + 1); omega⟩, by show 0 + mc ≤ mc; omega, by show 0 + ms ≤ ms; omega⟩ (fun v ad1 M1 hpo => ?_)
  obtain ⟨r, rfl, hr, ha, h82', hp⟩ := hP0 _ _ _ hpo
  show G Γ _ _ _ _ _ _ _ _ _ _ [.int (zI r), .int (zI 0), .ref (ad (82, 0, 0, 0))]
  rw [← ha]
  refine G_i2l (pc := 7) dL_group_7 hr ?_
  refine G_last (pc := 8) dL_group_8 h82' ?_
  refine G_goto (pc := 9) 18 dL_group_9 (by decide) ?_
  refine G_iconst (pc := 18) dL_group_18 ?_
  refine G_iret (pc := 19) hF dL_group_19 ⟨by omega, by omega⟩ ⟨rfl, r, M1, hr, hp, rfl⟩
set_option maxHeartbeats 1000000 in
set_option maxRecDepth 100000 in
theorem h_group_1 {l : Launch} {Δ : zDl} {ad : zK → Nat} {M : zMem} {p1 : Int} {d mc ms : Nat} {fs : List Value} (h0 : M (0, 0, 0, 0) = some (.inr (7, fs))) (hm : zMx l Δ yX6_group cX6_group 4 (some .int) d mc ms [.ref (ad (0, 0, 0, 0)), .int (zI p1)] ad M zF0 (zE "java/lang/IndexOutOfBoundsException" ad M)) : zMh l Δ yL_group cL_group 4 (some .int) [(0, 9, 12, 21), (0, 9, 15, 15)] (d + 1) mc ms [.ref (ad (0, 0, 0, 0)), .int (zI p1), .ref (ad (82, 0, 0, 0))] ad M (zD (some (.int (zI 1))) ad M) := by
  refine zMh_of (by decide) (Nat.le_of_ble_eq_true rfl) (fun Γ hl hΔ hF htab hNc => ?_)
  subst hl hΔ
  show G Γ _ _ _ RL _ _ _ _ _ [(0, .ref (ad (0, 0, 0, 0))), (1, .int (zI p1)), (2, .ref (ad (82, 0, 0, 0)))] []
  refine G_aload_n (pc := 0) 2 2 dL_group_0 rfl rfl ?_
  refine G_iconst (pc := 1) dL_group_1 ?_
  refine G_aload_n (pc := 2) 0 0 dL_group_2 rfl rfl ?_
  refine G_iload_n (pc := 3) 1 1 dL_group_3 rfl rfl ?_
  refine G_callVx (pc := 4) gk_L_59 dL_group_4 h0 rfl hm rfl rfl (Nat.le_of_ble_eq_true rfl) ⟨⟨Nat.le_refl _, by show 8 + (4 + 11) + 38 * d ≤ 38 * (d + 1); omega⟩, by show 0 + mc ≤ mc; omega, by show 0 + ms ≤ ms; omega⟩ (fun E ad1 M1 hE => ?_) (fun v ad1 M1 h => h.elim)
  obtain ⟨e1, e2, e3⟩ := hE
  rw [e1, e2, e3]
  refine zGX_catch [] ⟨0, 9, 12, 21⟩ [⟨0, 9, 15, 15⟩] (htab.trans rfl) (fun z hz => absurd hz List.not_mem_nil) rfl (by decide) cl_xIOOB ca_xIOOB (fun q => ?_)
  refine G_astore_n (pc := 12) 3 [(3, .ref q), (0, .ref (ad (0, 0, 0, 0))), (1, .int (zI p1)), (2, .ref (ad (82, 0, 0, 0)))] dL_group_12 rfl (by decide) rfl ?_
  refine G_iconst (pc := 13) dL_group_13 ?_
  exact G_iret (pc := 14) hF dL_group_14 ⟨by omega, by omega⟩ ⟨rfl, rfl, rfl⟩
set_option maxHeartbeats 1000000 in
set_option maxRecDepth 100000 in
theorem h_group_2 {l : Launch} {Δ : zDl} {ad : zK → Nat} {M : zMem} {p1 : Int} {d mc ms : Nat} {fs : List Value} (h0 : M (0, 0, 0, 0) = some (.inr (7, fs))) (hm : zMx l Δ yX6_group cX6_group 4 (some .int) d mc ms [.ref (ad (0, 0, 0, 0)), .int (zI p1)] ad M zF0 (zE "java/lang/IllegalStateException" ad M)) : zMh l Δ yL_group cL_group 4 (some .int) [(0, 9, 12, 21), (0, 9, 15, 15)] (d + 1) mc ms [.ref (ad (0, 0, 0, 0)), .int (zI p1), .ref (ad (82, 0, 0, 0))] ad M (zD (some (.int (zI 2))) ad M) := by
  refine zMh_of (by decide) (Nat.le_of_ble_eq_true rfl) (fun Γ hl hΔ hF htab hNc => ?_)
  subst hl hΔ
  show G Γ _ _ _ RL _ _ _ _ _ [(0, .ref (ad (0, 0, 0, 0))), (1, .int (zI p1)), (2, .ref (ad (82, 0, 0, 0)))] []
  refine G_aload_n (pc := 0) 2 2 dL_group_0 rfl rfl ?_
  refine G_iconst (pc := 1) dL_group_1 ?_
  refine G_aload_n (pc := 2) 0 0 dL_group_2 rfl rfl ?_
  refine G_iload_n (pc := 3) 1 1 dL_group_3 rfl rfl ?_
  refine G_callVx (pc := 4) gk_L_59 dL_group_4 h0 rfl hm rfl rfl (Nat.le_of_ble_eq_true rfl) ⟨⟨Nat.le_refl _, by show 8 + (4 + 11) + 38 * d ≤ 38 * (d + 1); omega⟩, by show 0 + mc ≤ mc; omega, by show 0 + ms ≤ ms; omega⟩ (fun E ad1 M1 hE => ?_) (fun v ad1 M1 h => h.elim)
  obtain ⟨e1, e2, e3⟩ := hE
  rw [e1, e2, e3]
  refine zGX_catch [⟨0, 9, 12, 21⟩] ⟨0, 9, 15, 15⟩ [] (htab.trans rfl) (fun z hz => by rw [List.mem_singleton.mp hz]; exact ⟨by decide, _, cl_xIOOB, hNc.2.1⟩) rfl (by decide) cl_xISE ca_xISE (fun q => ?_)
  refine G_astore_n (pc := 15) 3 [(3, .ref q), (0, .ref (ad (0, 0, 0, 0))), (1, .int (zI p1)), (2, .ref (ad (82, 0, 0, 0)))] dL_group_15 rfl (by decide) rfl ?_
  refine G_iconst (pc := 16) dL_group_16 ?_
  exact G_iret (pc := 17) hF dL_group_17 ⟨by omega, by omega⟩ ⟨rfl, rfl, rfl⟩
theorem hk_join : zCH RL 184 yL_join cL_join 6 (some .int) [(0, 19, 22, 21)] 5 := ⟨zAW_of 757 (by decide +kernel) (by decide +kernel), zAW_of 758 (by decide +kernel) (by decide +kernel), zAW_of 0 (by decide +kernel) (by decide +kernel), zAW_of 759 (by decide +kernel) (by decide +kernel), by decide, by decide, by decide +kernel⟩
set_option maxHeartbeats 1000000 in
set_option maxRecDepth 100000 in
theorem h_join {P0 : zPo} {l : Launch} {Δ : zDl} {ad : zK → Nat} {M : zMem} {p1 p2 p3 : Int} {d mc ms : Nat} {fs : List Value} {w0 : Int64} {post : Int → (zK → Nat) → zMem → Prop} (h0 : M (0, 0, 0, 0) = some (.inr (7, fs))) (h82 : M (82, 0, 0, 0) = some (zLo Δ w0)) (hm : zMn l Δ yX6_join cX6_join 6 (some .boolean) d mc ms [.ref (ad (0, 0, 0, 0)), .int (zI p1), .int (zI p2), .int (zI p3)] ad M P0) (hP0 : ∀ v ad' M', P0 v ad' M' → ∃ r, v = some (.int (zI r)) ∧ zR r ∧ ad' (82, 0, 0, 0) = ad (82, 0, 0, 0) ∧ M' (82, 0, 0, 0) = some (zLo Δ w0) ∧ post r ad' M') : zMh l Δ yL_join cL_join 6 (some .int) [(0, 19, 22, 21)] (d + 1) mc ms [.ref (ad (0, 0, 0, 0)), .int (zI p1), .int (zI p2), .int (zI p3), .ref (ad (82, 0, 0, 0))] ad M (fun v ad' M' => v = some (.int (zI 0)) ∧ ∃ r M1, zR r ∧ post r ad' M1 ∧ M' = zup1 M1 (82, 0, 0, 0) (some (zLo Δ (zL (if r = 0 then 0 else 1))))) := by
  refine zMh_of (by decide) (Nat.le_of_ble_eq_true rfl) (fun Γ hl hΔ hF htab hNc => ?_)
  subst hl hΔ
  show G Γ _ _ _ RL _ _ _ _ _ [(0, .ref (ad (0, 0, 0, 0))), (1, .int (zI p1)), (2, .int (zI p2)), (3, .int (zI p3)), (4, .ref (ad (82, 0, 0, 0)))] []
  refine G_aload (pc := 0) 4 dL_join_0 rfl ?_
  refine G_iconst (pc := 2) dL_join_2 ?_
  refine G_aload_n (pc := 3) 0 0 dL_join_3 rfl rfl ?_
  refine G_iload_n (pc := 4) 1 1 dL_join_4 rfl rfl ?_
  refine G_iload_n (pc := 5) 2 2 dL_join_5 rfl rfl ?_
  refine G_iload_n (pc := 6) 3 3 dL_join_6 rfl rfl ?_
  refine G_callV (pc := 7) gk_L_62 dL_join_7 h0 rfl hm rfl rfl (Nat.le_of_ble_eq_true rfl) ⟨⟨Nat.le_refl _, by show 8 + (6 + 11) + 38 * d ≤ 38 * (d + 1); omega⟩, by show 0 + mc ≤ mc; omega, by show 0 + ms ≤ ms; omega⟩ (fun v ad1 M1 hpo => ?_)
  obtain ⟨r, rfl, hr, ha, h82', hp⟩ := hP0 _ _ _ hpo
  show G Γ _ _ _ _ _ _ _ _ _ _ [.int (zI r), .int (zI 0), .ref (ad (82, 0, 0, 0))]
  rw [← ha]
  refine G_if_eq (pc := 10) 17 dL_join_10 (by decide) hr (fun c => ?_) (fun c => ?_)
  · refine G_lconst (pc := 17) dL_join_17 ?_
    refine G_last (pc := 18) dL_join_18 h82' ?_
    refine G_goto (pc := 19) 26 dL_join_19 (by decide) ?_
    refine G_iconst (pc := 26) dL_join_26 ?_
    refine G_iret (pc := 27) hF dL_join_27 ⟨by omega, by omega⟩ ⟨rfl, r, M1, hr, hp, ?_⟩
    rw [if_pos c]
    rfl
  · refine G_lconst (pc := 13) dL_join_13 ?_
    refine G_goto (pc := 14) 18 dL_join_14 (by decide) ?_
    refine G_last (pc := 18) dL_join_18 h82' ?_
    refine G_goto (pc := 19) 26 dL_join_19 (by decide) ?_
    refine G_iconst (pc := 26) dL_join_26 ?_
    refine G_iret (pc := 27) hF dL_join_27 ⟨by omega, by omega⟩ ⟨rfl, r, M1, hr, hp, ?_⟩
    rw [if_neg c]
    rfl
set_option maxHeartbeats 1000000 in
set_option maxRecDepth 100000 in
theorem h_join_1 {l : Launch} {Δ : zDl} {ad : zK → Nat} {M : zMem} {p1 p2 p3 : Int} {d mc ms : Nat} {fs : List Value} (h0 : M (0, 0, 0, 0) = some (.inr (7, fs))) (hm : zMx l Δ yX6_join cX6_join 6 (some .boolean) d mc ms [.ref (ad (0, 0, 0, 0)), .int (zI p1), .int (zI p2), .int (zI p3)] ad M zF0 (zE "java/lang/IndexOutOfBoundsException" ad M)) : zMh l Δ yL_join cL_join 6 (some .int) [(0, 19, 22, 21)] (d + 1) mc ms [.ref (ad (0, 0, 0, 0)), .int (zI p1), .int (zI p2), .int (zI p3), .ref (ad (82, 0, 0, 0))] ad M (zD (some (.int (zI 1))) ad M) := by
  refine zMh_of (by decide) (Nat.le_of_ble_eq_true rfl) (fun Γ hl hΔ hF htab hNc => ?_)
  subst hl hΔ
  show G Γ _ _ _ RL _ _ _ _ _ [(0, .ref (ad (0, 0, 0, 0))), (1, .int (zI p1)), (2, .int (zI p2)), (3, .int (zI p3)), (4, .ref (ad (82, 0, 0, 0)))] []
  refine G_aload (pc := 0) 4 dL_join_0 rfl ?_
  refine G_iconst (pc := 2) dL_join_2 ?_
  refine G_aload_n (pc := 3) 0 0 dL_join_3 rfl rfl ?_
  refine G_iload_n (pc := 4) 1 1 dL_join_4 rfl rfl ?_
  refine G_iload_n (pc := 5) 2 2 dL_join_5 rfl rfl ?_
  refine G_iload_n (pc := 6) 3 3 dL_join_6 rfl rfl ?_
  refine G_callVx (pc := 7) gk_L_62 dL_join_7 h0 rfl hm rfl rfl (Nat.le_of_ble_eq_true rfl) ⟨⟨Nat.le_refl _, by show 8 + (6 + 11) + 38 * d ≤ 38 * (d + 1); omega⟩, by show 0 + mc ≤ mc; omega, by show 0 + ms ≤ ms; omega⟩ (fun E ad1 M1 hE => ?_) (fun v ad1 M1 h => h.elim)
  obtain ⟨e1, e2, e3⟩ := hE
  rw [e1, e2, e3]
  refine zGX_catch [] ⟨0, 19, 22, 21⟩ [] (htab.trans rfl) (fun z hz => absurd hz List.not_mem_nil) rfl (by decide) cl_xIOOB ca_xIOOB (fun q => ?_)
  refine G_astore (pc := 22) [(5, .ref q), (0, .ref (ad (0, 0, 0, 0))), (1, .int (zI p1)), (2, .int (zI p2)), (3, .int (zI p3)), (4, .ref (ad (82, 0, 0, 0)))] dL_join_22 (by decide) rfl ?_
  refine G_iconst (pc := 24) dL_join_24 ?_
  exact G_iret (pc := 25) hF dL_join_25 ⟨by omega, by omega⟩ ⟨rfl, rfl, rfl⟩
theorem hk_take : zCH RL 188 yL_take cL_take 5 (some .int) [(0, 10, 13, 21), (0, 10, 17, 15)] 4 := ⟨zAW_of 793 (by decide +kernel) (by decide +kernel), zAW_of 794 (by decide +kernel) (by decide +kernel), zAW_of 0 (by decide +kernel) (by decide +kernel), zAW_of 795 (by decide +kernel) (by decide +kernel), by decide, by decide, by decide +kernel⟩
set_option maxHeartbeats 1000000 in
set_option maxRecDepth 100000 in
theorem h_take {P0 : zPo} {l : Launch} {Δ : zDl} {ad : zK → Nat} {M : zMem} {p1 p2 : Int} {d mc ms : Nat} {fs : List Value} {w0 : Int64} {post : Int → (zK → Nat) → zMem → Prop} (h0 : M (0, 0, 0, 0) = some (.inr (7, fs))) (h82 : M (82, 0, 0, 0) = some (zLo Δ w0)) (hm : zMn l Δ yX6_take cX6_take 7 (some .int) d mc ms [.ref (ad (0, 0, 0, 0)), .int (zI p1), .int (zI p2)] ad M P0) (hP0 : ∀ v ad' M', P0 v ad' M' → ∃ r, v = some (.int (zI r)) ∧ zR r ∧ ad' (82, 0, 0, 0) = ad (82, 0, 0, 0) ∧ M' (82, 0, 0, 0) = some (zLo Δ w0) ∧ post r ad' M') : zMh l Δ yL_take cL_take 5 (some .int) [(0, 10, 13, 21), (0, 10, 17, 15)] (d + 1) mc ms [.ref (ad (0, 0, 0, 0)), .int (zI p1), .int (zI p2), .ref (ad (82, 0, 0, 0))] ad M (fun v ad' M' => v = some (.int (zI 0)) ∧ ∃ r M1, zR r ∧ post r ad' M1 ∧ M' = zup1 M1 (82, 0, 0, 0) (some (zLo Δ (zL r)))) := by
  refine zMh_of (by decide) (Nat.le_of_ble_eq_true rfl) (fun Γ hl hΔ hF htab hNc => ?_)
  subst hl hΔ
  show G Γ _ _ _ RL _ _ _ _ _ [(0, .ref (ad (0, 0, 0, 0))), (1, .int (zI p1)), (2, .int (zI p2)), (3, .ref (ad (82, 0, 0, 0)))] []
  refine G_aload_n (pc := 0) 3 3 dL_take_0 rfl rfl ?_
  refine G_iconst (pc := 1) dL_take_1 ?_
  refine G_aload_n (pc := 2) 0 0 dL_take_2 rfl rfl ?_
  refine G_iload_n (pc := 3) 1 1 dL_take_3 rfl rfl ?_
  refine G_iload_n (pc := 4) 2 2 dL_take_4 rfl rfl ?_
  refine G_callV (pc := 5) gk_L_66 dL_take_5 h0 rfl hm rfl rfl (Nat.le_of_ble_eq_true rfl) ⟨⟨Nat.le_refl _, by show 8 + (7 + 11) + 38 * d ≤ 38 * (d + 1); omega⟩, by show 0 + mc ≤ mc; omega, by show 0 + ms ≤ ms; omega⟩ (fun v ad1 M1 hpo => ?_)
  obtain ⟨r, rfl, hr, ha, h82', hp⟩ := hP0 _ _ _ hpo
  show G Γ _ _ _ _ _ _ _ _ _ _ [.int (zI r), .int (zI 0), .ref (ad (82, 0, 0, 0))]
  rw [← ha]
  refine G_i2l (pc := 8) dL_take_8 hr ?_
  refine G_last (pc := 9) dL_take_9 h82' ?_
  refine G_goto (pc := 10) 21 dL_take_10 (by decide) ?_
  refine G_iconst (pc := 21) dL_take_21 ?_
  refine G_iret (pc := 22) hF dL_take_22 ⟨by omega, by omega⟩ ⟨rfl, r, M1, hr, hp, rfl⟩
set_option maxHeartbeats 1000000 in
set_option maxRecDepth 100000 in
theorem h_take_1 {l : Launch} {Δ : zDl} {ad : zK → Nat} {M : zMem} {p1 p2 : Int} {d mc ms : Nat} {fs : List Value} (h0 : M (0, 0, 0, 0) = some (.inr (7, fs))) (hm : zMx l Δ yX6_take cX6_take 7 (some .int) d mc ms [.ref (ad (0, 0, 0, 0)), .int (zI p1), .int (zI p2)] ad M zF0 (zE "java/lang/IndexOutOfBoundsException" ad M)) : zMh l Δ yL_take cL_take 5 (some .int) [(0, 10, 13, 21), (0, 10, 17, 15)] (d + 1) mc ms [.ref (ad (0, 0, 0, 0)), .int (zI p1), .int (zI p2), .ref (ad (82, 0, 0, 0))] ad M (zD (some (.int (zI 1))) ad M) := by
  refine zMh_of (by decide) (Nat.le_of_ble_eq_true rfl) (fun Γ hl hΔ hF htab hNc => ?_)
  subst hl hΔ
  show G Γ _ _ _ RL _ _ _ _ _ [(0, .ref (ad (0, 0, 0, 0))), (1, .int (zI p1)), (2, .int (zI p2)), (3, .ref (ad (82, 0, 0, 0)))] []
  refine G_aload_n (pc := 0) 3 3 dL_take_0 rfl rfl ?_
  refine G_iconst (pc := 1) dL_take_1 ?_
  refine G_aload_n (pc := 2) 0 0 dL_take_2 rfl rfl ?_
  refine G_iload_n (pc := 3) 1 1 dL_take_3 rfl rfl ?_
  refine G_iload_n (pc := 4) 2 2 dL_take_4 rfl rfl ?_
  refine G_callVx (pc := 5) gk_L_66 dL_take_5 h0 rfl hm rfl rfl (Nat.le_of_ble_eq_true rfl) ⟨⟨Nat.le_refl _, by show 8 + (7 + 11) + 38 * d ≤ 38 * (d + 1); omega⟩, by show 0 + mc ≤ mc; omega, by show 0 + ms ≤ ms; omega⟩ (fun E ad1 M1 hE => ?_) (fun v ad1 M1 h => h.elim)
  obtain ⟨e1, e2, e3⟩ := hE
  rw [e1, e2, e3]
  refine zGX_catch [] ⟨0, 10, 13, 21⟩ [⟨0, 10, 17, 15⟩] (htab.trans rfl) (fun z hz => absurd hz List.not_mem_nil) rfl (by decide) cl_xIOOB ca_xIOOB (fun q => ?_)
  refine G_astore (pc := 13) [(4, .ref q), (0, .ref (ad (0, 0, 0, 0))), (1, .int (zI p1)), (2, .int (zI p2)), (3, .ref (ad (82, 0, 0, 0)))] dL_take_13 (by decide) rfl ?_
  refine G_iconst (pc := 15) dL_take_15 ?_
  exact G_iret (pc := 16) hF dL_take_16 ⟨by omega, by omega⟩ ⟨rfl, rfl, rfl⟩
set_option maxHeartbeats 1000000 in
set_option maxRecDepth 100000 in
theorem h_take_2 {l : Launch} {Δ : zDl} {ad : zK → Nat} {M : zMem} {p1 p2 : Int} {d mc ms : Nat} {fs : List Value} (h0 : M (0, 0, 0, 0) = some (.inr (7, fs))) (hm : zMx l Δ yX6_take cX6_take 7 (some .int) d mc ms [.ref (ad (0, 0, 0, 0)), .int (zI p1), .int (zI p2)] ad M zF0 (zE "java/lang/IllegalStateException" ad M)) : zMh l Δ yL_take cL_take 5 (some .int) [(0, 10, 13, 21), (0, 10, 17, 15)] (d + 1) mc ms [.ref (ad (0, 0, 0, 0)), .int (zI p1), .int (zI p2), .ref (ad (82, 0, 0, 0))] ad M (zD (some (.int (zI 2))) ad M) := by
  refine zMh_of (by decide) (Nat.le_of_ble_eq_true rfl) (fun Γ hl hΔ hF htab hNc => ?_)
  subst hl hΔ
  show G Γ _ _ _ RL _ _ _ _ _ [(0, .ref (ad (0, 0, 0, 0))), (1, .int (zI p1)), (2, .int (zI p2)), (3, .ref (ad (82, 0, 0, 0)))] []
  refine G_aload_n (pc := 0) 3 3 dL_take_0 rfl rfl ?_
  refine G_iconst (pc := 1) dL_take_1 ?_
  refine G_aload_n (pc := 2) 0 0 dL_take_2 rfl rfl ?_
  refine G_iload_n (pc := 3) 1 1 dL_take_3 rfl rfl ?_
  refine G_iload_n (pc := 4) 2 2 dL_take_4 rfl rfl ?_
  refine G_callVx (pc := 5) gk_L_66 dL_take_5 h0 rfl hm rfl rfl (Nat.le_of_ble_eq_true rfl) ⟨⟨Nat.le_refl _, by show 8 + (7 + 11) + 38 * d ≤ 38 * (d + 1); omega⟩, by show 0 + mc ≤ mc; omega, by show 0 + ms ≤ ms; omega⟩ (fun E ad1 M1 hE => ?_) (fun v ad1 M1 h => h.elim)
  obtain ⟨e1, e2, e3⟩ := hE
  rw [e1, e2, e3]
  refine zGX_catch [⟨0, 10, 13, 21⟩] ⟨0, 10, 17, 15⟩ [] (htab.trans rfl) (fun z hz => by rw [List.mem_singleton.mp hz]; exact ⟨by decide, _, cl_xIOOB, hNc.2.1⟩) rfl (by decide) cl_xISE ca_xISE (fun q => ?_)
  refine G_astore (pc := 17) [(4, .ref q), (0, .ref (ad (0, 0, 0, 0))), (1, .int (zI p1)), (2, .int (zI p2)), (3, .ref (ad (82, 0, 0, 0)))] dL_take_17 (by decide) rfl ?_
  refine G_iconst (pc := 19) dL_take_19 ?_
  exact G_iret (pc := 20) hF dL_take_20 ⟨by omega, by omega⟩ ⟨rfl, rfl, rfl⟩
theorem hk_ack : zCH RL 191 yL_ack cL_ack 6 (some .int) [(0, 12, 15, 21), (0, 12, 19, 15)] 5 := ⟨zAW_of 805 (by decide +kernel) (by decide +kernel), zAW_of 806 (by decide +kernel) (by decide +kernel), zAW_of 0 (by decide +kernel) (by decide +kernel), zAW_of 807 (by decide +kernel) (by decide +kernel), by decide, by decide, by decide +kernel⟩
set_option maxHeartbeats 1000000 in
set_option maxRecDepth 100000 in
theorem h_ack {P0 : zPo} {l : Launch} {Δ : zDl} {ad : zK → Nat} {M : zMem} {p1 p2 p3 : Int} {d mc ms : Nat} {fs : List Value} {w0 : Int64} {post : Int → (zK → Nat) → zMem → Prop} (h0 : M (0, 0, 0, 0) = some (.inr (7, fs))) (h82 : M (82, 0, 0, 0) = some (zLo Δ w0)) (hm : zMn l Δ yX6_ack cX6_ack 5 (some .int) d mc ms [.ref (ad (0, 0, 0, 0)), .int (zI p1), .int (zI p2), .int (zI p3)] ad M P0) (hP0 : ∀ v ad' M', P0 v ad' M' → ∃ r, v = some (.int (zI r)) ∧ zR r ∧ ad' (82, 0, 0, 0) = ad (82, 0, 0, 0) ∧ M' (82, 0, 0, 0) = some (zLo Δ w0) ∧ post r ad' M') : zMh l Δ yL_ack cL_ack 6 (some .int) [(0, 12, 15, 21), (0, 12, 19, 15)] (d + 1) mc ms [.ref (ad (0, 0, 0, 0)), .int (zI p1), .int (zI p2), .int (zI p3), .ref (ad (82, 0, 0, 0))] ad M (fun v ad' M' => v = some (.int (zI 0)) ∧ ∃ r M1, zR r ∧ post r ad' M1 ∧ M' = zup1 M1 (82, 0, 0, 0) (some (zLo Δ (zL r)))) := by
  refine zMh_of (by decide) (Nat.le_of_ble_eq_true rfl) (fun Γ hl hΔ hF htab hNc => ?_)
  subst hl hΔ
  show G Γ _ _ _ RL _ _ _ _ _ [(0, .ref (ad (0, 0, 0, 0))), (1, .int (zI p1)), (2, .int (zI p2)), (3, .int (zI p3)), (4, .ref (ad (82, 0, 0, 0)))] []
  refine G_aload (pc := 0) 4 dL_ack_0 rfl ?_
  refine G_iconst (pc := 2) dL_ack_2 ?_
  refine G_aload_n (pc := 3) 0 0 dL_ack_3 rfl rfl ?_
  refine G_iload_n (pc := 4) 1 1 dL_ack_4 rfl rfl ?_
  refine G_iload_n (pc := 5) 2 2 dL_ack_5 rfl rfl ?_
  refine G_iload_n (pc := 6) 3 3 dL_ack_6 rfl rfl ?_
  refine G_callV (pc := 7) gk_L_69 dL_ack_7 h0 rfl hm rfl rfl (Nat.le_of_ble_eq_true rfl) ⟨⟨Nat.le_refl _, by show 8 + (5 + 11) + 38 * d ≤ 38 * (d + 1); omega⟩, by show 0 + mc ≤ mc; omega, by show 0 + ms ≤ ms; omega⟩ (fun v ad1 M1 hpo => ?_)
  obtain ⟨r, rfl, hr, ha, h82', hp⟩ := hP0 _ _ _ hpo
  show G Γ _ _ _ _ _ _ _ _ _ _ [.int (zI r), .int (zI 0), .ref (ad (82, 0, 0, 0))]
  rw [← ha]
  refine G_i2l (pc := 10) dL_ack_10 hr ?_
  refine G_last (pc := 11) dL_ack_11 h82' ?_
  refine G_goto (pc := 12) 23 dL_ack_12 (by decide) ?_
  refine G_iconst (pc := 23) dL_ack_23 ?_
  refine G_iret (pc := 24) hF dL_ack_24 ⟨by omega, by omega⟩ ⟨rfl, r, M1, hr, hp, rfl⟩
set_option maxHeartbeats 1000000 in
set_option maxRecDepth 100000 in
theorem h_ack_1 {l : Launch} {Δ : zDl} {ad : zK → Nat} {M : zMem} {p1 p2 p3 : Int} {d mc ms : Nat} {fs : List Value} (h0 : M (0, 0, 0, 0) = some (.inr (7, fs))) (hm : zMx l Δ yX6_ack cX6_ack 5 (some .int) d mc ms [.ref (ad (0, 0, 0, 0)), .int (zI p1), .int (zI p2), .int (zI p3)] ad M zF0 (zE "java/lang/IndexOutOfBoundsException" ad M)) : zMh l Δ yL_ack cL_ack 6 (some .int) [(0, 12, 15, 21), (0, 12, 19, 15)] (d + 1) mc ms [.ref (ad (0, 0, 0, 0)), .int (zI p1), .int (zI p2), .int (zI p3), .ref (ad (82, 0, 0, 0))] ad M (zD (some (.int (zI 1))) ad M) := by
  refine zMh_of (by decide) (Nat.le_of_ble_eq_true rfl) (fun Γ hl hΔ hF htab hNc => ?_)
  subst hl hΔ
  show G Γ _ _ _ RL _ _ _ _ _ [(0, .ref (ad (0, 0, 0, 0))), (1, .int (zI p1)), (2, .int (zI p2)), (3, .int (zI p3)), (4, .ref (ad (82, 0, 0, 0)))] []
  refine G_aload (pc := 0) 4 dL_ack_0 rfl ?_
  refine G_iconst (pc := 2) dL_ack_2 ?_
  refine G_aload_n (pc := 3) 0 0 dL_ack_3 rfl rfl ?_
  refine G_iload_n (pc := 4) 1 1 dL_ack_4 rfl rfl ?_
  refine G_iload_n (pc := 5) 2 2 dL_ack_5 rfl rfl ?_
  refine G_iload_n (pc := 6) 3 3 dL_ack_6 rfl rfl ?_
  refine G_callVx (pc := 7) gk_L_69 dL_ack_7 h0 rfl hm rfl rfl (Nat.le_of_ble_eq_true rfl) ⟨⟨Nat.le_refl _, by show 8 + (5 + 11) + 38 * d ≤ 38 * (d + 1); omega⟩, by show 0 + mc ≤ mc; omega, by show 0 + ms ≤ ms; omega⟩ (fun E ad1 M1 hE => ?_) (fun v ad1 M1 h => h.elim)
  obtain ⟨e1, e2, e3⟩ := hE
  rw [e1, e2, e3]
  refine zGX_catch [] ⟨0, 12, 15, 21⟩ [⟨0, 12, 19, 15⟩] (htab.trans rfl) (fun z hz => absurd hz List.not_mem_nil) rfl (by decide) cl_xIOOB ca_xIOOB (fun q => ?_)
  refine G_astore (pc := 15) [(5, .ref q), (0, .ref (ad (0, 0, 0, 0))), (1, .int (zI p1)), (2, .int (zI p2)), (3, .int (zI p3)), (4, .ref (ad (82, 0, 0, 0)))] dL_ack_15 (by decide) rfl ?_
  refine G_iconst (pc := 17) dL_ack_17 ?_
  exact G_iret (pc := 18) hF dL_ack_18 ⟨by omega, by omega⟩ ⟨rfl, rfl, rfl⟩
set_option maxHeartbeats 1000000 in
set_option maxRecDepth 100000 in
theorem h_ack_2 {l : Launch} {Δ : zDl} {ad : zK → Nat} {M : zMem} {p1 p2 p3 : Int} {d mc ms : Nat} {fs : List Value} (h0 : M (0, 0, 0, 0) = some (.inr (7, fs))) (hm : zMx l Δ yX6_ack cX6_ack 5 (some .int) d mc ms [.ref (ad (0, 0, 0, 0)), .int (zI p1), .int (zI p2), .int (zI p3)] ad M zF0 (zE "java/lang/IllegalStateException" ad M)) : zMh l Δ yL_ack cL_ack 6 (some .int) [(0, 12, 15, 21), (0, 12, 19, 15)] (d + 1) mc ms [.ref (ad (0, 0, 0, 0)), .int (zI p1), .int (zI p2), .int (zI p3), .ref (ad (82, 0, 0, 0))] ad M (zD (some (.int (zI 2))) ad M) := by
  refine zMh_of (by decide) (Nat.le_of_ble_eq_true rfl) (fun Γ hl hΔ hF htab hNc => ?_)
  subst hl hΔ
  show G Γ _ _ _ RL _ _ _ _ _ [(0, .ref (ad (0, 0, 0, 0))), (1, .int (zI p1)), (2, .int (zI p2)), (3, .int (zI p3)), (4, .ref (ad (82, 0, 0, 0)))] []
  refine G_aload (pc := 0) 4 dL_ack_0 rfl ?_
  refine G_iconst (pc := 2) dL_ack_2 ?_
  refine G_aload_n (pc := 3) 0 0 dL_ack_3 rfl rfl ?_
  refine G_iload_n (pc := 4) 1 1 dL_ack_4 rfl rfl ?_
  refine G_iload_n (pc := 5) 2 2 dL_ack_5 rfl rfl ?_
  refine G_iload_n (pc := 6) 3 3 dL_ack_6 rfl rfl ?_
  refine G_callVx (pc := 7) gk_L_69 dL_ack_7 h0 rfl hm rfl rfl (Nat.le_of_ble_eq_true rfl) ⟨⟨Nat.le_refl _, by show 8 + (5 + 11) + 38 * d ≤ 38 * (d + 1); omega⟩, by show 0 + mc ≤ mc; omega, by show 0 + ms ≤ ms; omega⟩ (fun E ad1 M1 hE => ?_) (fun v ad1 M1 h => h.elim)
  obtain ⟨e1, e2, e3⟩ := hE
  rw [e1, e2, e3]
  refine zGX_catch [⟨0, 12, 15, 21⟩] ⟨0, 12, 19, 15⟩ [] (htab.trans rfl) (fun z hz => by rw [List.mem_singleton.mp hz]; exact ⟨by decide, _, cl_xIOOB, hNc.2.1⟩) rfl (by decide) cl_xISE ca_xISE (fun q => ?_)
  refine G_astore (pc := 19) [(5, .ref q), (0, .ref (ad (0, 0, 0, 0))), (1, .int (zI p1)), (2, .int (zI p2)), (3, .int (zI p3)), (4, .ref (ad (82, 0, 0, 0)))] dL_ack_19 (by decide) rfl ?_
  refine G_iconst (pc := 21) dL_ack_21 ?_
  exact G_iret (pc := 22) hF dL_ack_22 ⟨by omega, by omega⟩ ⟨rfl, rfl, rfl⟩
theorem hk_nack : zCH RL 195 yL_nack cL_nack 6 (some .int) [(0, 12, 15, 21), (0, 12, 19, 15)] 5 := ⟨zAW_of 829 (by decide +kernel) (by decide +kernel), zAW_of 830 (by decide +kernel) (by decide +kernel), zAW_of 0 (by decide +kernel) (by decide +kernel), zAW_of 831 (by decide +kernel) (by decide +kernel), by decide, by decide, by decide +kernel⟩
set_option maxHeartbeats 1000000 in
set_option maxRecDepth 100000 in
theorem h_nack {P0 : zPo} {l : Launch} {Δ : zDl} {ad : zK → Nat} {M : zMem} {p1 p2 p3 : Int} {d mc ms : Nat} {fs : List Value} {w0 : Int64} {post : Int → (zK → Nat) → zMem → Prop} (h0 : M (0, 0, 0, 0) = some (.inr (7, fs))) (h82 : M (82, 0, 0, 0) = some (zLo Δ w0)) (hm : zMn l Δ yX6_nack cX6_nack 6 (some .int) d mc ms [.ref (ad (0, 0, 0, 0)), .int (zI p1), .int (zI p2), .int (zI p3)] ad M P0) (hP0 : ∀ v ad' M', P0 v ad' M' → ∃ r, v = some (.int (zI r)) ∧ zR r ∧ ad' (82, 0, 0, 0) = ad (82, 0, 0, 0) ∧ M' (82, 0, 0, 0) = some (zLo Δ w0) ∧ post r ad' M') : zMh l Δ yL_nack cL_nack 6 (some .int) [(0, 12, 15, 21), (0, 12, 19, 15)] (d + 1) mc ms [.ref (ad (0, 0, 0, 0)), .int (zI p1), .int (zI p2), .int (zI p3), .ref (ad (82, 0, 0, 0))] ad M (fun v ad' M' => v = some (.int (zI 0)) ∧ ∃ r M1, zR r ∧ post r ad' M1 ∧ M' = zup1 M1 (82, 0, 0, 0) (some (zLo Δ (zL r)))) := by
  refine zMh_of (by decide) (Nat.le_of_ble_eq_true rfl) (fun Γ hl hΔ hF htab hNc => ?_)
  subst hl hΔ
  show G Γ _ _ _ RL _ _ _ _ _ [(0, .ref (ad (0, 0, 0, 0))), (1, .int (zI p1)), (2, .int (zI p2)), (3, .int (zI p3)), (4, .ref (ad (82, 0, 0, 0)))] []
  refine G_aload (pc := 0) 4 dL_nack_0 rfl ?_
  refine G_iconst (pc := 2) dL_nack_2 ?_
  refine G_aload_n (pc := 3) 0 0 dL_nack_3 rfl rfl ?_
  refine G_iload_n (pc := 4) 1 1 dL_nack_4 rfl rfl ?_
  refine G_iload_n (pc := 5) 2 2 dL_nack_5 rfl rfl ?_
  refine G_iload_n (pc := 6) 3 3 dL_nack_6 rfl rfl ?_
  refine G_callV (pc := 7) gk_L_73 dL_nack_7 h0 rfl hm rfl rfl (Nat.le_of_ble_eq_true rfl) ⟨⟨Nat.le_refl _, by show 8 + (6 + 11) + 38 * d ≤ 38 * (d + 1); omega⟩, by show 0 + mc ≤ mc; omega, by show 0 + ms ≤ ms; omega⟩ (fun v ad1 M1 hpo => ?_)
  obtain ⟨r, rfl, hr, ha, h82', hp⟩ := hP0 _ _ _ hpo
  show G Γ _ _ _ _ _ _ _ _ _ _ [.int (zI r), .int (zI 0), .ref (ad (82, 0, 0, 0))]
  rw [← ha]
  refine G_i2l (pc := 10) dL_nack_10 hr ?_
  refine G_last (pc := 11) dL_nack_11 h82' ?_
  refine G_goto (pc := 12) 23 dL_nack_12 (by decide) ?_
  refine G_iconst (pc := 23) dL_nack_23 ?_
  refine G_iret (pc := 24) hF dL_nack_24 ⟨by omega, by omega⟩ ⟨rfl, r, M1, hr, hp, rfl⟩
set_option maxHeartbeats 1000000 in
set_option maxRecDepth 100000 in
theorem h_nack_1 {l : Launch} {Δ : zDl} {ad : zK → Nat} {M : zMem} {p1 p2 p3 : Int} {d mc ms : Nat} {fs : List Value} (h0 : M (0, 0, 0, 0) = some (.inr (7, fs))) (hm : zMx l Δ yX6_nack cX6_nack 6 (some .int) d mc ms [.ref (ad (0, 0, 0, 0)), .int (zI p1), .int (zI p2), .int (zI p3)] ad M zF0 (zE "java/lang/IndexOutOfBoundsException" ad M)) : zMh l Δ yL_nack cL_nack 6 (some .int) [(0, 12, 15, 21), (0, 12, 19, 15)] (d + 1) mc ms [.ref (ad (0, 0, 0, 0)), .int (zI p1), .int (zI p2), .int (zI p3), .ref (ad (82, 0, 0, 0))] ad M (zD (some (.int (zI 1))) ad M) := by
  refine zMh_of (by decide) (Nat.le_of_ble_eq_true rfl) (fun Γ hl hΔ hF htab hNc => ?_)
  subst hl hΔ
  show G Γ _ _ _ RL _ _ _ _ _ [(0, .ref (ad (0, 0, 0, 0))), (1, .int (zI p1)), (2, .int (zI p2)), (3, .int (zI p3)), (4, .ref (ad (82, 0, 0, 0)))] []
  refine G_aload (pc := 0) 4 dL_nack_0 rfl ?_
  refine G_iconst (pc := 2) dL_nack_2 ?_
  refine G_aload_n (pc := 3) 0 0 dL_nack_3 rfl rfl ?_
  refine G_iload_n (pc := 4) 1 1 dL_nack_4 rfl rfl ?_
  refine G_iload_n (pc := 5) 2 2 dL_nack_5 rfl rfl ?_
  refine G_iload_n (pc := 6) 3 3 dL_nack_6 rfl rfl ?_
  refine G_callVx (pc := 7) gk_L_73 dL_nack_7 h0 rfl hm rfl rfl (Nat.le_of_ble_eq_true rfl) ⟨⟨Nat.le_refl _, by show 8 + (6 + 11) + 38 * d ≤ 38 * (d + 1); omega⟩, by show 0 + mc ≤ mc; omega, by show 0 + ms ≤ ms; omega⟩ (fun E ad1 M1 hE => ?_) (fun v ad1 M1 h => h.elim)
  obtain ⟨e1, e2, e3⟩ := hE
  rw [e1, e2, e3]
  refine zGX_catch [] ⟨0, 12, 15, 21⟩ [⟨0, 12, 19, 15⟩] (htab.trans rfl) (fun z hz => absurd hz List.not_mem_nil) rfl (by decide) cl_xIOOB ca_xIOOB (fun q => ?_)
  refine G_astore (pc := 15) [(5, .ref q), (0, .ref (ad (0, 0, 0, 0))), (1, .int (zI p1)), (2, .int (zI p2)), (3, .int (zI p3)), (4, .ref (ad (82, 0, 0, 0)))] dL_nack_15 (by decide) rfl ?_
  refine G_iconst (pc := 17) dL_nack_17 ?_
  exact G_iret (pc := 18) hF dL_nack_18 ⟨by omega, by omega⟩ ⟨rfl, rfl, rfl⟩
set_option maxHeartbeats 1000000 in
set_option maxRecDepth 100000 in
theorem h_nack_2 {l : Launch} {Δ : zDl} {ad : zK → Nat} {M : zMem} {p1 p2 p3 : Int} {d mc ms : Nat} {fs : List Value} (h0 : M (0, 0, 0, 0) = some (.inr (7, fs))) (hm : zMx l Δ yX6_nack cX6_nack 6 (some .int) d mc ms [.ref (ad (0, 0, 0, 0)), .int (zI p1), .int (zI p2), .int (zI p3)] ad M zF0 (zE "java/lang/IllegalStateException" ad M)) : zMh l Δ yL_nack cL_nack 6 (some .int) [(0, 12, 15, 21), (0, 12, 19, 15)] (d + 1) mc ms [.ref (ad (0, 0, 0, 0)), .int (zI p1), .int (zI p2), .int (zI p3), .ref (ad (82, 0, 0, 0))] ad M (zD (some (.int (zI 2))) ad M) := by
  refine zMh_of (by decide) (Nat.le_of_ble_eq_true rfl) (fun Γ hl hΔ hF htab hNc => ?_)
  subst hl hΔ
  show G Γ _ _ _ RL _ _ _ _ _ [(0, .ref (ad (0, 0, 0, 0))), (1, .int (zI p1)), (2, .int (zI p2)), (3, .int (zI p3)), (4, .ref (ad (82, 0, 0, 0)))] []
  refine G_aload (pc := 0) 4 dL_nack_0 rfl ?_
  refine G_iconst (pc := 2) dL_nack_2 ?_
  refine G_aload_n (pc := 3) 0 0 dL_nack_3 rfl rfl ?_
  refine G_iload_n (pc := 4) 1 1 dL_nack_4 rfl rfl ?_
  refine G_iload_n (pc := 5) 2 2 dL_nack_5 rfl rfl ?_
  refine G_iload_n (pc := 6) 3 3 dL_nack_6 rfl rfl ?_
  refine G_callVx (pc := 7) gk_L_73 dL_nack_7 h0 rfl hm rfl rfl (Nat.le_of_ble_eq_true rfl) ⟨⟨Nat.le_refl _, by show 8 + (6 + 11) + 38 * d ≤ 38 * (d + 1); omega⟩, by show 0 + mc ≤ mc; omega, by show 0 + ms ≤ ms; omega⟩ (fun E ad1 M1 hE => ?_) (fun v ad1 M1 h => h.elim)
  obtain ⟨e1, e2, e3⟩ := hE
  rw [e1, e2, e3]
  refine zGX_catch [⟨0, 12, 15, 21⟩] ⟨0, 12, 19, 15⟩ [] (htab.trans rfl) (fun z hz => by rw [List.mem_singleton.mp hz]; exact ⟨by decide, _, cl_xIOOB, hNc.2.1⟩) rfl (by decide) cl_xISE ca_xISE (fun q => ?_)
  refine G_astore (pc := 19) [(5, .ref q), (0, .ref (ad (0, 0, 0, 0))), (1, .int (zI p1)), (2, .int (zI p2)), (3, .int (zI p3)), (4, .ref (ad (82, 0, 0, 0)))] dL_nack_19 (by decide) rfl ?_
  refine G_iconst (pc := 21) dL_nack_21 ?_
  exact G_iret (pc := 22) hF dL_nack_22 ⟨by omega, by omega⟩ ⟨rfl, rfl, rfl⟩
theorem hk_seek : zCH RL 198 yL_seek cL_seek 6 (some .int) [(0, 12, 15, 21), (0, 12, 19, 13)] 5 := ⟨zAW_of 836 (by decide +kernel) (by decide +kernel), zAW_of 837 (by decide +kernel) (by decide +kernel), zAW_of 0 (by decide +kernel) (by decide +kernel), zAW_of 838 (by decide +kernel) (by decide +kernel), by decide, by decide, by decide +kernel⟩
set_option maxHeartbeats 1000000 in
set_option maxRecDepth 100000 in
theorem h_seek {P0 : zPo} {l : Launch} {Δ : zDl} {ad : zK → Nat} {M : zMem} {p1 p2 p3 : Int} {d mc ms : Nat} {fs : List Value} {w0 : Int64} {post : Int → (zK → Nat) → zMem → Prop} (h0 : M (0, 0, 0, 0) = some (.inr (7, fs))) (h82 : M (82, 0, 0, 0) = some (zLo Δ w0)) (hm : zMn l Δ yX6_seek cX6_seek 6 (some .int) d mc ms [.ref (ad (0, 0, 0, 0)), .int (zI p1), .int (zI p2), .int (zI p3)] ad M P0) (hP0 : ∀ v ad' M', P0 v ad' M' → ∃ r, v = some (.int (zI r)) ∧ zR r ∧ ad' (82, 0, 0, 0) = ad (82, 0, 0, 0) ∧ M' (82, 0, 0, 0) = some (zLo Δ w0) ∧ post r ad' M') : zMh l Δ yL_seek cL_seek 6 (some .int) [(0, 12, 15, 21), (0, 12, 19, 13)] (d + 1) mc ms [.ref (ad (0, 0, 0, 0)), .int (zI p1), .int (zI p2), .int (zI p3), .ref (ad (82, 0, 0, 0))] ad M (fun v ad' M' => v = some (.int (zI 0)) ∧ ∃ r M1, zR r ∧ post r ad' M1 ∧ M' = zup1 M1 (82, 0, 0, 0) (some (zLo Δ (zL r)))) := by
  refine zMh_of (by decide) (Nat.le_of_ble_eq_true rfl) (fun Γ hl hΔ hF htab hNc => ?_)
  subst hl hΔ
  show G Γ _ _ _ RL _ _ _ _ _ [(0, .ref (ad (0, 0, 0, 0))), (1, .int (zI p1)), (2, .int (zI p2)), (3, .int (zI p3)), (4, .ref (ad (82, 0, 0, 0)))] []
  refine G_aload (pc := 0) 4 dL_seek_0 rfl ?_
  refine G_iconst (pc := 2) dL_seek_2 ?_
  refine G_aload_n (pc := 3) 0 0 dL_seek_3 rfl rfl ?_
  refine G_iload_n (pc := 4) 1 1 dL_seek_4 rfl rfl ?_
  refine G_iload_n (pc := 5) 2 2 dL_seek_5 rfl rfl ?_
  refine G_iload_n (pc := 6) 3 3 dL_seek_6 rfl rfl ?_
  refine G_callV (pc := 7) gk_L_76 dL_seek_7 h0 rfl hm rfl rfl (Nat.le_of_ble_eq_true rfl) ⟨⟨Nat.le_refl _, by show 8 + (6 + 11) + 38 * d ≤ 38 * (d + 1); omega⟩, by show 0 + mc ≤ mc; omega, by show 0 + ms ≤ ms; omega⟩ (fun v ad1 M1 hpo => ?_)
  obtain ⟨r, rfl, hr, ha, h82', hp⟩ := hP0 _ _ _ hpo
  show G Γ _ _ _ _ _ _ _ _ _ _ [.int (zI r), .int (zI 0), .ref (ad (82, 0, 0, 0))]
  rw [← ha]
  refine G_i2l (pc := 10) dL_seek_10 hr ?_
  refine G_last (pc := 11) dL_seek_11 h82' ?_
  refine G_goto (pc := 12) 23 dL_seek_12 (by decide) ?_
  refine G_iconst (pc := 23) dL_seek_23 ?_
  refine G_iret (pc := 24) hF dL_seek_24 ⟨by omega, by omega⟩ ⟨rfl, r, M1, hr, hp, rfl⟩
set_option maxHeartbeats 1000000 in
set_option maxRecDepth 100000 in
theorem h_seek_1 {l : Launch} {Δ : zDl} {ad : zK → Nat} {M : zMem} {p1 p2 p3 : Int} {d mc ms : Nat} {fs : List Value} (h0 : M (0, 0, 0, 0) = some (.inr (7, fs))) (hm : zMx l Δ yX6_seek cX6_seek 6 (some .int) d mc ms [.ref (ad (0, 0, 0, 0)), .int (zI p1), .int (zI p2), .int (zI p3)] ad M zF0 (zE "java/lang/IndexOutOfBoundsException" ad M)) : zMh l Δ yL_seek cL_seek 6 (some .int) [(0, 12, 15, 21), (0, 12, 19, 13)] (d + 1) mc ms [.ref (ad (0, 0, 0, 0)), .int (zI p1), .int (zI p2), .int (zI p3), .ref (ad (82, 0, 0, 0))] ad M (zD (some (.int (zI 1))) ad M) := by
  refine zMh_of (by decide) (Nat.le_of_ble_eq_true rfl) (fun Γ hl hΔ hF htab hNc => ?_)
  subst hl hΔ
  show G Γ _ _ _ RL _ _ _ _ _ [(0, .ref (ad (0, 0, 0, 0))), (1, .int (zI p1)), (2, .int (zI p2)), (3, .int (zI p3)), (4, .ref (ad (82, 0, 0, 0)))] []
  refine G_aload (pc := 0) 4 dL_seek_0 rfl ?_
  refine G_iconst (pc := 2) dL_seek_2 ?_
  refine G_aload_n (pc := 3) 0 0 dL_seek_3 rfl rfl ?_
  refine G_iload_n (pc := 4) 1 1 dL_seek_4 rfl rfl ?_
  refine G_iload_n (pc := 5) 2 2 dL_seek_5 rfl rfl ?_
  refine G_iload_n (pc := 6) 3 3 dL_seek_6 rfl rfl ?_
  refine G_callVx (pc := 7) gk_L_76 dL_seek_7 h0 rfl hm rfl rfl (Nat.le_of_ble_eq_true rfl) ⟨⟨Nat.le_refl _, by show 8 + (6 + 11) + 38 * d ≤ 38 * (d + 1); omega⟩, by show 0 + mc ≤ mc; omega, by show 0 + ms ≤ ms; omega⟩ (fun E ad1 M1 hE => ?_) (fun v ad1 M1 h => h.elim)
  obtain ⟨e1, e2, e3⟩ := hE
  rw [e1, e2, e3]
  refine zGX_catch [] ⟨0, 12, 15, 21⟩ [⟨0, 12, 19, 13⟩] (htab.trans rfl) (fun z hz => absurd hz List.not_mem_nil) rfl (by decide) cl_xIOOB ca_xIOOB (fun q => ?_)
  refine G_astore (pc := 15) [(5, .ref q), (0, .ref (ad (0, 0, 0, 0))), (1, .int (zI p1)), (2, .int (zI p2)), (3, .int (zI p3)), (4, .ref (ad (82, 0, 0, 0)))] dL_seek_15 (by decide) rfl ?_
  refine G_iconst (pc := 17) dL_seek_17 ?_
  exact G_iret (pc := 18) hF dL_seek_18 ⟨by omega, by omega⟩ ⟨rfl, rfl, rfl⟩
set_option maxHeartbeats 1000000 in
set_option maxRecDepth 100000 in
theorem h_seek_2 {l : Launch} {Δ : zDl} {ad : zK → Nat} {M : zMem} {p1 p2 p3 : Int} {d mc ms : Nat} {fs : List Value} (h0 : M (0, 0, 0, 0) = some (.inr (7, fs))) (hm : zMx l Δ yX6_seek cX6_seek 6 (some .int) d mc ms [.ref (ad (0, 0, 0, 0)), .int (zI p1), .int (zI p2), .int (zI p3)] ad M zF0 (zE "java/lang/IllegalArgumentException" ad M)) : zMh l Δ yL_seek cL_seek 6 (some .int) [(0, 12, 15, 21), (0, 12, 19, 13)] (d + 1) mc ms [.ref (ad (0, 0, 0, 0)), .int (zI p1), .int (zI p2), .int (zI p3), .ref (ad (82, 0, 0, 0))] ad M (zD (some (.int (zI 2))) ad M) := by
  refine zMh_of (by decide) (Nat.le_of_ble_eq_true rfl) (fun Γ hl hΔ hF htab hNc => ?_)
  subst hl hΔ
  show G Γ _ _ _ RL _ _ _ _ _ [(0, .ref (ad (0, 0, 0, 0))), (1, .int (zI p1)), (2, .int (zI p2)), (3, .int (zI p3)), (4, .ref (ad (82, 0, 0, 0)))] []
  refine G_aload (pc := 0) 4 dL_seek_0 rfl ?_
  refine G_iconst (pc := 2) dL_seek_2 ?_
  refine G_aload_n (pc := 3) 0 0 dL_seek_3 rfl rfl ?_
  refine G_iload_n (pc := 4) 1 1 dL_seek_4 rfl rfl ?_
  refine G_iload_n (pc := 5) 2 2 dL_seek_5 rfl rfl ?_
  refine G_iload_n (pc := 6) 3 3 dL_seek_6 rfl rfl ?_
  refine G_callVx (pc := 7) gk_L_76 dL_seek_7 h0 rfl hm rfl rfl (Nat.le_of_ble_eq_true rfl) ⟨⟨Nat.le_refl _, by show 8 + (6 + 11) + 38 * d ≤ 38 * (d + 1); omega⟩, by show 0 + mc ≤ mc; omega, by show 0 + ms ≤ ms; omega⟩ (fun E ad1 M1 hE => ?_) (fun v ad1 M1 h => h.elim)
  obtain ⟨e1, e2, e3⟩ := hE
  rw [e1, e2, e3]
  refine zGX_catch [⟨0, 12, 15, 21⟩] ⟨0, 12, 19, 13⟩ [] (htab.trans rfl) (fun z hz => by rw [List.mem_singleton.mp hz]; exact ⟨by decide, _, cl_xIOOB, hNc.1⟩) rfl (by decide) cl_xIAE ca_xIAE (fun q => ?_)
  refine G_astore (pc := 19) [(5, .ref q), (0, .ref (ad (0, 0, 0, 0))), (1, .int (zI p1)), (2, .int (zI p2)), (3, .int (zI p3)), (4, .ref (ad (82, 0, 0, 0)))] dL_seek_19 (by decide) rfl ?_
  refine G_iconst (pc := 21) dL_seek_21 ?_
  exact G_iret (pc := 22) hF dL_seek_22 ⟨by omega, by omega⟩ ⟨rfl, rfl, rfl⟩
theorem hk_reader : zCH RL 205 yL_reader cL_reader 5 (some .int) [(0, 10, 13, 21)] 4 := ⟨zAW_of 848 (by decide +kernel) (by decide +kernel), zAW_of 849 (by decide +kernel) (by decide +kernel), zAW_of 0 (by decide +kernel) (by decide +kernel), zAW_of 850 (by decide +kernel) (by decide +kernel), by decide, by decide, by decide +kernel⟩
set_option maxHeartbeats 1000000 in
set_option maxRecDepth 100000 in
theorem h_reader {P0 : zPo} {l : Launch} {Δ : zDl} {ad : zK → Nat} {M : zMem} {p1 p2 : Int} {d mc ms : Nat} {fs : List Value} {w0 : Int64} {post : Int → (zK → Nat) → zMem → Prop} (h0 : M (0, 0, 0, 0) = some (.inr (7, fs))) (h82 : M (82, 0, 0, 0) = some (zLo Δ w0)) (hm : zMn l Δ yX6_reader cX6_reader 3 (some .int) d mc ms [.ref (ad (0, 0, 0, 0)), .int (zI p1), .int (zI p2)] ad M P0) (hP0 : ∀ v ad' M', P0 v ad' M' → ∃ r, v = some (.int (zI r)) ∧ zR r ∧ ad' (82, 0, 0, 0) = ad (82, 0, 0, 0) ∧ M' (82, 0, 0, 0) = some (zLo Δ w0) ∧ post r ad' M') : zMh l Δ yL_reader cL_reader 5 (some .int) [(0, 10, 13, 21)] (d + 1) mc ms [.ref (ad (0, 0, 0, 0)), .int (zI p1), .int (zI p2), .ref (ad (82, 0, 0, 0))] ad M (fun v ad' M' => v = some (.int (zI 0)) ∧ ∃ r M1, zR r ∧ post r ad' M1 ∧ M' = zup1 M1 (82, 0, 0, 0) (some (zLo Δ (zL r)))) := by
  refine zMh_of (by decide) (Nat.le_of_ble_eq_true rfl) (fun Γ hl hΔ hF htab hNc => ?_)
  subst hl hΔ
  show G Γ _ _ _ RL _ _ _ _ _ [(0, .ref (ad (0, 0, 0, 0))), (1, .int (zI p1)), (2, .int (zI p2)), (3, .ref (ad (82, 0, 0, 0)))] []
  refine G_aload_n (pc := 0) 3 3 dL_reader_0 rfl rfl ?_
  refine G_iconst (pc := 1) dL_reader_1 ?_
  refine G_aload_n (pc := 2) 0 0 dL_reader_2 rfl rfl ?_
  refine G_iload_n (pc := 3) 1 1 dL_reader_3 rfl rfl ?_
  refine G_iload_n (pc := 4) 2 2 dL_reader_4 rfl rfl ?_
  refine G_callV (pc := 5) gk_L_79 dL_reader_5 h0 rfl hm rfl rfl (Nat.le_of_ble_eq_true rfl) ⟨⟨Nat.le_refl _, by show 8 + (3 + 11) + 38 * d ≤ 38 * (d + 1); omega⟩, by show 0 + mc ≤ mc; omega, by show 0 + ms ≤ ms; omega⟩ (fun v ad1 M1 hpo => ?_)
  obtain ⟨r, rfl, hr, ha, h82', hp⟩ := hP0 _ _ _ hpo
  show G Γ _ _ _ _ _ _ _ _ _ _ [.int (zI r), .int (zI 0), .ref (ad (82, 0, 0, 0))]
  rw [← ha]
  refine G_i2l (pc := 8) dL_reader_8 hr ?_
  refine G_last (pc := 9) dL_reader_9 h82' ?_
  refine G_goto (pc := 10) 17 dL_reader_10 (by decide) ?_
  refine G_iconst (pc := 17) dL_reader_17 ?_
  refine G_iret (pc := 18) hF dL_reader_18 ⟨by omega, by omega⟩ ⟨rfl, r, M1, hr, hp, rfl⟩
set_option maxHeartbeats 1000000 in
set_option maxRecDepth 100000 in
theorem h_reader_1 {l : Launch} {Δ : zDl} {ad : zK → Nat} {M : zMem} {p1 p2 : Int} {d mc ms : Nat} {fs : List Value} (h0 : M (0, 0, 0, 0) = some (.inr (7, fs))) (hm : zMx l Δ yX6_reader cX6_reader 3 (some .int) d mc ms [.ref (ad (0, 0, 0, 0)), .int (zI p1), .int (zI p2)] ad M zF0 (zE "java/lang/IndexOutOfBoundsException" ad M)) : zMh l Δ yL_reader cL_reader 5 (some .int) [(0, 10, 13, 21)] (d + 1) mc ms [.ref (ad (0, 0, 0, 0)), .int (zI p1), .int (zI p2), .ref (ad (82, 0, 0, 0))] ad M (zD (some (.int (zI 1))) ad M) := by
  refine zMh_of (by decide) (Nat.le_of_ble_eq_true rfl) (fun Γ hl hΔ hF htab hNc => ?_)
  subst hl hΔ
  show G Γ _ _ _ RL _ _ _ _ _ [(0, .ref (ad (0, 0, 0, 0))), (1, .int (zI p1)), (2, .int (zI p2)), (3, .ref (ad (82, 0, 0, 0)))] []
  refine G_aload_n (pc := 0) 3 3 dL_reader_0 rfl rfl ?_
  refine G_iconst (pc := 1) dL_reader_1 ?_
  refine G_aload_n (pc := 2) 0 0 dL_reader_2 rfl rfl ?_
  refine G_iload_n (pc := 3) 1 1 dL_reader_3 rfl rfl ?_
  refine G_iload_n (pc := 4) 2 2 dL_reader_4 rfl rfl ?_
  refine G_callVx (pc := 5) gk_L_79 dL_reader_5 h0 rfl hm rfl rfl (Nat.le_of_ble_eq_true rfl) ⟨⟨Nat.le_refl _, by show 8 + (3 + 11) + 38 * d ≤ 38 * (d + 1); omega⟩, by show 0 + mc ≤ mc; omega, by show 0 + ms ≤ ms; omega⟩ (fun E ad1 M1 hE => ?_) (fun v ad1 M1 h => h.elim)
  obtain ⟨e1, e2, e3⟩ := hE
  rw [e1, e2, e3]
  refine zGX_catch [] ⟨0, 10, 13, 21⟩ [] (htab.trans rfl) (fun z hz => absurd hz List.not_mem_nil) rfl (by decide) cl_xIOOB ca_xIOOB (fun q => ?_)
  refine G_astore (pc := 13) [(4, .ref q), (0, .ref (ad (0, 0, 0, 0))), (1, .int (zI p1)), (2, .int (zI p2)), (3, .ref (ad (82, 0, 0, 0)))] dL_reader_13 (by decide) rfl ?_
  refine G_iconst (pc := 15) dL_reader_15 ?_
  exact G_iret (pc := 16) hF dL_reader_16 ⟨by omega, by omega⟩ ⟨rfl, rfl, rfl⟩
theorem hk_mark : zCH RL 208 yL_mark cL_mark 5 (some .int) [(0, 10, 13, 21)] 4 := ⟨zAW_of 855 (by decide +kernel) (by decide +kernel), zAW_of 856 (by decide +kernel) (by decide +kernel), zAW_of 0 (by decide +kernel) (by decide +kernel), zAW_of 857 (by decide +kernel) (by decide +kernel), by decide, by decide, by decide +kernel⟩
set_option maxHeartbeats 1000000 in
set_option maxRecDepth 100000 in
theorem h_mark {P0 : zPo} {l : Launch} {Δ : zDl} {ad : zK → Nat} {M : zMem} {p1 p2 : Int} {d mc ms : Nat} {fs : List Value} {w0 : Int64} {post : Int → (zK → Nat) → zMem → Prop} (h0 : M (0, 0, 0, 0) = some (.inr (7, fs))) (h82 : M (82, 0, 0, 0) = some (zLo Δ w0)) (hm : zMn l Δ yX6_mark cX6_mark 3 (some .int) d mc ms [.ref (ad (0, 0, 0, 0)), .int (zI p1), .int (zI p2)] ad M P0) (hP0 : ∀ v ad' M', P0 v ad' M' → ∃ r, v = some (.int (zI r)) ∧ zR r ∧ ad' (82, 0, 0, 0) = ad (82, 0, 0, 0) ∧ M' (82, 0, 0, 0) = some (zLo Δ w0) ∧ post r ad' M') : zMh l Δ yL_mark cL_mark 5 (some .int) [(0, 10, 13, 21)] (d + 1) mc ms [.ref (ad (0, 0, 0, 0)), .int (zI p1), .int (zI p2), .ref (ad (82, 0, 0, 0))] ad M (fun v ad' M' => v = some (.int (zI 0)) ∧ ∃ r M1, zR r ∧ post r ad' M1 ∧ M' = zup1 M1 (82, 0, 0, 0) (some (zLo Δ (zL r)))) := by
  refine zMh_of (by decide) (Nat.le_of_ble_eq_true rfl) (fun Γ hl hΔ hF htab hNc => ?_)
  subst hl hΔ
  show G Γ _ _ _ RL _ _ _ _ _ [(0, .ref (ad (0, 0, 0, 0))), (1, .int (zI p1)), (2, .int (zI p2)), (3, .ref (ad (82, 0, 0, 0)))] []
  refine G_aload_n (pc := 0) 3 3 dL_mark_0 rfl rfl ?_
  refine G_iconst (pc := 1) dL_mark_1 ?_
  refine G_aload_n (pc := 2) 0 0 dL_mark_2 rfl rfl ?_
  refine G_iload_n (pc := 3) 1 1 dL_mark_3 rfl rfl ?_
  refine G_iload_n (pc := 4) 2 2 dL_mark_4 rfl rfl ?_
  refine G_callV (pc := 5) gk_L_82 dL_mark_5 h0 rfl hm rfl rfl (Nat.le_of_ble_eq_true rfl) ⟨⟨Nat.le_refl _, by show 8 + (3 + 11) + 38 * d ≤ 38 * (d + 1); omega⟩, by show 0 + mc ≤ mc; omega, by show 0 + ms ≤ ms; omega⟩ (fun v ad1 M1 hpo => ?_)
  obtain ⟨r, rfl, hr, ha, h82', hp⟩ := hP0 _ _ _ hpo
  show G Γ _ _ _ _ _ _ _ _ _ _ [.int (zI r), .int (zI 0), .ref (ad (82, 0, 0, 0))]
  rw [← ha]
  refine G_i2l (pc := 8) dL_mark_8 hr ?_
  refine G_last (pc := 9) dL_mark_9 h82' ?_
  refine G_goto (pc := 10) 17 dL_mark_10 (by decide) ?_
  refine G_iconst (pc := 17) dL_mark_17 ?_
  refine G_iret (pc := 18) hF dL_mark_18 ⟨by omega, by omega⟩ ⟨rfl, r, M1, hr, hp, rfl⟩
set_option maxHeartbeats 1000000 in
set_option maxRecDepth 100000 in
theorem h_mark_1 {l : Launch} {Δ : zDl} {ad : zK → Nat} {M : zMem} {p1 p2 : Int} {d mc ms : Nat} {fs : List Value} (h0 : M (0, 0, 0, 0) = some (.inr (7, fs))) (hm : zMx l Δ yX6_mark cX6_mark 3 (some .int) d mc ms [.ref (ad (0, 0, 0, 0)), .int (zI p1), .int (zI p2)] ad M zF0 (zE "java/lang/IndexOutOfBoundsException" ad M)) : zMh l Δ yL_mark cL_mark 5 (some .int) [(0, 10, 13, 21)] (d + 1) mc ms [.ref (ad (0, 0, 0, 0)), .int (zI p1), .int (zI p2), .ref (ad (82, 0, 0, 0))] ad M (zD (some (.int (zI 1))) ad M) := by
  refine zMh_of (by decide) (Nat.le_of_ble_eq_true rfl) (fun Γ hl hΔ hF htab hNc => ?_)
  subst hl hΔ
  show G Γ _ _ _ RL _ _ _ _ _ [(0, .ref (ad (0, 0, 0, 0))), (1, .int (zI p1)), (2, .int (zI p2)), (3, .ref (ad (82, 0, 0, 0)))] []
  refine G_aload_n (pc := 0) 3 3 dL_mark_0 rfl rfl ?_
  refine G_iconst (pc := 1) dL_mark_1 ?_
  refine G_aload_n (pc := 2) 0 0 dL_mark_2 rfl rfl ?_
  refine G_iload_n (pc := 3) 1 1 dL_mark_3 rfl rfl ?_
  refine G_iload_n (pc := 4) 2 2 dL_mark_4 rfl rfl ?_
  refine G_callVx (pc := 5) gk_L_82 dL_mark_5 h0 rfl hm rfl rfl (Nat.le_of_ble_eq_true rfl) ⟨⟨Nat.le_refl _, by show 8 + (3 + 11) + 38 * d ≤ 38 * (d + 1); omega⟩, by show 0 + mc ≤ mc; omega, by show 0 + ms ≤ ms; omega⟩ (fun E ad1 M1 hE => ?_) (fun v ad1 M1 h => h.elim)
  obtain ⟨e1, e2, e3⟩ := hE
  rw [e1, e2, e3]
  refine zGX_catch [] ⟨0, 10, 13, 21⟩ [] (htab.trans rfl) (fun z hz => absurd hz List.not_mem_nil) rfl (by decide) cl_xIOOB ca_xIOOB (fun q => ?_)
  refine G_astore (pc := 13) [(4, .ref q), (0, .ref (ad (0, 0, 0, 0))), (1, .int (zI p1)), (2, .int (zI p2)), (3, .ref (ad (82, 0, 0, 0)))] dL_mark_13 (by decide) rfl ?_
  refine G_iconst (pc := 15) dL_mark_15 ?_
  exact G_iret (pc := 16) hF dL_mark_16 ⟨by omega, by omega⟩ ⟨rfl, rfl, rfl⟩
theorem hk_cursor : zCH RL 211 yL_cursor cL_cursor 5 (some .int) [(0, 10, 13, 21)] 4 := ⟨zAW_of 862 (by decide +kernel) (by decide +kernel), zAW_of 863 (by decide +kernel) (by decide +kernel), zAW_of 0 (by decide +kernel) (by decide +kernel), zAW_of 864 (by decide +kernel) (by decide +kernel), by decide, by decide, by decide +kernel⟩
set_option maxHeartbeats 1000000 in
set_option maxRecDepth 100000 in
theorem h_cursor {P0 : zPo} {l : Launch} {Δ : zDl} {ad : zK → Nat} {M : zMem} {p1 p2 : Int} {d mc ms : Nat} {fs : List Value} {w0 : Int64} {post : Int → (zK → Nat) → zMem → Prop} (h0 : M (0, 0, 0, 0) = some (.inr (7, fs))) (h82 : M (82, 0, 0, 0) = some (zLo Δ w0)) (hm : zMn l Δ yX6_cursor cX6_cursor 3 (some .int) d mc ms [.ref (ad (0, 0, 0, 0)), .int (zI p1), .int (zI p2)] ad M P0) (hP0 : ∀ v ad' M', P0 v ad' M' → ∃ r, v = some (.int (zI r)) ∧ zR r ∧ ad' (82, 0, 0, 0) = ad (82, 0, 0, 0) ∧ M' (82, 0, 0, 0) = some (zLo Δ w0) ∧ post r ad' M') : zMh l Δ yL_cursor cL_cursor 5 (some .int) [(0, 10, 13, 21)] (d + 1) mc ms [.ref (ad (0, 0, 0, 0)), .int (zI p1), .int (zI p2), .ref (ad (82, 0, 0, 0))] ad M (fun v ad' M' => v = some (.int (zI 0)) ∧ ∃ r M1, zR r ∧ post r ad' M1 ∧ M' = zup1 M1 (82, 0, 0, 0) (some (zLo Δ (zL r)))) := by
  refine zMh_of (by decide) (Nat.le_of_ble_eq_true rfl) (fun Γ hl hΔ hF htab hNc => ?_)
  subst hl hΔ
  show G Γ _ _ _ RL _ _ _ _ _ [(0, .ref (ad (0, 0, 0, 0))), (1, .int (zI p1)), (2, .int (zI p2)), (3, .ref (ad (82, 0, 0, 0)))] []
  refine G_aload_n (pc := 0) 3 3 dL_cursor_0 rfl rfl ?_
  refine G_iconst (pc := 1) dL_cursor_1 ?_
  refine G_aload_n (pc := 2) 0 0 dL_cursor_2 rfl rfl ?_
  refine G_iload_n (pc := 3) 1 1 dL_cursor_3 rfl rfl ?_
  refine G_iload_n (pc := 4) 2 2 dL_cursor_4 rfl rfl ?_
  refine G_callV (pc := 5) gk_L_85 dL_cursor_5 h0 rfl hm rfl rfl (Nat.le_of_ble_eq_true rfl) ⟨⟨Nat.le_refl _, by show 8 + (3 + 11) + 38 * d ≤ 38 * (d + 1); omega⟩, by show 0 + mc ≤ mc; omega, by show 0 + ms ≤ ms; omega⟩ (fun v ad1 M1 hpo => ?_)
  obtain ⟨r, rfl, hr, ha, h82', hp⟩ := hP0 _ _ _ hpo
  show G Γ _ _ _ _ _ _ _ _ _ _ [.int (zI r), .int (zI 0), .ref (ad (82, 0, 0, 0))]
  rw [← ha]
  refine G_i2l (pc := 8) dL_cursor_8 hr ?_
  refine G_last (pc := 9) dL_cursor_9 h82' ?_
  refine G_goto (pc := 10) 17 dL_cursor_10 (by decide) ?_
  refine G_iconst (pc := 17) dL_cursor_17 ?_
  refine G_iret (pc := 18) hF dL_cursor_18 ⟨by omega, by omega⟩ ⟨rfl, r, M1, hr, hp, rfl⟩
set_option maxHeartbeats 1000000 in
set_option maxRecDepth 100000 in
theorem h_cursor_1 {l : Launch} {Δ : zDl} {ad : zK → Nat} {M : zMem} {p1 p2 : Int} {d mc ms : Nat} {fs : List Value} (h0 : M (0, 0, 0, 0) = some (.inr (7, fs))) (hm : zMx l Δ yX6_cursor cX6_cursor 3 (some .int) d mc ms [.ref (ad (0, 0, 0, 0)), .int (zI p1), .int (zI p2)] ad M zF0 (zE "java/lang/IndexOutOfBoundsException" ad M)) : zMh l Δ yL_cursor cL_cursor 5 (some .int) [(0, 10, 13, 21)] (d + 1) mc ms [.ref (ad (0, 0, 0, 0)), .int (zI p1), .int (zI p2), .ref (ad (82, 0, 0, 0))] ad M (zD (some (.int (zI 1))) ad M) := by
  refine zMh_of (by decide) (Nat.le_of_ble_eq_true rfl) (fun Γ hl hΔ hF htab hNc => ?_)
  subst hl hΔ
  show G Γ _ _ _ RL _ _ _ _ _ [(0, .ref (ad (0, 0, 0, 0))), (1, .int (zI p1)), (2, .int (zI p2)), (3, .ref (ad (82, 0, 0, 0)))] []
  refine G_aload_n (pc := 0) 3 3 dL_cursor_0 rfl rfl ?_
  refine G_iconst (pc := 1) dL_cursor_1 ?_
  refine G_aload_n (pc := 2) 0 0 dL_cursor_2 rfl rfl ?_
  refine G_iload_n (pc := 3) 1 1 dL_cursor_3 rfl rfl ?_
  refine G_iload_n (pc := 4) 2 2 dL_cursor_4 rfl rfl ?_
  refine G_callVx (pc := 5) gk_L_85 dL_cursor_5 h0 rfl hm rfl rfl (Nat.le_of_ble_eq_true rfl) ⟨⟨Nat.le_refl _, by show 8 + (3 + 11) + 38 * d ≤ 38 * (d + 1); omega⟩, by show 0 + mc ≤ mc; omega, by show 0 + ms ≤ ms; omega⟩ (fun E ad1 M1 hE => ?_) (fun v ad1 M1 h => h.elim)
  obtain ⟨e1, e2, e3⟩ := hE
  rw [e1, e2, e3]
  refine zGX_catch [] ⟨0, 10, 13, 21⟩ [] (htab.trans rfl) (fun z hz => absurd hz List.not_mem_nil) rfl (by decide) cl_xIOOB ca_xIOOB (fun q => ?_)
  refine G_astore (pc := 13) [(4, .ref q), (0, .ref (ad (0, 0, 0, 0))), (1, .int (zI p1)), (2, .int (zI p2)), (3, .ref (ad (82, 0, 0, 0)))] dL_cursor_13 (by decide) rfl ?_
  refine G_iconst (pc := 15) dL_cursor_15 ?_
  exact G_iret (pc := 16) hF dL_cursor_16 ⟨by omega, by omega⟩ ⟨rfl, rfl, rfl⟩
theorem hk_state : zCH RL 214 yL_state cL_state 6 (some .int) [(0, 12, 15, 21)] 5 := ⟨zAW_of 869 (by decide +kernel) (by decide +kernel), zAW_of 870 (by decide +kernel) (by decide +kernel), zAW_of 0 (by decide +kernel) (by decide +kernel), zAW_of 871 (by decide +kernel) (by decide +kernel), by decide, by decide, by decide +kernel⟩
set_option maxHeartbeats 1000000 in
set_option maxRecDepth 100000 in
theorem h_state {P0 : zPo} {l : Launch} {Δ : zDl} {ad : zK → Nat} {M : zMem} {p1 p2 p3 : Int} {d mc ms : Nat} {fs : List Value} {w0 : Int64} {post : Int → (zK → Nat) → zMem → Prop} (h0 : M (0, 0, 0, 0) = some (.inr (7, fs))) (h82 : M (82, 0, 0, 0) = some (zLo Δ w0)) (hm : zMn l Δ yX6_state cX6_state 5 (some .int) d mc ms [.ref (ad (0, 0, 0, 0)), .int (zI p1), .int (zI p2), .int (zI p3)] ad M P0) (hP0 : ∀ v ad' M', P0 v ad' M' → ∃ r, v = some (.int (zI r)) ∧ zR r ∧ ad' (82, 0, 0, 0) = ad (82, 0, 0, 0) ∧ M' (82, 0, 0, 0) = some (zLo Δ w0) ∧ post r ad' M') : zMh l Δ yL_state cL_state 6 (some .int) [(0, 12, 15, 21)] (d + 1) mc ms [.ref (ad (0, 0, 0, 0)), .int (zI p1), .int (zI p2), .int (zI p3), .ref (ad (82, 0, 0, 0))] ad M (fun v ad' M' => v = some (.int (zI 0)) ∧ ∃ r M1, zR r ∧ post r ad' M1 ∧ M' = zup1 M1 (82, 0, 0, 0) (some (zLo Δ (zL r)))) := by
  refine zMh_of (by decide) (Nat.le_of_ble_eq_true rfl) (fun Γ hl hΔ hF htab hNc => ?_)
  subst hl hΔ
  show G Γ _ _ _ RL _ _ _ _ _ [(0, .ref (ad (0, 0, 0, 0))), (1, .int (zI p1)), (2, .int (zI p2)), (3, .int (zI p3)), (4, .ref (ad (82, 0, 0, 0)))] []
  refine G_aload (pc := 0) 4 dL_state_0 rfl ?_
  refine G_iconst (pc := 2) dL_state_2 ?_
  refine G_aload_n (pc := 3) 0 0 dL_state_3 rfl rfl ?_
  refine G_iload_n (pc := 4) 1 1 dL_state_4 rfl rfl ?_
  refine G_iload_n (pc := 5) 2 2 dL_state_5 rfl rfl ?_
  refine G_iload_n (pc := 6) 3 3 dL_state_6 rfl rfl ?_
  refine G_callV (pc := 7) gk_L_88 dL_state_7 h0 rfl hm rfl rfl (Nat.le_of_ble_eq_true rfl) ⟨⟨Nat.le_refl _, by show 8 + (5 + 11) + 38 * d ≤ 38 * (d + 1); omega⟩, by show 0 + mc ≤ mc; omega, by show 0 + ms ≤ ms; omega⟩ (fun v ad1 M1 hpo => ?_)
  obtain ⟨r, rfl, hr, ha, h82', hp⟩ := hP0 _ _ _ hpo
  show G Γ _ _ _ _ _ _ _ _ _ _ [.int (zI r), .int (zI 0), .ref (ad (82, 0, 0, 0))]
  rw [← ha]
  refine G_i2l (pc := 10) dL_state_10 hr ?_
  refine G_last (pc := 11) dL_state_11 h82' ?_
  refine G_goto (pc := 12) 19 dL_state_12 (by decide) ?_
  refine G_iconst (pc := 19) dL_state_19 ?_
  refine G_iret (pc := 20) hF dL_state_20 ⟨by omega, by omega⟩ ⟨rfl, r, M1, hr, hp, rfl⟩
set_option maxHeartbeats 1000000 in
set_option maxRecDepth 100000 in
theorem h_state_1 {l : Launch} {Δ : zDl} {ad : zK → Nat} {M : zMem} {p1 p2 p3 : Int} {d mc ms : Nat} {fs : List Value} (h0 : M (0, 0, 0, 0) = some (.inr (7, fs))) (hm : zMx l Δ yX6_state cX6_state 5 (some .int) d mc ms [.ref (ad (0, 0, 0, 0)), .int (zI p1), .int (zI p2), .int (zI p3)] ad M zF0 (zE "java/lang/IndexOutOfBoundsException" ad M)) : zMh l Δ yL_state cL_state 6 (some .int) [(0, 12, 15, 21)] (d + 1) mc ms [.ref (ad (0, 0, 0, 0)), .int (zI p1), .int (zI p2), .int (zI p3), .ref (ad (82, 0, 0, 0))] ad M (zD (some (.int (zI 1))) ad M) := by
  refine zMh_of (by decide) (Nat.le_of_ble_eq_true rfl) (fun Γ hl hΔ hF htab hNc => ?_)
  subst hl hΔ
  show G Γ _ _ _ RL _ _ _ _ _ [(0, .ref (ad (0, 0, 0, 0))), (1, .int (zI p1)), (2, .int (zI p2)), (3, .int (zI p3)), (4, .ref (ad (82, 0, 0, 0)))] []
  refine G_aload (pc := 0) 4 dL_state_0 rfl ?_
  refine G_iconst (pc := 2) dL_state_2 ?_
  refine G_aload_n (pc := 3) 0 0 dL_state_3 rfl rfl ?_
  refine G_iload_n (pc := 4) 1 1 dL_state_4 rfl rfl ?_
  refine G_iload_n (pc := 5) 2 2 dL_state_5 rfl rfl ?_
  refine G_iload_n (pc := 6) 3 3 dL_state_6 rfl rfl ?_
  refine G_callVx (pc := 7) gk_L_88 dL_state_7 h0 rfl hm rfl rfl (Nat.le_of_ble_eq_true rfl) ⟨⟨Nat.le_refl _, by show 8 + (5 + 11) + 38 * d ≤ 38 * (d + 1); omega⟩, by show 0 + mc ≤ mc; omega, by show 0 + ms ≤ ms; omega⟩ (fun E ad1 M1 hE => ?_) (fun v ad1 M1 h => h.elim)
  obtain ⟨e1, e2, e3⟩ := hE
  rw [e1, e2, e3]
  refine zGX_catch [] ⟨0, 12, 15, 21⟩ [] (htab.trans rfl) (fun z hz => absurd hz List.not_mem_nil) rfl (by decide) cl_xIOOB ca_xIOOB (fun q => ?_)
  refine G_astore (pc := 15) [(5, .ref q), (0, .ref (ad (0, 0, 0, 0))), (1, .int (zI p1)), (2, .int (zI p2)), (3, .int (zI p3)), (4, .ref (ad (82, 0, 0, 0)))] dL_state_15 (by decide) rfl ?_
  refine G_iconst (pc := 17) dL_state_17 ?_
  exact G_iret (pc := 18) hF dL_state_18 ⟨by omega, by omega⟩ ⟨rfl, rfl, rfl⟩
theorem hk_tries : zCH RL 217 yL_tries cL_tries 6 (some .int) [(0, 12, 15, 21)] 5 := ⟨zAW_of 876 (by decide +kernel) (by decide +kernel), zAW_of 877 (by decide +kernel) (by decide +kernel), zAW_of 0 (by decide +kernel) (by decide +kernel), zAW_of 878 (by decide +kernel) (by decide +kernel), by decide, by decide, by decide +kernel⟩
set_option maxHeartbeats 1000000 in
set_option maxRecDepth 100000 in
theorem h_tries {P0 : zPo} {l : Launch} {Δ : zDl} {ad : zK → Nat} {M : zMem} {p1 p2 p3 : Int} {d mc ms : Nat} {fs : List Value} {w0 : Int64} {post : Int → (zK → Nat) → zMem → Prop} (h0 : M (0, 0, 0, 0) = some (.inr (7, fs))) (h82 : M (82, 0, 0, 0) = some (zLo Δ w0)) (hm : zMn l Δ yX6_tries cX6_tries 5 (some .int) d mc ms [.ref (ad (0, 0, 0, 0)), .int (zI p1), .int (zI p2), .int (zI p3)] ad M P0) (hP0 : ∀ v ad' M', P0 v ad' M' → ∃ r, v = some (.int (zI r)) ∧ zR r ∧ ad' (82, 0, 0, 0) = ad (82, 0, 0, 0) ∧ M' (82, 0, 0, 0) = some (zLo Δ w0) ∧ post r ad' M') : zMh l Δ yL_tries cL_tries 6 (some .int) [(0, 12, 15, 21)] (d + 1) mc ms [.ref (ad (0, 0, 0, 0)), .int (zI p1), .int (zI p2), .int (zI p3), .ref (ad (82, 0, 0, 0))] ad M (fun v ad' M' => v = some (.int (zI 0)) ∧ ∃ r M1, zR r ∧ post r ad' M1 ∧ M' = zup1 M1 (82, 0, 0, 0) (some (zLo Δ (zL r)))) := by
  refine zMh_of (by decide) (Nat.le_of_ble_eq_true rfl) (fun Γ hl hΔ hF htab hNc => ?_)
  subst hl hΔ
  show G Γ _ _ _ RL _ _ _ _ _ [(0, .ref (ad (0, 0, 0, 0))), (1, .int (zI p1)), (2, .int (zI p2)), (3, .int (zI p3)), (4, .ref (ad (82, 0, 0, 0)))] []
  refine G_aload (pc := 0) 4 dL_tries_0 rfl ?_
  refine G_iconst (pc := 2) dL_tries_2 ?_
  refine G_aload_n (pc := 3) 0 0 dL_tries_3 rfl rfl ?_
  refine G_iload_n (pc := 4) 1 1 dL_tries_4 rfl rfl ?_
  refine G_iload_n (pc := 5) 2 2 dL_tries_5 rfl rfl ?_
  refine G_iload_n (pc := 6) 3 3 dL_tries_6 rfl rfl ?_
  refine G_callV (pc := 7) gk_L_91 dL_tries_7 h0 rfl hm rfl rfl (Nat.le_of_ble_eq_true rfl) ⟨⟨Nat.le_refl _, by show 8 + (5 + 11) + 38 * d ≤ 38 * (d + 1); omega⟩, by show 0 + mc ≤ mc; omega, by show 0 + ms ≤ ms; omega⟩ (fun v ad1 M1 hpo => ?_)
  obtain ⟨r, rfl, hr, ha, h82', hp⟩ := hP0 _ _ _ hpo
  show G Γ _ _ _ _ _ _ _ _ _ _ [.int (zI r), .int (zI 0), .ref (ad (82, 0, 0, 0))]
  rw [← ha]
  refine G_i2l (pc := 10) dL_tries_10 hr ?_
  refine G_last (pc := 11) dL_tries_11 h82' ?_
  refine G_goto (pc := 12) 19 dL_tries_12 (by decide) ?_
  refine G_iconst (pc := 19) dL_tries_19 ?_
  refine G_iret (pc := 20) hF dL_tries_20 ⟨by omega, by omega⟩ ⟨rfl, r, M1, hr, hp, rfl⟩
set_option maxHeartbeats 1000000 in
set_option maxRecDepth 100000 in
theorem h_tries_1 {l : Launch} {Δ : zDl} {ad : zK → Nat} {M : zMem} {p1 p2 p3 : Int} {d mc ms : Nat} {fs : List Value} (h0 : M (0, 0, 0, 0) = some (.inr (7, fs))) (hm : zMx l Δ yX6_tries cX6_tries 5 (some .int) d mc ms [.ref (ad (0, 0, 0, 0)), .int (zI p1), .int (zI p2), .int (zI p3)] ad M zF0 (zE "java/lang/IndexOutOfBoundsException" ad M)) : zMh l Δ yL_tries cL_tries 6 (some .int) [(0, 12, 15, 21)] (d + 1) mc ms [.ref (ad (0, 0, 0, 0)), .int (zI p1), .int (zI p2), .int (zI p3), .ref (ad (82, 0, 0, 0))] ad M (zD (some (.int (zI 1))) ad M) := by
  refine zMh_of (by decide) (Nat.le_of_ble_eq_true rfl) (fun Γ hl hΔ hF htab hNc => ?_)
  subst hl hΔ
  show G Γ _ _ _ RL _ _ _ _ _ [(0, .ref (ad (0, 0, 0, 0))), (1, .int (zI p1)), (2, .int (zI p2)), (3, .int (zI p3)), (4, .ref (ad (82, 0, 0, 0)))] []
  refine G_aload (pc := 0) 4 dL_tries_0 rfl ?_
  refine G_iconst (pc := 2) dL_tries_2 ?_
  refine G_aload_n (pc := 3) 0 0 dL_tries_3 rfl rfl ?_
  refine G_iload_n (pc := 4) 1 1 dL_tries_4 rfl rfl ?_
  refine G_iload_n (pc := 5) 2 2 dL_tries_5 rfl rfl ?_
  refine G_iload_n (pc := 6) 3 3 dL_tries_6 rfl rfl ?_
  refine G_callVx (pc := 7) gk_L_91 dL_tries_7 h0 rfl hm rfl rfl (Nat.le_of_ble_eq_true rfl) ⟨⟨Nat.le_refl _, by show 8 + (5 + 11) + 38 * d ≤ 38 * (d + 1); omega⟩, by show 0 + mc ≤ mc; omega, by show 0 + ms ≤ ms; omega⟩ (fun E ad1 M1 hE => ?_) (fun v ad1 M1 h => h.elim)
  obtain ⟨e1, e2, e3⟩ := hE
  rw [e1, e2, e3]
  refine zGX_catch [] ⟨0, 12, 15, 21⟩ [] (htab.trans rfl) (fun z hz => absurd hz List.not_mem_nil) rfl (by decide) cl_xIOOB ca_xIOOB (fun q => ?_)
  refine G_astore (pc := 15) [(5, .ref q), (0, .ref (ad (0, 0, 0, 0))), (1, .int (zI p1)), (2, .int (zI p2)), (3, .int (zI p3)), (4, .ref (ad (82, 0, 0, 0)))] dL_tries_15 (by decide) rfl ?_
  refine G_iconst (pc := 17) dL_tries_17 ?_
  exact G_iret (pc := 18) hF dL_tries_18 ⟨by omega, by omega⟩ ⟨rfl, rfl, rfl⟩
theorem hk_lag : zCH RL 220 yL_lag cL_lag 5 (some .int) [(0, 10, 13, 21)] 4 := ⟨zAW_of 883 (by decide +kernel) (by decide +kernel), zAW_of 884 (by decide +kernel) (by decide +kernel), zAW_of 0 (by decide +kernel) (by decide +kernel), zAW_of 885 (by decide +kernel) (by decide +kernel), by decide, by decide, by decide +kernel⟩
set_option maxHeartbeats 1000000 in
set_option maxRecDepth 100000 in
theorem h_lag {P0 : zPo} {l : Launch} {Δ : zDl} {ad : zK → Nat} {M : zMem} {p1 p2 : Int} {d mc ms : Nat} {fs : List Value} {w0 : Int64} {post : Int → (zK → Nat) → zMem → Prop} (h0 : M (0, 0, 0, 0) = some (.inr (7, fs))) (h82 : M (82, 0, 0, 0) = some (zLo Δ w0)) (hm : zMn l Δ yX6_lag cX6_lag 3 (some .int) d mc ms [.ref (ad (0, 0, 0, 0)), .int (zI p1), .int (zI p2)] ad M P0) (hP0 : ∀ v ad' M', P0 v ad' M' → ∃ r, v = some (.int (zI r)) ∧ zR r ∧ ad' (82, 0, 0, 0) = ad (82, 0, 0, 0) ∧ M' (82, 0, 0, 0) = some (zLo Δ w0) ∧ post r ad' M') : zMh l Δ yL_lag cL_lag 5 (some .int) [(0, 10, 13, 21)] (d + 1) mc ms [.ref (ad (0, 0, 0, 0)), .int (zI p1), .int (zI p2), .ref (ad (82, 0, 0, 0))] ad M (fun v ad' M' => v = some (.int (zI 0)) ∧ ∃ r M1, zR r ∧ post r ad' M1 ∧ M' = zup1 M1 (82, 0, 0, 0) (some (zLo Δ (zL r)))) := by
  refine zMh_of (by decide) (Nat.le_of_ble_eq_true rfl) (fun Γ hl hΔ hF htab hNc => ?_)
  subst hl hΔ
  show G Γ _ _ _ RL _ _ _ _ _ [(0, .ref (ad (0, 0, 0, 0))), (1, .int (zI p1)), (2, .int (zI p2)), (3, .ref (ad (82, 0, 0, 0)))] []
  refine G_aload_n (pc := 0) 3 3 dL_lag_0 rfl rfl ?_
  refine G_iconst (pc := 1) dL_lag_1 ?_
  refine G_aload_n (pc := 2) 0 0 dL_lag_2 rfl rfl ?_
  refine G_iload_n (pc := 3) 1 1 dL_lag_3 rfl rfl ?_
  refine G_iload_n (pc := 4) 2 2 dL_lag_4 rfl rfl ?_
  refine G_callV (pc := 5) gk_L_94 dL_lag_5 h0 rfl hm rfl rfl (Nat.le_of_ble_eq_true rfl) ⟨⟨Nat.le_refl _, by show 8 + (3 + 11) + 38 * d ≤ 38 * (d + 1); omega⟩, by show 0 + mc ≤ mc; omega, by show 0 + ms ≤ ms; omega⟩ (fun v ad1 M1 hpo => ?_)
  obtain ⟨r, rfl, hr, ha, h82', hp⟩ := hP0 _ _ _ hpo
  show G Γ _ _ _ _ _ _ _ _ _ _ [.int (zI r), .int (zI 0), .ref (ad (82, 0, 0, 0))]
  rw [← ha]
  refine G_i2l (pc := 8) dL_lag_8 hr ?_
  refine G_last (pc := 9) dL_lag_9 h82' ?_
  refine G_goto (pc := 10) 17 dL_lag_10 (by decide) ?_
  refine G_iconst (pc := 17) dL_lag_17 ?_
  refine G_iret (pc := 18) hF dL_lag_18 ⟨by omega, by omega⟩ ⟨rfl, r, M1, hr, hp, rfl⟩
set_option maxHeartbeats 1000000 in
set_option maxRecDepth 100000 in
theorem h_lag_1 {l : Launch} {Δ : zDl} {ad : zK → Nat} {M : zMem} {p1 p2 : Int} {d mc ms : Nat} {fs : List Value} (h0 : M (0, 0, 0, 0) = some (.inr (7, fs))) (hm : zMx l Δ yX6_lag cX6_lag 3 (some .int) d mc ms [.ref (ad (0, 0, 0, 0)), .int (zI p1), .int (zI p2)] ad M zF0 (zE "java/lang/IndexOutOfBoundsException" ad M)) : zMh l Δ yL_lag cL_lag 5 (some .int) [(0, 10, 13, 21)] (d + 1) mc ms [.ref (ad (0, 0, 0, 0)), .int (zI p1), .int (zI p2), .ref (ad (82, 0, 0, 0))] ad M (zD (some (.int (zI 1))) ad M) := by
  refine zMh_of (by decide) (Nat.le_of_ble_eq_true rfl) (fun Γ hl hΔ hF htab hNc => ?_)
  subst hl hΔ
  show G Γ _ _ _ RL _ _ _ _ _ [(0, .ref (ad (0, 0, 0, 0))), (1, .int (zI p1)), (2, .int (zI p2)), (3, .ref (ad (82, 0, 0, 0)))] []
  refine G_aload_n (pc := 0) 3 3 dL_lag_0 rfl rfl ?_
  refine G_iconst (pc := 1) dL_lag_1 ?_
  refine G_aload_n (pc := 2) 0 0 dL_lag_2 rfl rfl ?_
  refine G_iload_n (pc := 3) 1 1 dL_lag_3 rfl rfl ?_
  refine G_iload_n (pc := 4) 2 2 dL_lag_4 rfl rfl ?_
  refine G_callVx (pc := 5) gk_L_94 dL_lag_5 h0 rfl hm rfl rfl (Nat.le_of_ble_eq_true rfl) ⟨⟨Nat.le_refl _, by show 8 + (3 + 11) + 38 * d ≤ 38 * (d + 1); omega⟩, by show 0 + mc ≤ mc; omega, by show 0 + ms ≤ ms; omega⟩ (fun E ad1 M1 hE => ?_) (fun v ad1 M1 h => h.elim)
  obtain ⟨e1, e2, e3⟩ := hE
  rw [e1, e2, e3]
  refine zGX_catch [] ⟨0, 10, 13, 21⟩ [] (htab.trans rfl) (fun z hz => absurd hz List.not_mem_nil) rfl (by decide) cl_xIOOB ca_xIOOB (fun q => ?_)
  refine G_astore (pc := 13) [(4, .ref q), (0, .ref (ad (0, 0, 0, 0))), (1, .int (zI p1)), (2, .int (zI p2)), (3, .ref (ad (82, 0, 0, 0)))] dL_lag_13 (by decide) rfl ?_
  refine G_iconst (pc := 15) dL_lag_15 ?_
  exact G_iret (pc := 16) hF dL_lag_16 ⟨by omega, by omega⟩ ⟨rfl, rfl, rfl⟩
theorem hk_aside : zCH RL 223 yL_aside cL_aside 4 (some .int) [(0, 9, 12, 21)] 3 := ⟨zAW_of 890 (by decide +kernel) (by decide +kernel), zAW_of 891 (by decide +kernel) (by decide +kernel), zAW_of 0 (by decide +kernel) (by decide +kernel), zAW_of 892 (by decide +kernel) (by decide +kernel), by decide, by decide, by decide +kernel⟩
set_option maxHeartbeats 1000000 in
set_option maxRecDepth 100000 in
theorem h_aside {P0 : zPo} {l : Launch} {Δ : zDl} {ad : zK → Nat} {M : zMem} {p1 : Int} {d mc ms : Nat} {fs : List Value} {w0 : Int64} {post : Int → (zK → Nat) → zMem → Prop} (h0 : M (0, 0, 0, 0) = some (.inr (7, fs))) (h82 : M (82, 0, 0, 0) = some (zLo Δ w0)) (hm : zMn l Δ yX6_aside cX6_aside 2 (some .int) d mc ms [.ref (ad (0, 0, 0, 0)), .int (zI p1)] ad M P0) (hP0 : ∀ v ad' M', P0 v ad' M' → ∃ r, v = some (.int (zI r)) ∧ zR r ∧ ad' (82, 0, 0, 0) = ad (82, 0, 0, 0) ∧ M' (82, 0, 0, 0) = some (zLo Δ w0) ∧ post r ad' M') : zMh l Δ yL_aside cL_aside 4 (some .int) [(0, 9, 12, 21)] (d + 1) mc ms [.ref (ad (0, 0, 0, 0)), .int (zI p1), .ref (ad (82, 0, 0, 0))] ad M (fun v ad' M' => v = some (.int (zI 0)) ∧ ∃ r M1, zR r ∧ post r ad' M1 ∧ M' = zup1 M1 (82, 0, 0, 0) (some (zLo Δ (zL r)))) := by
  refine zMh_of (by decide) (Nat.le_of_ble_eq_true rfl) (fun Γ hl hΔ hF htab hNc => ?_)
  subst hl hΔ
  show G Γ _ _ _ RL _ _ _ _ _ [(0, .ref (ad (0, 0, 0, 0))), (1, .int (zI p1)), (2, .ref (ad (82, 0, 0, 0)))] []
  refine G_aload_n (pc := 0) 2 2 dL_aside_0 rfl rfl ?_
  refine G_iconst (pc := 1) dL_aside_1 ?_
  refine G_aload_n (pc := 2) 0 0 dL_aside_2 rfl rfl ?_
  refine G_iload_n (pc := 3) 1 1 dL_aside_3 rfl rfl ?_
  refine G_callV (pc := 4) gk_L_97 dL_aside_4 h0 rfl hm rfl rfl (Nat.le_of_ble_eq_true rfl) ⟨⟨Nat.le_refl _, by show 8 + (2 + 11) + 38 * d ≤ 38 * (d + 1); omega⟩, by show 0 + mc ≤ mc; omega, by show 0 + ms ≤ ms; omega⟩ (fun v ad1 M1 hpo => ?_)
  obtain ⟨r, rfl, hr, ha, h82', hp⟩ := hP0 _ _ _ hpo
  show G Γ _ _ _ _ _ _ _ _ _ _ [.int (zI r), .int (zI 0), .ref (ad (82, 0, 0, 0))]
  rw [← ha]
  refine G_i2l (pc := 7) dL_aside_7 hr ?_
  refine G_last (pc := 8) dL_aside_8 h82' ?_
  refine G_goto (pc := 9) 15 dL_aside_9 (by decide) ?_
  refine G_iconst (pc := 15) dL_aside_15 ?_
  refine G_iret (pc := 16) hF dL_aside_16 ⟨by omega, by omega⟩ ⟨rfl, r, M1, hr, hp, rfl⟩
set_option maxHeartbeats 1000000 in
set_option maxRecDepth 100000 in
theorem h_aside_1 {l : Launch} {Δ : zDl} {ad : zK → Nat} {M : zMem} {p1 : Int} {d mc ms : Nat} {fs : List Value} (h0 : M (0, 0, 0, 0) = some (.inr (7, fs))) (hm : zMx l Δ yX6_aside cX6_aside 2 (some .int) d mc ms [.ref (ad (0, 0, 0, 0)), .int (zI p1)] ad M zF0 (zE "java/lang/IndexOutOfBoundsException" ad M)) : zMh l Δ yL_aside cL_aside 4 (some .int) [(0, 9, 12, 21)] (d + 1) mc ms [.ref (ad (0, 0, 0, 0)), .int (zI p1), .ref (ad (82, 0, 0, 0))] ad M (zD (some (.int (zI 1))) ad M) := by
  refine zMh_of (by decide) (Nat.le_of_ble_eq_true rfl) (fun Γ hl hΔ hF htab hNc => ?_)
  subst hl hΔ
  show G Γ _ _ _ RL _ _ _ _ _ [(0, .ref (ad (0, 0, 0, 0))), (1, .int (zI p1)), (2, .ref (ad (82, 0, 0, 0)))] []
  refine G_aload_n (pc := 0) 2 2 dL_aside_0 rfl rfl ?_
  refine G_iconst (pc := 1) dL_aside_1 ?_
  refine G_aload_n (pc := 2) 0 0 dL_aside_2 rfl rfl ?_
  refine G_iload_n (pc := 3) 1 1 dL_aside_3 rfl rfl ?_
  refine G_callVx (pc := 4) gk_L_97 dL_aside_4 h0 rfl hm rfl rfl (Nat.le_of_ble_eq_true rfl) ⟨⟨Nat.le_refl _, by show 8 + (2 + 11) + 38 * d ≤ 38 * (d + 1); omega⟩, by show 0 + mc ≤ mc; omega, by show 0 + ms ≤ ms; omega⟩ (fun E ad1 M1 hE => ?_) (fun v ad1 M1 h => h.elim)
  obtain ⟨e1, e2, e3⟩ := hE
  rw [e1, e2, e3]
  refine zGX_catch [] ⟨0, 9, 12, 21⟩ [] (htab.trans rfl) (fun z hz => absurd hz List.not_mem_nil) rfl (by decide) cl_xIOOB ca_xIOOB (fun q => ?_)
  refine G_astore_n (pc := 12) 3 [(3, .ref q), (0, .ref (ad (0, 0, 0, 0))), (1, .int (zI p1)), (2, .ref (ad (82, 0, 0, 0)))] dL_aside_12 rfl (by decide) rfl ?_
  refine G_iconst (pc := 13) dL_aside_13 ?_
  exact G_iret (pc := 14) hF dL_aside_14 ⟨by omega, by omega⟩ ⟨rfl, rfl, rfl⟩
theorem hk_meanTries : zCH RL 226 yL_meanTries cL_meanTries 4 (some .int) [(0, 8, 11, 21)] 3 := ⟨zAW_of 897 (by decide +kernel) (by decide +kernel), zAW_of 898 (by decide +kernel) (by decide +kernel), zAW_of 0 (by decide +kernel) (by decide +kernel), zAW_of 899 (by decide +kernel) (by decide +kernel), by decide, by decide, by decide +kernel⟩
set_option maxHeartbeats 1000000 in
set_option maxRecDepth 100000 in
theorem h_meanTries {P0 : zPo} {l : Launch} {Δ : zDl} {ad : zK → Nat} {M : zMem} {p1 : Int} {d mc ms : Nat} {fs : List Value} {w0 : UInt64} {post : UInt64 → (zK → Nat) → zMem → Prop} (h0 : M (0, 0, 0, 0) = some (.inr (7, fs))) (h82 : M (83, 0, 0, 0) = some (zDo Δ w0)) (hm : zMn l Δ yX6_meanTries cX6_meanTries 4 (some .double) d mc ms [.ref (ad (0, 0, 0, 0)), .int (zI p1)] ad M P0) (hP0 : ∀ v ad' M', P0 v ad' M' → ∃ r, v = some (.double r) ∧ ad' (83, 0, 0, 0) = ad (83, 0, 0, 0) ∧ M' (83, 0, 0, 0) = some (zDo Δ w0) ∧ post r ad' M') : zMh l Δ yL_meanTries cL_meanTries 4 (some .int) [(0, 8, 11, 21)] (d + 1) mc ms [.ref (ad (0, 0, 0, 0)), .int (zI p1), .ref (ad (83, 0, 0, 0))] ad M (fun v ad' M' => v = some (.int (zI 0)) ∧ ∃ r M1, post r ad' M1 ∧ M' = zup1 M1 (83, 0, 0, 0) (some (zDo Δ r))) := by
  refine zMh_of (by decide) (Nat.le_of_ble_eq_true rfl) (fun Γ hl hΔ hF htab hNc => ?_)
  subst hl hΔ
  show G Γ _ _ _ RL _ _ _ _ _ [(0, .ref (ad (0, 0, 0, 0))), (1, .int (zI p1)), (2, .ref (ad (83, 0, 0, 0)))] []
  refine G_aload_n (pc := 0) 2 2 dL_meanTries_0 rfl rfl ?_
  refine G_iconst (pc := 1) dL_meanTries_1 ?_
  refine G_aload_n (pc := 2) 0 0 dL_meanTries_2 rfl rfl ?_
  refine G_iload_n (pc := 3) 1 1 dL_meanTries_3 rfl rfl ?_
  refine G_callV (pc := 4) gk_L_100 dL_meanTries_4 h0 rfl hm rfl rfl (Nat.le_of_ble_eq_true rfl) ⟨⟨Nat.le_refl _, by show 8 + (4 + 11) + 38 * d ≤ 38 * (d + 1); omega⟩, by show 0 + mc ≤ mc; omega, by show 0 + ms ≤ ms; omega⟩ (fun v ad1 M1 hpo => ?_)
  obtain ⟨r, rfl, ha, h82', hp⟩ := hP0 _ _ _ hpo
  show G Γ _ _ _ _ _ _ _ _ _ _ [.double r, .int (zI 0), .ref (ad (83, 0, 0, 0))]
  rw [← ha]
  refine G_dast (pc := 7) dL_meanTries_7 h82' ?_
  refine G_goto (pc := 8) 14 dL_meanTries_8 (by decide) ?_
  refine G_iconst (pc := 14) dL_meanTries_14 ?_
  refine G_iret (pc := 15) hF dL_meanTries_15 ⟨by omega, by omega⟩ ⟨rfl, r, M1, hp, rfl⟩
set_option maxHeartbeats 1000000 in
set_option maxRecDepth 100000 in
theorem h_meanTries_1 {l : Launch} {Δ : zDl} {ad : zK → Nat} {M : zMem} {p1 : Int} {d mc ms : Nat} {fs : List Value} (h0 : M (0, 0, 0, 0) = some (.inr (7, fs))) (hm : zMx l Δ yX6_meanTries cX6_meanTries 4 (some .double) d mc ms [.ref (ad (0, 0, 0, 0)), .int (zI p1)] ad M zF0 (zE "java/lang/IndexOutOfBoundsException" ad M)) : zMh l Δ yL_meanTries cL_meanTries 4 (some .int) [(0, 8, 11, 21)] (d + 1) mc ms [.ref (ad (0, 0, 0, 0)), .int (zI p1), .ref (ad (83, 0, 0, 0))] ad M (zD (some (.int (zI 1))) ad M) := by
  refine zMh_of (by decide) (Nat.le_of_ble_eq_true rfl) (fun Γ hl hΔ hF htab hNc => ?_)
  subst hl hΔ
  show G Γ _ _ _ RL _ _ _ _ _ [(0, .ref (ad (0, 0, 0, 0))), (1, .int (zI p1)), (2, .ref (ad (83, 0, 0, 0)))] []
  refine G_aload_n (pc := 0) 2 2 dL_meanTries_0 rfl rfl ?_
  refine G_iconst (pc := 1) dL_meanTries_1 ?_
  refine G_aload_n (pc := 2) 0 0 dL_meanTries_2 rfl rfl ?_
  refine G_iload_n (pc := 3) 1 1 dL_meanTries_3 rfl rfl ?_
  refine G_callVx (pc := 4) gk_L_100 dL_meanTries_4 h0 rfl hm rfl rfl (Nat.le_of_ble_eq_true rfl) ⟨⟨Nat.le_refl _, by show 8 + (4 + 11) + 38 * d ≤ 38 * (d + 1); omega⟩, by show 0 + mc ≤ mc; omega, by show 0 + ms ≤ ms; omega⟩ (fun E ad1 M1 hE => ?_) (fun v ad1 M1 h => h.elim)
  obtain ⟨e1, e2, e3⟩ := hE
  rw [e1, e2, e3]
  refine zGX_catch [] ⟨0, 8, 11, 21⟩ [] (htab.trans rfl) (fun z hz => absurd hz List.not_mem_nil) rfl (by decide) cl_xIOOB ca_xIOOB (fun q => ?_)
  refine G_astore_n (pc := 11) 3 [(3, .ref q), (0, .ref (ad (0, 0, 0, 0))), (1, .int (zI p1)), (2, .ref (ad (83, 0, 0, 0)))] dL_meanTries_11 rfl (by decide) rfl ?_
  refine G_iconst (pc := 12) dL_meanTries_12 ?_
  exact G_iret (pc := 13) hF dL_meanTries_13 ⟨by omega, by omega⟩ ⟨rfl, rfl, rfl⟩
theorem hk_row : zCH RL 234 yL_row cL_row 5 (some .int) [(0, 10, 13, 21), (0, 10, 17, 13)] 4 := ⟨zAW_of 912 (by decide +kernel) (by decide +kernel), zAW_of 913 (by decide +kernel) (by decide +kernel), zAW_of 0 (by decide +kernel) (by decide +kernel), zAW_of 914 (by decide +kernel) (by decide +kernel), by decide, by decide, by decide +kernel⟩
set_option maxHeartbeats 1000000 in
set_option maxRecDepth 100000 in
theorem h_row {P0 : zPo} {l : Launch} {Δ : zDl} {ad : zK → Nat} {M : zMem} {p1 p2 : Int} {d mc ms : Nat} {fs : List Value} {w0 : Int64} {post : Int → (zK → Nat) → zMem → Prop} (h0 : M (0, 0, 0, 0) = some (.inr (7, fs))) (h82 : M (82, 0, 0, 0) = some (zLo Δ w0)) (hm : zMn l Δ yX6_row cX6_row 3 (some .int) d mc ms [.ref (ad (0, 0, 0, 0)), .int (zI p1), .int (zI p2)] ad M P0) (hP0 : ∀ v ad' M', P0 v ad' M' → ∃ r, v = some (.int (zI r)) ∧ zR r ∧ ad' (82, 0, 0, 0) = ad (82, 0, 0, 0) ∧ M' (82, 0, 0, 0) = some (zLo Δ w0) ∧ post r ad' M') : zMh l Δ yL_row cL_row 5 (some .int) [(0, 10, 13, 21), (0, 10, 17, 13)] (d + 1) mc ms [.ref (ad (0, 0, 0, 0)), .int (zI p1), .int (zI p2), .ref (ad (82, 0, 0, 0))] ad M (fun v ad' M' => v = some (.int (zI 0)) ∧ ∃ r M1, zR r ∧ post r ad' M1 ∧ M' = zup1 M1 (82, 0, 0, 0) (some (zLo Δ (zL r)))) := by
  refine zMh_of (by decide) (Nat.le_of_ble_eq_true rfl) (fun Γ hl hΔ hF htab hNc => ?_)
  subst hl hΔ
  show G Γ _ _ _ RL _ _ _ _ _ [(0, .ref (ad (0, 0, 0, 0))), (1, .int (zI p1)), (2, .int (zI p2)), (3, .ref (ad (82, 0, 0, 0)))] []
  refine G_aload_n (pc := 0) 3 3 dL_row_0 rfl rfl ?_
  refine G_iconst (pc := 1) dL_row_1 ?_
  refine G_aload_n (pc := 2) 0 0 dL_row_2 rfl rfl ?_
  refine G_iload_n (pc := 3) 1 1 dL_row_3 rfl rfl ?_
  refine G_iload_n (pc := 4) 2 2 dL_row_4 rfl rfl ?_
  refine G_callV (pc := 5) gk_L_104 dL_row_5 h0 rfl hm rfl rfl (Nat.le_of_ble_eq_true rfl) ⟨⟨Nat.le_refl _, by show 8 + (3 + 11) + 38 * d ≤ 38 * (d + 1); omega⟩, by show 0 + mc ≤ mc; omega, by show 0 + ms ≤ ms; omega⟩ (fun v ad1 M1 hpo => ?_)
  obtain ⟨r, rfl, hr, ha, h82', hp⟩ := hP0 _ _ _ hpo
  show G Γ _ _ _ _ _ _ _ _ _ _ [.int (zI r), .int (zI 0), .ref (ad (82, 0, 0, 0))]
  rw [← ha]
  refine G_i2l (pc := 8) dL_row_8 hr ?_
  refine G_last (pc := 9) dL_row_9 h82' ?_
  refine G_goto (pc := 10) 21 dL_row_10 (by decide) ?_
  refine G_iconst (pc := 21) dL_row_21 ?_
  refine G_iret (pc := 22) hF dL_row_22 ⟨by omega, by omega⟩ ⟨rfl, r, M1, hr, hp, rfl⟩
set_option maxHeartbeats 1000000 in
set_option maxRecDepth 100000 in
theorem h_row_1 {l : Launch} {Δ : zDl} {ad : zK → Nat} {M : zMem} {p1 p2 : Int} {d mc ms : Nat} {fs : List Value} (h0 : M (0, 0, 0, 0) = some (.inr (7, fs))) (hm : zMx l Δ yX6_row cX6_row 3 (some .int) d mc ms [.ref (ad (0, 0, 0, 0)), .int (zI p1), .int (zI p2)] ad M zF0 (zE "java/lang/IndexOutOfBoundsException" ad M)) : zMh l Δ yL_row cL_row 5 (some .int) [(0, 10, 13, 21), (0, 10, 17, 13)] (d + 1) mc ms [.ref (ad (0, 0, 0, 0)), .int (zI p1), .int (zI p2), .ref (ad (82, 0, 0, 0))] ad M (zD (some (.int (zI 1))) ad M) := by
  refine zMh_of (by decide) (Nat.le_of_ble_eq_true rfl) (fun Γ hl hΔ hF htab hNc => ?_)
  subst hl hΔ
  show G Γ _ _ _ RL _ _ _ _ _ [(0, .ref (ad (0, 0, 0, 0))), (1, .int (zI p1)), (2, .int (zI p2)), (3, .ref (ad (82, 0, 0, 0)))] []
  refine G_aload_n (pc := 0) 3 3 dL_row_0 rfl rfl ?_
  refine G_iconst (pc := 1) dL_row_1 ?_
  refine G_aload_n (pc := 2) 0 0 dL_row_2 rfl rfl ?_
  refine G_iload_n (pc := 3) 1 1 dL_row_3 rfl rfl ?_
  refine G_iload_n (pc := 4) 2 2 dL_row_4 rfl rfl ?_
  refine G_callVx (pc := 5) gk_L_104 dL_row_5 h0 rfl hm rfl rfl (Nat.le_of_ble_eq_true rfl) ⟨⟨Nat.le_refl _, by show 8 + (3 + 11) + 38 * d ≤ 38 * (d + 1); omega⟩, by show 0 + mc ≤ mc; omega, by show 0 + ms ≤ ms; omega⟩ (fun E ad1 M1 hE => ?_) (fun v ad1 M1 h => h.elim)
  obtain ⟨e1, e2, e3⟩ := hE
  rw [e1, e2, e3]
  refine zGX_catch [] ⟨0, 10, 13, 21⟩ [⟨0, 10, 17, 13⟩] (htab.trans rfl) (fun z hz => absurd hz List.not_mem_nil) rfl (by decide) cl_xIOOB ca_xIOOB (fun q => ?_)
  refine G_astore (pc := 13) [(4, .ref q), (0, .ref (ad (0, 0, 0, 0))), (1, .int (zI p1)), (2, .int (zI p2)), (3, .ref (ad (82, 0, 0, 0)))] dL_row_13 (by decide) rfl ?_
  refine G_iconst (pc := 15) dL_row_15 ?_
  exact G_iret (pc := 16) hF dL_row_16 ⟨by omega, by omega⟩ ⟨rfl, rfl, rfl⟩
set_option maxHeartbeats 1000000 in
set_option maxRecDepth 100000 in
theorem h_row_2 {l : Launch} {Δ : zDl} {ad : zK → Nat} {M : zMem} {p1 p2 : Int} {d mc ms : Nat} {fs : List Value} (h0 : M (0, 0, 0, 0) = some (.inr (7, fs))) (hm : zMx l Δ yX6_row cX6_row 3 (some .int) d mc ms [.ref (ad (0, 0, 0, 0)), .int (zI p1), .int (zI p2)] ad M zF0 (zE "java/lang/IllegalArgumentException" ad M)) : zMh l Δ yL_row cL_row 5 (some .int) [(0, 10, 13, 21), (0, 10, 17, 13)] (d + 1) mc ms [.ref (ad (0, 0, 0, 0)), .int (zI p1), .int (zI p2), .ref (ad (82, 0, 0, 0))] ad M (zD (some (.int (zI 2))) ad M) := by
  refine zMh_of (by decide) (Nat.le_of_ble_eq_true rfl) (fun Γ hl hΔ hF htab hNc => ?_)
  subst hl hΔ
  show G Γ _ _ _ RL _ _ _ _ _ [(0, .ref (ad (0, 0, 0, 0))), (1, .int (zI p1)), (2, .int (zI p2)), (3, .ref (ad (82, 0, 0, 0)))] []
  refine G_aload_n (pc := 0) 3 3 dL_row_0 rfl rfl ?_
  refine G_iconst (pc := 1) dL_row_1 ?_
  refine G_aload_n (pc := 2) 0 0 dL_row_2 rfl rfl ?_
  refine G_iload_n (pc := 3) 1 1 dL_row_3 rfl rfl ?_
  refine G_iload_n (pc := 4) 2 2 dL_row_4 rfl rfl ?_
  refine G_callVx (pc := 5) gk_L_104 dL_row_5 h0 rfl hm rfl rfl (Nat.le_of_ble_eq_true rfl) ⟨⟨Nat.le_refl _, by show 8 + (3 + 11) + 38 * d ≤ 38 * (d + 1); omega⟩, by show 0 + mc ≤ mc; omega, by show 0 + ms ≤ ms; omega⟩ (fun E ad1 M1 hE => ?_) (fun v ad1 M1 h => h.elim)
  obtain ⟨e1, e2, e3⟩ := hE
  rw [e1, e2, e3]
  refine zGX_catch [⟨0, 10, 13, 21⟩] ⟨0, 10, 17, 13⟩ [] (htab.trans rfl) (fun z hz => by rw [List.mem_singleton.mp hz]; exact ⟨by decide, _, cl_xIOOB, hNc.1⟩) rfl (by decide) cl_xIAE ca_xIAE (fun q => ?_)
  refine G_astore (pc := 17) [(4, .ref q), (0, .ref (ad (0, 0, 0, 0))), (1, .int (zI p1)), (2, .int (zI p2)), (3, .ref (ad (82, 0, 0, 0)))] dL_row_17 (by decide) rfl ?_
  refine G_iconst (pc := 19) dL_row_19 ?_
  exact G_iret (pc := 20) hF dL_row_20 ⟨by omega, by omega⟩ ⟨rfl, rfl, rfl⟩
theorem hk_wouldTake : zCH RL 237 yL_wouldTake cL_wouldTake 5 (some .int) [(0, 10, 13, 21)] 4 := ⟨zAW_of 920 (by decide +kernel) (by decide +kernel), zAW_of 921 (by decide +kernel) (by decide +kernel), zAW_of 0 (by decide +kernel) (by decide +kernel), zAW_of 922 (by decide +kernel) (by decide +kernel), by decide, by decide, by decide +kernel⟩
set_option maxHeartbeats 1000000 in
set_option maxRecDepth 100000 in
theorem h_wouldTake {P0 : zPo} {l : Launch} {Δ : zDl} {ad : zK → Nat} {M : zMem} {p1 p2 : Int} {d mc ms : Nat} {fs : List Value} {w0 : Int64} {post : Int → (zK → Nat) → zMem → Prop} (h0 : M (0, 0, 0, 0) = some (.inr (7, fs))) (h82 : M (82, 0, 0, 0) = some (zLo Δ w0)) (hm : zMn l Δ yX6_wouldTake cX6_wouldTake 4 (some .int) d mc ms [.ref (ad (0, 0, 0, 0)), .int (zI p1), .int (zI p2)] ad M P0) (hP0 : ∀ v ad' M', P0 v ad' M' → ∃ r, v = some (.int (zI r)) ∧ zR r ∧ ad' (82, 0, 0, 0) = ad (82, 0, 0, 0) ∧ M' (82, 0, 0, 0) = some (zLo Δ w0) ∧ post r ad' M') : zMh l Δ yL_wouldTake cL_wouldTake 5 (some .int) [(0, 10, 13, 21)] (d + 1) mc ms [.ref (ad (0, 0, 0, 0)), .int (zI p1), .int (zI p2), .ref (ad (82, 0, 0, 0))] ad M (fun v ad' M' => v = some (.int (zI 0)) ∧ ∃ r M1, zR r ∧ post r ad' M1 ∧ M' = zup1 M1 (82, 0, 0, 0) (some (zLo Δ (zL r)))) := by
  refine zMh_of (by decide) (Nat.le_of_ble_eq_true rfl) (fun Γ hl hΔ hF htab hNc => ?_)
  subst hl hΔ
  show G Γ _ _ _ RL _ _ _ _ _ [(0, .ref (ad (0, 0, 0, 0))), (1, .int (zI p1)), (2, .int (zI p2)), (3, .ref (ad (82, 0, 0, 0)))] []
  refine G_aload_n (pc := 0) 3 3 dL_wouldTake_0 rfl rfl ?_
  refine G_iconst (pc := 1) dL_wouldTake_1 ?_
  refine G_aload_n (pc := 2) 0 0 dL_wouldTake_2 rfl rfl ?_
  refine G_iload_n (pc := 3) 1 1 dL_wouldTake_3 rfl rfl ?_
  refine G_iload_n (pc := 4) 2 2 dL_wouldTake_4 rfl rfl ?_
  refine G_callV (pc := 5) gk_L_107 dL_wouldTake_5 h0 rfl hm rfl rfl (Nat.le_of_ble_eq_true rfl) ⟨⟨Nat.le_refl _, by show 8 + (4 + 11) + 38 * d ≤ 38 * (d + 1); omega⟩, by show 0 + mc ≤ mc; omega, by show 0 + ms ≤ ms; omega⟩ (fun v ad1 M1 hpo => ?_)
  obtain ⟨r, rfl, hr, ha, h82', hp⟩ := hP0 _ _ _ hpo
  show G Γ _ _ _ _ _ _ _ _ _ _ [.int (zI r), .int (zI 0), .ref (ad (82, 0, 0, 0))]
  rw [← ha]
  refine G_i2l (pc := 8) dL_wouldTake_8 hr ?_
  refine G_last (pc := 9) dL_wouldTake_9 h82' ?_
  refine G_goto (pc := 10) 17 dL_wouldTake_10 (by decide) ?_
  refine G_iconst (pc := 17) dL_wouldTake_17 ?_
  refine G_iret (pc := 18) hF dL_wouldTake_18 ⟨by omega, by omega⟩ ⟨rfl, r, M1, hr, hp, rfl⟩
set_option maxHeartbeats 1000000 in
set_option maxRecDepth 100000 in
theorem h_wouldTake_1 {l : Launch} {Δ : zDl} {ad : zK → Nat} {M : zMem} {p1 p2 : Int} {d mc ms : Nat} {fs : List Value} (h0 : M (0, 0, 0, 0) = some (.inr (7, fs))) (hm : zMx l Δ yX6_wouldTake cX6_wouldTake 4 (some .int) d mc ms [.ref (ad (0, 0, 0, 0)), .int (zI p1), .int (zI p2)] ad M zF0 (zE "java/lang/IndexOutOfBoundsException" ad M)) : zMh l Δ yL_wouldTake cL_wouldTake 5 (some .int) [(0, 10, 13, 21)] (d + 1) mc ms [.ref (ad (0, 0, 0, 0)), .int (zI p1), .int (zI p2), .ref (ad (82, 0, 0, 0))] ad M (zD (some (.int (zI 1))) ad M) := by
  refine zMh_of (by decide) (Nat.le_of_ble_eq_true rfl) (fun Γ hl hΔ hF htab hNc => ?_)
  subst hl hΔ
  show G Γ _ _ _ RL _ _ _ _ _ [(0, .ref (ad (0, 0, 0, 0))), (1, .int (zI p1)), (2, .int (zI p2)), (3, .ref (ad (82, 0, 0, 0)))] []
  refine G_aload_n (pc := 0) 3 3 dL_wouldTake_0 rfl rfl ?_
  refine G_iconst (pc := 1) dL_wouldTake_1 ?_
  refine G_aload_n (pc := 2) 0 0 dL_wouldTake_2 rfl rfl ?_
  refine G_iload_n (pc := 3) 1 1 dL_wouldTake_3 rfl rfl ?_
  refine G_iload_n (pc := 4) 2 2 dL_wouldTake_4 rfl rfl ?_
  refine G_callVx (pc := 5) gk_L_107 dL_wouldTake_5 h0 rfl hm rfl rfl (Nat.le_of_ble_eq_true rfl) ⟨⟨Nat.le_refl _, by show 8 + (4 + 11) + 38 * d ≤ 38 * (d + 1); omega⟩, by show 0 + mc ≤ mc; omega, by show 0 + ms ≤ ms; omega⟩ (fun E ad1 M1 hE => ?_) (fun v ad1 M1 h => h.elim)
  obtain ⟨e1, e2, e3⟩ := hE
  rw [e1, e2, e3]
  refine zGX_catch [] ⟨0, 10, 13, 21⟩ [] (htab.trans rfl) (fun z hz => absurd hz List.not_mem_nil) rfl (by decide) cl_xIOOB ca_xIOOB (fun q => ?_)
  refine G_astore (pc := 13) [(4, .ref q), (0, .ref (ad (0, 0, 0, 0))), (1, .int (zI p1)), (2, .int (zI p2)), (3, .ref (ad (82, 0, 0, 0)))] dL_wouldTake_13 (by decide) rfl ?_
  refine G_iconst (pc := 15) dL_wouldTake_15 ?_
  exact G_iret (pc := 16) hF dL_wouldTake_16 ⟨by omega, by omega⟩ ⟨rfl, rfl, rfl⟩
theorem hk_wouldRead : zCH RL 240 yL_wouldRead cL_wouldRead 6 (some .int) [(0, 12, 15, 21)] 5 := ⟨zAW_of 927 (by decide +kernel) (by decide +kernel), zAW_of 928 (by decide +kernel) (by decide +kernel), zAW_of 0 (by decide +kernel) (by decide +kernel), zAW_of 929 (by decide +kernel) (by decide +kernel), by decide, by decide, by decide +kernel⟩
set_option maxHeartbeats 1000000 in
set_option maxRecDepth 100000 in
theorem h_wouldRead {P0 : zPo} {l : Launch} {Δ : zDl} {ad : zK → Nat} {M : zMem} {p1 p2 p3 : Int} {d mc ms : Nat} {fs : List Value} {w0 : Int64} {post : Int → (zK → Nat) → zMem → Prop} (h0 : M (0, 0, 0, 0) = some (.inr (7, fs))) (h82 : M (82, 0, 0, 0) = some (zLo Δ w0)) (hm : zMn l Δ yX6_wouldRead cX6_wouldRead 5 (some .int) d mc ms [.ref (ad (0, 0, 0, 0)), .int (zI p1), .int (zI p2), .int (zI p3)] ad M P0) (hP0 : ∀ v ad' M', P0 v ad' M' → ∃ r, v = some (.int (zI r)) ∧ zR r ∧ ad' (82, 0, 0, 0) = ad (82, 0, 0, 0) ∧ M' (82, 0, 0, 0) = some (zLo Δ w0) ∧ post r ad' M') : zMh l Δ yL_wouldRead cL_wouldRead 6 (some .int) [(0, 12, 15, 21)] (d + 1) mc ms [.ref (ad (0, 0, 0, 0)), .int (zI p1), .int (zI p2), .int (zI p3), .ref (ad (82, 0, 0, 0))] ad M (fun v ad' M' => v = some (.int (zI 0)) ∧ ∃ r M1, zR r ∧ post r ad' M1 ∧ M' = zup1 M1 (82, 0, 0, 0) (some (zLo Δ (zL r)))) := by
  refine zMh_of (by decide) (Nat.le_of_ble_eq_true rfl) (fun Γ hl hΔ hF htab hNc => ?_)
  subst hl hΔ
  show G Γ _ _ _ RL _ _ _ _ _ [(0, .ref (ad (0, 0, 0, 0))), (1, .int (zI p1)), (2, .int (zI p2)), (3, .int (zI p3)), (4, .ref (ad (82, 0, 0, 0)))] []
  refine G_aload (pc := 0) 4 dL_wouldRead_0 rfl ?_
  refine G_iconst (pc := 2) dL_wouldRead_2 ?_
  refine G_aload_n (pc := 3) 0 0 dL_wouldRead_3 rfl rfl ?_
  refine G_iload_n (pc := 4) 1 1 dL_wouldRead_4 rfl rfl ?_
  refine G_iload_n (pc := 5) 2 2 dL_wouldRead_5 rfl rfl ?_
  refine G_iload_n (pc := 6) 3 3 dL_wouldRead_6 rfl rfl ?_
  refine G_callV (pc := 7) gk_L_110 dL_wouldRead_7 h0 rfl hm rfl rfl (Nat.le_of_ble_eq_true rfl) ⟨⟨Nat.le_refl _, by show 8 + (5 + 11) + 38 * d ≤ 38 * (d + 1); omega⟩, by show 0 + mc ≤ mc; omega, by show 0 + ms ≤ ms; omega⟩ (fun v ad1 M1 hpo => ?_)
  obtain ⟨r, rfl, hr, ha, h82', hp⟩ := hP0 _ _ _ hpo
  show G Γ _ _ _ _ _ _ _ _ _ _ [.int (zI r), .int (zI 0), .ref (ad (82, 0, 0, 0))]
  rw [← ha]
  refine G_i2l (pc := 10) dL_wouldRead_10 hr ?_
  refine G_last (pc := 11) dL_wouldRead_11 h82' ?_
  refine G_goto (pc := 12) 19 dL_wouldRead_12 (by decide) ?_
  refine G_iconst (pc := 19) dL_wouldRead_19 ?_
  refine G_iret (pc := 20) hF dL_wouldRead_20 ⟨by omega, by omega⟩ ⟨rfl, r, M1, hr, hp, rfl⟩
set_option maxHeartbeats 1000000 in
set_option maxRecDepth 100000 in
theorem h_wouldRead_1 {l : Launch} {Δ : zDl} {ad : zK → Nat} {M : zMem} {p1 p2 p3 : Int} {d mc ms : Nat} {fs : List Value} (h0 : M (0, 0, 0, 0) = some (.inr (7, fs))) (hm : zMx l Δ yX6_wouldRead cX6_wouldRead 5 (some .int) d mc ms [.ref (ad (0, 0, 0, 0)), .int (zI p1), .int (zI p2), .int (zI p3)] ad M zF0 (zE "java/lang/IndexOutOfBoundsException" ad M)) : zMh l Δ yL_wouldRead cL_wouldRead 6 (some .int) [(0, 12, 15, 21)] (d + 1) mc ms [.ref (ad (0, 0, 0, 0)), .int (zI p1), .int (zI p2), .int (zI p3), .ref (ad (82, 0, 0, 0))] ad M (zD (some (.int (zI 1))) ad M) := by
  refine zMh_of (by decide) (Nat.le_of_ble_eq_true rfl) (fun Γ hl hΔ hF htab hNc => ?_)
  subst hl hΔ
  show G Γ _ _ _ RL _ _ _ _ _ [(0, .ref (ad (0, 0, 0, 0))), (1, .int (zI p1)), (2, .int (zI p2)), (3, .int (zI p3)), (4, .ref (ad (82, 0, 0, 0)))] []
  refine G_aload (pc := 0) 4 dL_wouldRead_0 rfl ?_
  refine G_iconst (pc := 2) dL_wouldRead_2 ?_
  refine G_aload_n (pc := 3) 0 0 dL_wouldRead_3 rfl rfl ?_
  refine G_iload_n (pc := 4) 1 1 dL_wouldRead_4 rfl rfl ?_
  refine G_iload_n (pc := 5) 2 2 dL_wouldRead_5 rfl rfl ?_
  refine G_iload_n (pc := 6) 3 3 dL_wouldRead_6 rfl rfl ?_
  refine G_callVx (pc := 7) gk_L_110 dL_wouldRead_7 h0 rfl hm rfl rfl (Nat.le_of_ble_eq_true rfl) ⟨⟨Nat.le_refl _, by show 8 + (5 + 11) + 38 * d ≤ 38 * (d + 1); omega⟩, by show 0 + mc ≤ mc; omega, by show 0 + ms ≤ ms; omega⟩ (fun E ad1 M1 hE => ?_) (fun v ad1 M1 h => h.elim)
  obtain ⟨e1, e2, e3⟩ := hE
  rw [e1, e2, e3]
  refine zGX_catch [] ⟨0, 12, 15, 21⟩ [] (htab.trans rfl) (fun z hz => absurd hz List.not_mem_nil) rfl (by decide) cl_xIOOB ca_xIOOB (fun q => ?_)
  refine G_astore (pc := 15) [(5, .ref q), (0, .ref (ad (0, 0, 0, 0))), (1, .int (zI p1)), (2, .int (zI p2)), (3, .int (zI p3)), (4, .ref (ad (82, 0, 0, 0)))] dL_wouldRead_15 (by decide) rfl ?_
  refine G_iconst (pc := 17) dL_wouldRead_17 ?_
  exact G_iret (pc := 18) hF dL_wouldRead_18 ⟨by omega, by omega⟩ ⟨rfl, rfl, rfl⟩
theorem hk_nextTime : zCH RL 243 yL_nextTime cL_nextTime 4 (some .int) [(0, 9, 12, 21)] 3 := ⟨zAW_of 935 (by decide +kernel) (by decide +kernel), zAW_of 936 (by decide +kernel) (by decide +kernel), zAW_of 0 (by decide +kernel) (by decide +kernel), zAW_of 937 (by decide +kernel) (by decide +kernel), by decide, by decide, by decide +kernel⟩
set_option maxHeartbeats 1000000 in
set_option maxRecDepth 100000 in
theorem h_nextTime {P0 : zPo} {l : Launch} {Δ : zDl} {ad : zK → Nat} {M : zMem} {p1 : Int} {d mc ms : Nat} {fs : List Value} {w0 : Int64} {post : Int → (zK → Nat) → zMem → Prop} (h0 : M (0, 0, 0, 0) = some (.inr (7, fs))) (h82 : M (82, 0, 0, 0) = some (zLo Δ w0)) (hm : zMn l Δ yX6_nextTime cX6_nextTime 2 (some .int) d mc ms [.ref (ad (0, 0, 0, 0)), .int (zI p1)] ad M P0) (hP0 : ∀ v ad' M', P0 v ad' M' → ∃ r, v = some (.int (zI r)) ∧ zR r ∧ ad' (82, 0, 0, 0) = ad (82, 0, 0, 0) ∧ M' (82, 0, 0, 0) = some (zLo Δ w0) ∧ post r ad' M') : zMh l Δ yL_nextTime cL_nextTime 4 (some .int) [(0, 9, 12, 21)] (d + 1) mc ms [.ref (ad (0, 0, 0, 0)), .int (zI p1), .ref (ad (82, 0, 0, 0))] ad M (fun v ad' M' => v = some (.int (zI 0)) ∧ ∃ r M1, zR r ∧ post r ad' M1 ∧ M' = zup1 M1 (82, 0, 0, 0) (some (zLo Δ (zL r)))) := by
  refine zMh_of (by decide) (Nat.le_of_ble_eq_true rfl) (fun Γ hl hΔ hF htab hNc => ?_)
  subst hl hΔ
  show G Γ _ _ _ RL _ _ _ _ _ [(0, .ref (ad (0, 0, 0, 0))), (1, .int (zI p1)), (2, .ref (ad (82, 0, 0, 0)))] []
  refine G_aload_n (pc := 0) 2 2 dL_nextTime_0 rfl rfl ?_
  refine G_iconst (pc := 1) dL_nextTime_1 ?_
  refine G_aload_n (pc := 2) 0 0 dL_nextTime_2 rfl rfl ?_
  refine G_iload_n (pc := 3) 1 1 dL_nextTime_3 rfl rfl ?_
  refine G_callV (pc := 4) gk_L_113 dL_nextTime_4 h0 rfl hm rfl rfl (Nat.le_of_ble_eq_true rfl) ⟨⟨Nat.le_refl _, by show 8 + (2 + 11) + 38 * d ≤ 38 * (d + 1); omega⟩, by show 0 + mc ≤ mc; omega, by show 0 + ms ≤ ms; omega⟩ (fun v ad1 M1 hpo => ?_)
  obtain ⟨r, rfl, hr, ha, h82', hp⟩ := hP0 _ _ _ hpo
  show G Γ _ _ _ _ _ _ _ _ _ _ [.int (zI r), .int (zI 0), .ref (ad (82, 0, 0, 0))]
  rw [← ha]
  refine G_i2l (pc := 7) dL_nextTime_7 hr ?_
  refine G_last (pc := 8) dL_nextTime_8 h82' ?_
  refine G_goto (pc := 9) 15 dL_nextTime_9 (by decide) ?_
  refine G_iconst (pc := 15) dL_nextTime_15 ?_
  refine G_iret (pc := 16) hF dL_nextTime_16 ⟨by omega, by omega⟩ ⟨rfl, r, M1, hr, hp, rfl⟩
set_option maxHeartbeats 1000000 in
set_option maxRecDepth 100000 in
theorem h_nextTime_1 {l : Launch} {Δ : zDl} {ad : zK → Nat} {M : zMem} {p1 : Int} {d mc ms : Nat} {fs : List Value} (h0 : M (0, 0, 0, 0) = some (.inr (7, fs))) (hm : zMx l Δ yX6_nextTime cX6_nextTime 2 (some .int) d mc ms [.ref (ad (0, 0, 0, 0)), .int (zI p1)] ad M zF0 (zE "java/lang/IndexOutOfBoundsException" ad M)) : zMh l Δ yL_nextTime cL_nextTime 4 (some .int) [(0, 9, 12, 21)] (d + 1) mc ms [.ref (ad (0, 0, 0, 0)), .int (zI p1), .ref (ad (82, 0, 0, 0))] ad M (zD (some (.int (zI 1))) ad M) := by
  refine zMh_of (by decide) (Nat.le_of_ble_eq_true rfl) (fun Γ hl hΔ hF htab hNc => ?_)
  subst hl hΔ
  show G Γ _ _ _ RL _ _ _ _ _ [(0, .ref (ad (0, 0, 0, 0))), (1, .int (zI p1)), (2, .ref (ad (82, 0, 0, 0)))] []
  refine G_aload_n (pc := 0) 2 2 dL_nextTime_0 rfl rfl ?_
  refine G_iconst (pc := 1) dL_nextTime_1 ?_
  refine G_aload_n (pc := 2) 0 0 dL_nextTime_2 rfl rfl ?_
  refine G_iload_n (pc := 3) 1 1 dL_nextTime_3 rfl rfl ?_
  refine G_callVx (pc := 4) gk_L_113 dL_nextTime_4 h0 rfl hm rfl rfl (Nat.le_of_ble_eq_true rfl) ⟨⟨Nat.le_refl _, by show 8 + (2 + 11) + 38 * d ≤ 38 * (d + 1); omega⟩, by show 0 + mc ≤ mc; omega, by show 0 + ms ≤ ms; omega⟩ (fun E ad1 M1 hE => ?_) (fun v ad1 M1 h => h.elim)
  obtain ⟨e1, e2, e3⟩ := hE
  rw [e1, e2, e3]
  refine zGX_catch [] ⟨0, 9, 12, 21⟩ [] (htab.trans rfl) (fun z hz => absurd hz List.not_mem_nil) rfl (by decide) cl_xIOOB ca_xIOOB (fun q => ?_)
  refine G_astore_n (pc := 12) 3 [(3, .ref q), (0, .ref (ad (0, 0, 0, 0))), (1, .int (zI p1)), (2, .ref (ad (82, 0, 0, 0)))] dL_nextTime_12 rfl (by decide) rfl ?_
  refine G_iconst (pc := 13) dL_nextTime_13 ?_
  exact G_iret (pc := 14) hF dL_nextTime_14 ⟨by omega, by omega⟩ ⟨rfl, rfl, rfl⟩
theorem hk_wouldDrop : zCH RL 246 yL_wouldDrop cL_wouldDrop 4 (some .int) [(0, 9, 12, 21)] 3 := ⟨zAW_of 942 (by decide +kernel) (by decide +kernel), zAW_of 943 (by decide +kernel) (by decide +kernel), zAW_of 0 (by decide +kernel) (by decide +kernel), zAW_of 944 (by decide +kernel) (by decide +kernel), by decide, by decide, by decide +kernel⟩
set_option maxHeartbeats 1000000 in
set_option maxRecDepth 100000 in
theorem h_wouldDrop {P0 : zPo} {l : Launch} {Δ : zDl} {ad : zK → Nat} {M : zMem} {p1 : Int} {d mc ms : Nat} {fs : List Value} {w0 : Int64} {post : Int → (zK → Nat) → zMem → Prop} (h0 : M (0, 0, 0, 0) = some (.inr (7, fs))) (h82 : M (82, 0, 0, 0) = some (zLo Δ w0)) (hm : zMn l Δ yX6_wouldDrop cX6_wouldDrop 2 (some .int) d mc ms [.ref (ad (0, 0, 0, 0)), .int (zI p1)] ad M P0) (hP0 : ∀ v ad' M', P0 v ad' M' → ∃ r, v = some (.int (zI r)) ∧ zR r ∧ ad' (82, 0, 0, 0) = ad (82, 0, 0, 0) ∧ M' (82, 0, 0, 0) = some (zLo Δ w0) ∧ post r ad' M') : zMh l Δ yL_wouldDrop cL_wouldDrop 4 (some .int) [(0, 9, 12, 21)] (d + 1) mc ms [.ref (ad (0, 0, 0, 0)), .int (zI p1), .ref (ad (82, 0, 0, 0))] ad M (fun v ad' M' => v = some (.int (zI 0)) ∧ ∃ r M1, zR r ∧ post r ad' M1 ∧ M' = zup1 M1 (82, 0, 0, 0) (some (zLo Δ (zL r)))) := by
  refine zMh_of (by decide) (Nat.le_of_ble_eq_true rfl) (fun Γ hl hΔ hF htab hNc => ?_)
  subst hl hΔ
  show G Γ _ _ _ RL _ _ _ _ _ [(0, .ref (ad (0, 0, 0, 0))), (1, .int (zI p1)), (2, .ref (ad (82, 0, 0, 0)))] []
  refine G_aload_n (pc := 0) 2 2 dL_wouldDrop_0 rfl rfl ?_
  refine G_iconst (pc := 1) dL_wouldDrop_1 ?_
  refine G_aload_n (pc := 2) 0 0 dL_wouldDrop_2 rfl rfl ?_
  refine G_iload_n (pc := 3) 1 1 dL_wouldDrop_3 rfl rfl ?_
  refine G_callV (pc := 4) gk_L_116 dL_wouldDrop_4 h0 rfl hm rfl rfl (Nat.le_of_ble_eq_true rfl) ⟨⟨Nat.le_refl _, by show 8 + (2 + 11) + 38 * d ≤ 38 * (d + 1); omega⟩, by show 0 + mc ≤ mc; omega, by show 0 + ms ≤ ms; omega⟩ (fun v ad1 M1 hpo => ?_)
  obtain ⟨r, rfl, hr, ha, h82', hp⟩ := hP0 _ _ _ hpo
  show G Γ _ _ _ _ _ _ _ _ _ _ [.int (zI r), .int (zI 0), .ref (ad (82, 0, 0, 0))]
  rw [← ha]
  refine G_i2l (pc := 7) dL_wouldDrop_7 hr ?_
  refine G_last (pc := 8) dL_wouldDrop_8 h82' ?_
  refine G_goto (pc := 9) 15 dL_wouldDrop_9 (by decide) ?_
  refine G_iconst (pc := 15) dL_wouldDrop_15 ?_
  refine G_iret (pc := 16) hF dL_wouldDrop_16 ⟨by omega, by omega⟩ ⟨rfl, r, M1, hr, hp, rfl⟩
set_option maxHeartbeats 1000000 in
set_option maxRecDepth 100000 in
theorem h_wouldDrop_1 {l : Launch} {Δ : zDl} {ad : zK → Nat} {M : zMem} {p1 : Int} {d mc ms : Nat} {fs : List Value} (h0 : M (0, 0, 0, 0) = some (.inr (7, fs))) (hm : zMx l Δ yX6_wouldDrop cX6_wouldDrop 2 (some .int) d mc ms [.ref (ad (0, 0, 0, 0)), .int (zI p1)] ad M zF0 (zE "java/lang/IndexOutOfBoundsException" ad M)) : zMh l Δ yL_wouldDrop cL_wouldDrop 4 (some .int) [(0, 9, 12, 21)] (d + 1) mc ms [.ref (ad (0, 0, 0, 0)), .int (zI p1), .ref (ad (82, 0, 0, 0))] ad M (zD (some (.int (zI 1))) ad M) := by
  refine zMh_of (by decide) (Nat.le_of_ble_eq_true rfl) (fun Γ hl hΔ hF htab hNc => ?_)
  subst hl hΔ
  show G Γ _ _ _ RL _ _ _ _ _ [(0, .ref (ad (0, 0, 0, 0))), (1, .int (zI p1)), (2, .ref (ad (82, 0, 0, 0)))] []
  refine G_aload_n (pc := 0) 2 2 dL_wouldDrop_0 rfl rfl ?_
  refine G_iconst (pc := 1) dL_wouldDrop_1 ?_
  refine G_aload_n (pc := 2) 0 0 dL_wouldDrop_2 rfl rfl ?_
  refine G_iload_n (pc := 3) 1 1 dL_wouldDrop_3 rfl rfl ?_
  refine G_callVx (pc := 4) gk_L_116 dL_wouldDrop_4 h0 rfl hm rfl rfl (Nat.le_of_ble_eq_true rfl) ⟨⟨Nat.le_refl _, by show 8 + (2 + 11) + 38 * d ≤ 38 * (d + 1); omega⟩, by show 0 + mc ≤ mc; omega, by show 0 + ms ≤ ms; omega⟩ (fun E ad1 M1 hE => ?_) (fun v ad1 M1 h => h.elim)
  obtain ⟨e1, e2, e3⟩ := hE
  rw [e1, e2, e3]
  refine zGX_catch [] ⟨0, 9, 12, 21⟩ [] (htab.trans rfl) (fun z hz => absurd hz List.not_mem_nil) rfl (by decide) cl_xIOOB ca_xIOOB (fun q => ?_)
  refine G_astore_n (pc := 12) 3 [(3, .ref q), (0, .ref (ad (0, 0, 0, 0))), (1, .int (zI p1)), (2, .ref (ad (82, 0, 0, 0)))] dL_wouldDrop_12 rfl (by decide) rfl ?_
  refine G_iconst (pc := 13) dL_wouldDrop_13 ?_
  exact G_iret (pc := 14) hF dL_wouldDrop_14 ⟨by omega, by omega⟩ ⟨rfl, rfl, rfl⟩
