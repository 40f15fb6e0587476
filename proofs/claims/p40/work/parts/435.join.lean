/-! ===== the Pier's acts: join ===== -/
section ZJOIN
variable {P : zP} {V : zS} {g p r b x : Int}
theorem zht_V (hP : zWP P) (h : zWV P V) (hg : inG P g) (hp : inQ P g p) (hx : -1 ≤ x ∧ x ≤ 5) : zWV P (zht P V g p x) := by
  have hM := hP.m (hP.g hg) hp
  unfold zht
  split
  · exact h
  · have h1 : zWV P (lp (zh1 g p) 0 (P 2 (P 4 g 0) p) (zst V (18, g, p, 0) 4 x)) := lp_ind (fun _ s => zWV P s) _ 0 _ _ hM.1 rfl (h.s18 ⟨by omega, by omega⟩ (fun q => by omega)) (fun o s _ _ hs => by
      unfold zh1
      split
      · exact zfg_V hs
      · exact hs)
    have hm := h1.W.m hg hp
    exact h1.s18 ⟨by omega, by omega⟩ (fun _ _ _ => hm.1)
theorem zJn_k {n : Int} {k : zK} {f : Int} (hk : k.1 ≠ 17 ∧ k.1 ≠ 18 ∧ k.1 ≠ 19 ∧ k.1 ≠ 20) : lp (zsf P g) 0 n (zst V (17, g, 0, 0) r b) k f = V k f := by
  have hf : zfr k189 (zst V (17, g, 0, 0) r b) (lp (zsf P g) 0 n (zst V (17, g, 0, 0) r b)) := lp_fr (fun p s => by unfold zsf; exact zht_fr rfl rfl rfl)
  rw [hf k f (by simp [k189, hk.2.1, hk.2.2.1, hk.2.2.2]), zst_k _ _ _ _ (fun q => hk.1 (by rw [q]))]
theorem zJ_jid (h : zJ P V) (hg : inG P g) : lp (zsf P g) 0 (P 1 (P 4 g 0) 0) (zst V (17, g, 0, 0) r (V (17, g, 0, 0) r)) = V := by
  obtain ⟨-, ⟨M, hM⟩, -⟩ := h
  exact o_join_s hM hg
theorem zJ_join (h : zJ P V) (hg : inG P g) (hr : 0 ≤ r ∧ r < 6) (hb : b = 0 ∨ b = 1) : zJ P (lp (zsf P g) 0 (P 1 (P 4 g 0) 0) (zst V (17, g, 0, 0) r b)) := by
  have hP := h.wp
  have hN := hP.t (hP.g hg)
  have hV : zWV P (lp (zsf P g) 0 (P 1 (P 4 g 0) 0) (zst V (17, g, 0, 0) r b)) := lp_ind (fun _ s => zWV P s) _ 0 _ _ (by omega) rfl (h.wv.s17 hb) (fun p s p1 p2 hs => zht_V hP hs hg ⟨p1, p2⟩ zsr_le)
  have hK : zK0 P (lp (zsf P g) 0 (P 1 (P 4 g 0) 0) (zst V (17, g, 0, 0) r b)) := lp_ind (fun _ s => zK0 P s) _ 0 _ _ (by omega) rfl (h.k0.fr (zfr.rf.st rfl)) (fun p s p1 p2 hs => hs.ht hP hg ⟨p1, p2⟩)
  have n : ∀ k f, (k.1 ≠ 17 ∧ k.1 ≠ 18 ∧ k.1 ≠ 19 ∧ k.1 ≠ 20) → lp (zsf P g) 0 (P 1 (P 4 g 0) 0) (zst V (17, g, 0, 0) r b) k f = V k f := fun k f hk => zJn_k hk
  have hf : zfr k189 (zst V (17, g, 0, 0) r b) (lp (zsf P g) 0 (P 1 (P 4 g 0) 0) (zst V (17, g, 0, 0) r b)) := lp_fr (fun p s => by unfold zsf; exact zht_fr rfl rfl rfl)
  have hT := zTr_fr (V' := lp (zsf P g) 0 (P 1 (P 4 g 0) 0) (zst V (17, g, 0, 0) r b)) (n _ _ (by simp)) (fun f => n _ _ (by simp)) (fun t p o f _ => n _ _ (by simp)) (fun f => n _ _ (by simp)) (fun f => n _ _ (by simp)) h.tr
  have hg2 := hg.2
  have hH := h.hd
  obtain ⟨-, ⟨M, hxM⟩, -⟩ := h
  refine ⟨hV, ⟨_, o_join hxM hg hr hb⟩, hT, ⟨fun t ht => ?_, fun g' r' hg' => ?_, hH.2.2⟩, hK⟩
  · obtain ⟨a1, a2, a3⟩ := hH.1 t ht
    exact ⟨by rw [n _ _ (by simp)]; exact a1, fun x => by rw [n _ _ (by simp)]; exact a2 x, fun p => by rw [n _ _ (by simp)]; exact a3 p⟩
  · rw [hf _ _ rfl, zst_k _ _ _ _ (fun q => by simp at q; omega)]
    exact hH.2.1 g' r' hg'
end ZJOIN
set_option maxHeartbeats 4000000 in
set_option maxRecDepth 100000 in
theorem c_X7_join {l : Launch} {Δ : zDl} {ad : zK → Nat} {Q : zP} {V : zS} {X : zMem}  (hJ : zJ Q V) (hX : X = mm Δ ad Q V z00) (hL : Δ.2.2.2.2.1 ≤ 3072) (hD : V (200, 0, 0, 0) 2 ≤ 930000) (h4 : V (0, 0, 0, 0) 4 ≤ 190) (h3 : 1 ≤ Q 3 0 0) : zMn l Δ yX7_join cX7_join 11 (some .boolean) 10 0 0 [.ref (ad (200, 0, 0, 0))] ad (pm Δ ad Q V X) (zAct Δ ad Q V 1000) := by
  refine zMn_of (by decide) (Nat.le_of_ble_eq_true rfl) (fun Γ hl hΔ hF => ?_)
  subst hl hΔ
  show G Γ _ _ _ RX7 _ _ _ _ _ [(0, .ref (ad (200, 0, 0, 0)))] []
  have hP := hJ.wp
  have hV := hJ.wv
  have hq := hP.n
  have hdw := hV.dw
  refine G_aload_n (pc := 0) 0 0 dX7_join_0 rfl rfl ?_
  refine G_aload_n (pc := 1) 0 0 dX7_join_1 rfl rfl ?_
  refine G_getfV (pc := 2) (w := Q 3 0 0) fl_X7_105 dX7_join_2 pg_200 rfl (congrArg (fun z => Value.int (zI z)) hV.gn) ?_
  refine G_callV (pc := 5) gk_X7_94 dX7_join_5 pg_200 rfl (c_X7_draw (n := (Q 3 0 0)) hV (by assumption) ⟨by omega, by omega⟩) rfl rfl (Nat.le_of_ble_eq_true rfl) ⟨⟨Nat.le_of_ble_eq_true rfl, Nat.le_of_ble_eq_true rfl⟩, Nat.le_of_ble_eq_true rfl, Nat.le_of_ble_eq_true rfl⟩ (fun vx adx Mx hpo => ?_)
  obtain ⟨r5, hr5, rfl, hadx, rfl⟩ := hpo
  rw [hadx]
  show G Γ _ _ _ _ _ _ (0) (0) 8 [(0, .ref (ad (200, 0, 0, 0)))] [.int (zI r5)]
  refine G_nameV (fun V1_5 hV1_5 => ?_)
  have hVV1_5 : zWV Q V1_5 := by rw [hV1_5]; exact hV.s200_2 ⟨by omega, by omega⟩
  have hdV1_5 : V1_5 (200, 0, 0, 0) 2 = V (200, 0, 0, 0) 2 + 1 := by rw [hV1_5, zst_s]
  have hfV1_5 : ∀ k f, k ≠ (200, 0, 0, 0) → V1_5 k f = V k f := fun k f hk => by rw [hV1_5, zst_k _ _ _ _ hk]
  have hJV1_5 : zJ Q V1_5 := by rw [hV1_5]; exact zJ_dr hJ ⟨by omega, by omega⟩
  have hXV1_5 : X = mm (z_d Γ) ad Q V1_5 z00 := by rw [hV1_5, mm_st (by decide)]; exact hX
  refine G_istore_n (pc := 8) 1 [(1, .int (zI r5)), (0, .ref (ad (200, 0, 0, 0)))] dX7_join_8 rfl (by decide) rfl ?_
  have hg : inG Q r5 := ⟨by omega, by omega⟩
  have hG := hP.g hg
  have hN := hP.t hG
  refine G_aload_n (pc := 9) 0 1 dX7_join_9 rfl rfl ?_
  refine G_iconst (pc := 10) dX7_join_10 ?_
  refine G_callV (pc := 11) gk_X7_94 dX7_join_11 pg_200 rfl (c_X7_draw (n := 4) hVV1_5 (by assumption) ⟨by omega, by omega⟩) rfl rfl (Nat.le_of_ble_eq_true rfl) ⟨⟨Nat.le_of_ble_eq_true rfl, Nat.le_of_ble_eq_true rfl⟩, Nat.le_of_ble_eq_true rfl, Nat.le_of_ble_eq_true rfl⟩ (fun vx adx Mx hpo => ?_)
  obtain ⟨r11, hr11, rfl, hadx, rfl⟩ := hpo
  rw [hadx]
  show G Γ _ _ _ _ _ _ (0) (0) 14 [(1, .int (zI r5)), (0, .ref (ad (200, 0, 0, 0)))] [.int (zI r11)]
  refine G_nameV (fun V2_11 hV2_11 => ?_)
  have hVV2_11 : zWV Q V2_11 := by rw [hV2_11]; exact hVV1_5.s200_2 ⟨by omega, by omega⟩
  have hdV2_11 : V2_11 (200, 0, 0, 0) 2 = V1_5 (200, 0, 0, 0) 2 + 1 := by rw [hV2_11, zst_s]
  have hfV2_11 : ∀ k f, k ≠ (200, 0, 0, 0) → V2_11 k f = V1_5 k f := fun k f hk => by rw [hV2_11, zst_k _ _ _ _ hk]
  have hJV2_11 : zJ Q V2_11 := by rw [hV2_11]; exact zJ_dr hJV1_5 ⟨by omega, by omega⟩
  have hXV2_11 : X = mm (z_d Γ) ad Q V2_11 z00 := by rw [hV2_11, mm_st (by decide)]; exact hXV1_5
  refine G_istore_n (pc := 14) 2 [(2, .int (zI r11)), (1, .int (zI r5)), (0, .ref (ad (200, 0, 0, 0)))] dX7_join_14 rfl (by decide) rfl ?_
  refine G_aload_n (pc := 15) 0 2 dX7_join_15 rfl rfl ?_
  refine G_getf (pc := 16) fl_X7_65 dX7_join_16 pg_200 rfl ?_
  refine G_iload_n (pc := 19) 1 1 dX7_join_19 rfl rfl ?_
  refine G_aldA (pc := 20) (t := 8) rfl dX7_join_20 pg_220 ⟨by omega, by omega, by omega, by omega⟩ rfl ?_
  refine G_iload_n (pc := 21) 2 0 dX7_join_21 rfl rfl ?_
  refine G_zaldV (pc := 22) (V2_11 (17, r5, 0, 0) r11) dX7_join_22 (pg_221 (by first | assumption | omega | exact ⟨by omega, by omega⟩ | exact ⟨⟨by omega, by omega⟩, by omega⟩ | exact zWV.R (by assumption) _ _)) ⟨by omega, by omega, by omega, by omega⟩ rfl ?_
  refine G_istore_ne (pc := 23) 3 (fun zw => [(3, .int (zI zw)), (2, .int (zI r11)), (1, .int (zI r5)), (0, .ref (ad (200, 0, 0, 0)))]) dX7_join_23 rfl (by decide) (fun _ => rfl) (fun v23 e23 => ?_)
  have h23 : v23 = 0 ∨ v23 = 1 := by rw [e23]; exact hVV2_11.in2 r5 r11
  refine G_aload_n (pc := 24) 0 3 dX7_join_24 rfl rfl ?_
  refine G_iconst (pc := 25) dX7_join_25 ?_
  refine G_callV (pc := 26) gk_X7_94 dX7_join_26 pg_200 rfl (c_X7_draw (n := 4) hVV2_11 (by assumption) ⟨by omega, by omega⟩) rfl rfl (Nat.le_of_ble_eq_true rfl) ⟨⟨Nat.le_of_ble_eq_true rfl, Nat.le_of_ble_eq_true rfl⟩, Nat.le_of_ble_eq_true rfl, Nat.le_of_ble_eq_true rfl⟩ (fun vx adx Mx hpo => ?_)
  obtain ⟨r26, hr26, rfl, hadx, rfl⟩ := hpo
  rw [hadx]
  show G Γ _ _ _ _ _ _ (0) (0) 29 [(3, .int (zI v23)), (2, .int (zI r11)), (1, .int (zI r5)), (0, .ref (ad (200, 0, 0, 0)))] [.int (zI r26)]
  refine G_nameV (fun V3_26 hV3_26 => ?_)
  have hVV3_26 : zWV Q V3_26 := by rw [hV3_26]; exact hVV2_11.s200_2 ⟨by omega, by omega⟩
  have hdV3_26 : V3_26 (200, 0, 0, 0) 2 = V2_11 (200, 0, 0, 0) 2 + 1 := by rw [hV3_26, zst_s]
  have hfV3_26 : ∀ k f, k ≠ (200, 0, 0, 0) → V3_26 k f = V2_11 k f := fun k f hk => by rw [hV3_26, zst_k _ _ _ _ hk]
  have hJV3_26 : zJ Q V3_26 := by rw [hV3_26]; exact zJ_dr hJV2_11 ⟨by omega, by omega⟩
  have hXV3_26 : X = mm (z_d Γ) ad Q V3_26 z00 := by rw [hV3_26, mm_st (by decide)]; exact hXV2_11
  refine G_if_le (pc := 29) 36 dX7_join_29 (by decide) (by first | exact zWV.R (by assumption) _ _ | exact ⟨by omega, by omega⟩ | assumption | (subst_vars; first | exact zWV.R (by assumption) _ _ | exact ⟨by omega, by omega⟩)) (fun c29 => ?_) (fun c29 => ?_)
  · refine G_iconst (pc := 36) dX7_join_36 ?_
    refine G_istore_e (pc := 37) (fun zw => [(4, .int (zI zw)), (3, .int (zI v23)), (2, .int (zI r11)), (1, .int (zI r5)), (0, .ref (ad (200, 0, 0, 0)))]) dX7_join_37 (by decide) (fun _ => rfl) (fun v37 e37 => ?_)
    obtain ⟨D, hD0⟩ : ∃ D, D = V3_26 := ⟨_, rfl⟩
    have hJD : zJ Q D := by rw [hD0]; exact hJV3_26
    have hXD : X = mm (z_d Γ) ad Q D z00 := by rw [hD0]; exact hXV3_26
    have hVD := hJD.wv
    have hDd : D (200, 0, 0, 0) 2 ≤ V (200, 0, 0, 0) 2 + 3 := by rw [hD0]; omega
    have hD4 : D (0, 0, 0, 0) 4 = V (0, 0, 0, 0) 4 := by rw [hD0, hfV3_26 _ _ (by decide), hfV2_11 _ _ (by decide), hfV1_5 _ _ (by decide)]
    have hD6 : D (0, 0, 0, 0) 6 = V (0, 0, 0, 0) 6 := by rw [hD0, hfV3_26 _ _ (by decide), hfV2_11 _ _ (by decide), hfV1_5 _ _ (by decide)]
    have hD1 : D (1, 0, 0, 0) 1 = V (1, 0, 0, 0) 1 := by rw [hD0, hfV3_26 _ _ (by decide), hfV2_11 _ _ (by decide), hfV1_5 _ _ (by decide)]
    have h37 : v37 = 0 ∨ v37 = 1 := by omega
    have hD23 : v23 = D (17, r5, 0, 0) r11 := by rw [hD0, e23, hfV3_26 _ _ (by simp)]
    refine G_aload_n (pc := 39) 0 4 dX7_join_39 rfl rfl ?_
    refine G_getf (pc := 40) fl_X7_65 dX7_join_40 pg_200 rfl ?_
    refine G_iload_n (pc := 43) 1 3 dX7_join_43 rfl rfl ?_
    refine G_aldA (pc := 44) (t := 8) rfl dX7_join_44 pg_220 ⟨by omega, by omega, by omega, by omega⟩ rfl ?_
    refine G_iload_n (pc := 45) 2 2 dX7_join_45 rfl rfl ?_
    refine G_iload (pc := 46) 0 dX7_join_46 rfl ?_
    refine G_zast (pc := 48) dX7_join_48 (pg_221 (by first | assumption | omega | exact ⟨by omega, by omega⟩ | exact ⟨⟨by omega, by omega⟩, by omega⟩ | exact zWV.R (by assumption) _ _)) ⟨by omega, by omega, by omega, by omega⟩ (by first | exact zb_ite | omega) (pp_221 (by first | assumption | omega | exact ⟨by omega, by omega⟩ | exact ⟨⟨by omega, by omega⟩, by omega⟩ | exact zWV.R (by assumption) _ _)) ?_
    refine G_nameV (fun V4_48 hV4_48 => ?_)
    have hVV4_48 : zWV Q V4_48 := by rw [hV4_48]; exact hVV3_26.s17 (by first | exact zb_ite | omega)
    have hV4 : V4_48 = zst D (17, r5, 0, 0) r11 v37 := by rw [hV4_48, ← hD0]
    refine G_iconst (pc := 49) dX7_join_49 ?_
    refine G_istore_e (pc := 50) (fun zw => [(5, .int (zI zw)), (4, .int (zI v37)), (3, .int (zI v23)), (2, .int (zI r11)), (1, .int (zI r5)), (0, .ref (ad (200, 0, 0, 0)))]) dX7_join_50 (by decide) (fun _ => rfl) (fun v50 e50 => ?_)
    have L52 : ∀ (n : Nat) (p : Int) (T : zS), ((0 ≤ p ∧ p ≤ Q 1 (Q 4 r5 0) 0) ∧ lp (zsf Q r5) p (Q 1 (Q 4 r5 0) 0) T = lp (zsf Q r5) 0 (Q 1 (Q 4 r5 0) 0) V4_48 ∧ zWV Q T ∧ (v37 = v23 → T = V4_48)) → (Q 1 (Q 4 r5 0) 0 - p).toNat < n → G Γ (zRm 10 0 0) cX7_join 11 RX7 ad (pm (z_d Γ) ad Q T X) 0 0 52 [(0, .ref (ad (200, 0, 0, 0))), (1, .int (zI r5)), (2, .int (zI r11)), (3, .int (zI v23)), (4, .int (zI v37)), (5, .int (zI p))] [] := by
      intro n
      induction n with
      | zero => intro p T _ hn; omega
      | succ n ih52 =>
        intro p T hi52 hn52
        obtain ⟨hp0, hlp, hVT, hTe⟩ := hi52
        refine G_iload (pc := 52) 5 dX7_join_52 rfl ?_
        refine G_aload_n (pc := 54) 0 0 dX7_join_54 rfl rfl ?_
        refine G_getf (pc := 55) fl_X7_25 dX7_join_55 pg_200 rfl ?_
        refine G_aload_n (pc := 58) 0 0 dX7_join_58 rfl rfl ?_
        refine G_getf (pc := 59) fl_X7_51 dX7_join_59 pg_200 rfl ?_
        refine G_iload_n (pc := 62) 1 1 dX7_join_62 rfl rfl ?_
        refine G_ialdV (pc := 63) (Q 4 r5 0) dX7_join_63 pg_213 ⟨by omega, by omega, by omega, by omega⟩ (hVT.of (by first | assumption | omega | exact ⟨by omega, by omega⟩ | exact ⟨⟨by omega, by omega⟩, by omega⟩ | exact zWV.R (by assumption) _ _)) ?_
        refine G_aldA (pc := 64) (t := 7) rfl dX7_join_64 pg_201 ⟨by omega, by omega, by omega, by omega⟩ rfl ?_
        refine G_alenV (pc := 65) (t := 6) (Q 1 (Q 4 r5 0) 0) rfl dX7_join_65 (pg_202 (by first | assumption | omega | exact ⟨by omega, by omega⟩ | exact ⟨⟨by omega, by omega⟩, by omega⟩ | exact zWV.R (by assumption) _ _)) (by omega) ?_
        refine G_icmp_ge (pc := 66) 205 dX7_join_66 (by decide) (by first | exact zWV.R (by assumption) _ _ | exact ⟨by omega, by omega⟩ | assumption | (subst_vars; first | exact zWV.R (by assumption) _ _ | exact ⟨by omega, by omega⟩)) (by first | exact zWV.R (by assumption) _ _ | exact ⟨by omega, by omega⟩ | assumption | (subst_vars; first | exact zWV.R (by assumption) _ _ | exact ⟨by omega, by omega⟩)) (fun c66 => ?_) (fun c66 => ?_)
        · have hTz : T = lp (zsf Q r5) 0 (Q 1 (Q 4 r5 0) 0) (zst D (17, r5, 0, 0) r11 v37) := by
            first
            | (have hl := hlp; rw [lp_end (by omega)] at hl; rw [hl, hV4]; done)
            | (rw [hTe (by omega), hV4]; have e : v37 = D (17, r5, 0, 0) r11 := by omega
               rw [e, zJ_jid hJD hg, zst_id rfl])
          have hJZ := zJ_join hJD hg (r := r11) (by omega) h37
          rw [← hTz] at hJZ
          have hsn : zSet Q T := hJZ.st
          refine G_aload_n (pc := 205) 0 0 dX7_join_205 rfl rfl ?_
          refine G_callVv (pc := 206) gk_X7_126 dX7_join_206 pg_200 rfl (c_X7_settle (by first | assumption | omega | exact ⟨by omega, by omega⟩ | exact ⟨⟨by omega, by omega⟩, by omega⟩ | exact zWV.R (by assumption) _ _) (by first | assumption | omega | exact ⟨by omega, by omega⟩ | exact ⟨⟨by omega, by omega⟩, by omega⟩ | exact zWV.R (by assumption) _ _) hsn) rfl rfl (Nat.le_of_ble_eq_true rfl) ⟨⟨Nat.le_of_ble_eq_true rfl, Nat.le_of_ble_eq_true rfl⟩, Nat.le_of_ble_eq_true rfl, Nat.le_of_ble_eq_true rfl⟩ ?_
          refine G_nameV (fun V5_206 hV5_206 => ?_)
          have hVV5_206 : zWV Q V5_206 := by rw [hV5_206]; exact zkA_V hP hVT
          have hSa : V5_206 = lp (zsf Q r5) 0 (Q 1 (Q 4 r5 0) 0) (zst D (17, r5, 0, 0) r11 v37) := by rw [hV5_206, zkA_id hJZ.xz]; exact hTz
          rw [hTz] at hJZ
          refine G_aload_n (pc := 209) 0 0 dX7_join_209 rfl rfl ?_
          refine G_getf (pc := 210) fl_X7_10 dX7_join_210 pg_200 rfl ?_
          refine G_iload_n (pc := 213) 1 1 dX7_join_213 rfl rfl ?_
          refine G_iload_n (pc := 214) 2 2 dX7_join_214 rfl rfl ?_
          refine G_iload (pc := 215) 4 dX7_join_215 rfl ?_
          rw [hXD, pm_mm]
          refine G_callV (pc := 217) gk_X7_192 dX7_join_217 mg_0 rfl (c_X6_join (g := r5) (r := r11) (b := v37) hP hg hJD.wv.W (by omega) h37 (by omega)) rfl rfl (Nat.le_of_ble_eq_true rfl) ⟨⟨Nat.le_of_ble_eq_true rfl, Nat.le_of_ble_eq_true rfl⟩, Nat.le_of_ble_eq_true rfl, Nat.le_of_ble_eq_true rfl⟩ (fun vx adx Mx hpo => ?_)
          obtain ⟨rfl, hadx, rfl⟩ := hpo
          rw [hadx]
          rw [← hD23]
          show G Γ _ _ _ _ _ _ (0) (0) 220 [(0, .ref (ad (200, 0, 0, 0))), (1, .int (zI r5)), (2, .int (zI r11)), (3, .int (zI v23)), (4, .int (zI v37)), (5, .int (zI p))] [.int (zI v23)]
          rw [← pm_mm]
          refine G_iload_n (pc := 220) 3 3 dX7_join_220 rfl rfl ?_
          refine G_icmp_ne (pc := 221) 228 dX7_join_221 (by decide) (by first | exact zWV.R (by assumption) _ _ | exact ⟨by omega, by omega⟩ | assumption | (subst_vars; first | exact zWV.R (by assumption) _ _ | exact ⟨by omega, by omega⟩)) (by first | exact zWV.R (by assumption) _ _ | exact ⟨by omega, by omega⟩ | assumption | (subst_vars; first | exact zWV.R (by assumption) _ _ | exact ⟨by omega, by omega⟩)) (fun c221 => ?_) (fun c221 => ?_)
          · exfalso
            exact c221 rfl
          · refine G_iconst (pc := 224) dX7_join_224 ?_
            refine G_goto (pc := 225) 229 dX7_join_225 (by decide) ?_
            exact G_zret (pc := 229) hF dX7_join_229 ⟨Nat.le_of_ble_eq_true rfl, Nat.le_of_ble_eq_true rfl⟩ (by first | exact zb_ite | omega) ⟨rfl, Q, V5_206, ⟨rfl, rfl⟩, by rw [hSa]; rfl, by rw [hSa]; exact hJZ, by rw [hSa, zJn_k ⟨by simp, by simp, by simp, by simp⟩]; omega, by rw [hSa, zJn_k ⟨by simp, by simp, by simp, by simp⟩]; omega, by rw [hSa, zJn_k ⟨by simp, by simp, by simp, by simp⟩]; omega, by rw [hSa, zJn_k ⟨by simp, by simp, by simp, by simp⟩]; omega, by omega, by omega⟩
        · refine G_iload (pc := 69) 4 dX7_join_69 rfl ?_
          refine G_iload_n (pc := 71) 3 3 dX7_join_71 rfl rfl ?_
          refine G_icmp_eq (pc := 72) 205 dX7_join_72 (by decide) (by first | exact zWV.R (by assumption) _ _ | exact ⟨by omega, by omega⟩ | assumption | (subst_vars; first | exact zWV.R (by assumption) _ _ | exact ⟨by omega, by omega⟩)) (by first | exact zWV.R (by assumption) _ _ | exact ⟨by omega, by omega⟩ | assumption | (subst_vars; first | exact zWV.R (by assumption) _ _ | exact ⟨by omega, by omega⟩)) (fun c72 => ?_) (fun c72 => ?_)
          · have hTz : T = lp (zsf Q r5) 0 (Q 1 (Q 4 r5 0) 0) (zst D (17, r5, 0, 0) r11 v37) := by
              first
              | (have hl := hlp; rw [lp_end (by omega)] at hl; rw [hl, hV4]; done)
              | (rw [hTe (by omega), hV4]; have e : v37 = D (17, r5, 0, 0) r11 := by omega
                 rw [e, zJ_jid hJD hg, zst_id rfl])
            have hJZ := zJ_join hJD hg (r := r11) (by omega) h37
            rw [← hTz] at hJZ
            have hsn : zSet Q T := hJZ.st
            refine G_aload_n (pc := 205) 0 0 dX7_join_205 rfl rfl ?_
            refine G_callVv (pc := 206) gk_X7_126 dX7_join_206 pg_200 rfl (c_X7_settle (by first | assumption | omega | exact ⟨by omega, by omega⟩ | exact ⟨⟨by omega, by omega⟩, by omega⟩ | exact zWV.R (by assumption) _ _) (by first | assumption | omega | exact ⟨by omega, by omega⟩ | exact ⟨⟨by omega, by omega⟩, by omega⟩ | exact zWV.R (by assumption) _ _) hsn) rfl rfl (Nat.le_of_ble_eq_true rfl) ⟨⟨Nat.le_of_ble_eq_true rfl, Nat.le_of_ble_eq_true rfl⟩, Nat.le_of_ble_eq_true rfl, Nat.le_of_ble_eq_true rfl⟩ ?_
            refine G_nameV (fun V6_206 hV6_206 => ?_)
            have hVV6_206 : zWV Q V6_206 := by rw [hV6_206]; exact zkA_V hP hVT
            have hSa : V6_206 = lp (zsf Q r5) 0 (Q 1 (Q 4 r5 0) 0) (zst D (17, r5, 0, 0) r11 v37) := by rw [hV6_206, zkA_id hJZ.xz]; exact hTz
            rw [hTz] at hJZ
            refine G_aload_n (pc := 209) 0 0 dX7_join_209 rfl rfl ?_
            refine G_getf (pc := 210) fl_X7_10 dX7_join_210 pg_200 rfl ?_
            refine G_iload_n (pc := 213) 1 1 dX7_join_213 rfl rfl ?_
            refine G_iload_n (pc := 214) 2 2 dX7_join_214 rfl rfl ?_
            refine G_iload (pc := 215) 4 dX7_join_215 rfl ?_
            rw [hXD, pm_mm]
            refine G_callV (pc := 217) gk_X7_192 dX7_join_217 mg_0 rfl (c_X6_join (g := r5) (r := r11) (b := v37) hP hg hJD.wv.W (by omega) h37 (by omega)) rfl rfl (Nat.le_of_ble_eq_true rfl) ⟨⟨Nat.le_of_ble_eq_true rfl, Nat.le_of_ble_eq_true rfl⟩, Nat.le_of_ble_eq_true rfl, Nat.le_of_ble_eq_true rfl⟩ (fun vx adx Mx hpo => ?_)
            obtain ⟨rfl, hadx, rfl⟩ := hpo
            rw [hadx]
            rw [← hD23]
            show G Γ _ _ _ _ _ _ (0) (0) 220 [(0, .ref (ad (200, 0, 0, 0))), (1, .int (zI r5)), (2, .int (zI r11)), (3, .int (zI v23)), (4, .int (zI v37)), (5, .int (zI p))] [.int (zI v23)]
            rw [← pm_mm]
            refine G_iload_n (pc := 220) 3 3 dX7_join_220 rfl rfl ?_
            refine G_icmp_ne (pc := 221) 228 dX7_join_221 (by decide) (by first | exact zWV.R (by assumption) _ _ | exact ⟨by omega, by omega⟩ | assumption | (subst_vars; first | exact zWV.R (by assumption) _ _ | exact ⟨by omega, by omega⟩)) (by first | exact zWV.R (by assumption) _ _ | exact ⟨by omega, by omega⟩ | assumption | (subst_vars; first | exact zWV.R (by assumption) _ _ | exact ⟨by omega, by omega⟩)) (fun c221 => ?_) (fun c221 => ?_)
            · exfalso
              exact c221 rfl
            · refine G_iconst (pc := 224) dX7_join_224 ?_
              refine G_goto (pc := 225) 229 dX7_join_225 (by decide) ?_
              exact G_zret (pc := 229) hF dX7_join_229 ⟨Nat.le_of_ble_eq_true rfl, Nat.le_of_ble_eq_true rfl⟩ (by first | exact zb_ite | omega) ⟨rfl, Q, V6_206, ⟨rfl, rfl⟩, by rw [hSa]; rfl, by rw [hSa]; exact hJZ, by rw [hSa, zJn_k ⟨by simp, by simp, by simp, by simp⟩]; omega, by rw [hSa, zJn_k ⟨by simp, by simp, by simp, by simp⟩]; omega, by rw [hSa, zJn_k ⟨by simp, by simp, by simp, by simp⟩]; omega, by rw [hSa, zJn_k ⟨by simp, by simp, by simp, by simp⟩]; omega, by omega, by omega⟩
          · have hp : inQ Q r5 p := ⟨by omega, by omega⟩
            have hM := hP.m hG hp
            have hW5 := hVT.W.m hg hp
            have hzs := zsr_le (P := Q) (S := T) (g := r5) (p := p) (c := -1)
            refine G_aload_n (pc := 75) 0 0 dX7_join_75 rfl rfl ?_
            refine G_iload_n (pc := 76) 1 1 dX7_join_76 rfl rfl ?_
            refine G_aload_n (pc := 77) 0 0 dX7_join_77 rfl rfl ?_
            refine G_getf (pc := 78) fl_X7_65 dX7_join_78 pg_200 rfl ?_
            refine G_iload_n (pc := 81) 1 1 dX7_join_81 rfl rfl ?_
            refine G_aldA (pc := 82) (t := 8) rfl dX7_join_82 pg_220 ⟨by omega, by omega, by omega, by omega⟩ rfl ?_
            refine G_iload (pc := 83) 5 dX7_join_83 rfl ?_
            refine G_callVd (pc := 85) gk_X7_188 dX7_join_85 pg_200 rfl (c_X7_share (by first | assumption | omega | exact ⟨by omega, by omega⟩ | exact ⟨⟨by omega, by omega⟩, by omega⟩ | exact zWV.R (by assumption) _ _) (by first | assumption | omega | exact ⟨by omega, by omega⟩ | exact ⟨⟨by omega, by omega⟩, by omega⟩ | exact zWV.R (by assumption) _ _) (by first | assumption | omega | exact ⟨by omega, by omega⟩ | exact ⟨⟨by omega, by omega⟩, by omega⟩ | exact zWV.R (by assumption) _ _) (by first | assumption | omega | exact ⟨by omega, by omega⟩ | exact ⟨⟨by omega, by omega⟩, by omega⟩ | exact zWV.R (by assumption) _ _)) rfl rfl (Nat.le_of_ble_eq_true rfl) ⟨⟨Nat.le_of_ble_eq_true rfl, Nat.le_of_ble_eq_true rfl⟩, Nat.le_of_ble_eq_true rfl, Nat.le_of_ble_eq_true rfl⟩ ?_
            refine G_istore_e (pc := 88) (fun zw => [(6, .int (zI zw)), (0, .ref (ad (200, 0, 0, 0))), (1, .int (zI r5)), (2, .int (zI r11)), (3, .int (zI v23)), (4, .int (zI v37)), (5, .int (zI p))]) dX7_join_88 (by decide) (fun _ => rfl) (fun v88 e88 => ?_)
            refine G_iload (pc := 90) 0 dX7_join_90 rfl ?_
            refine G_aload_n (pc := 92) 0 1 dX7_join_92 rfl rfl ?_
            refine G_getf (pc := 93) fl_X7_60 dX7_join_93 pg_200 rfl ?_
            refine G_iload_n (pc := 96) 1 2 dX7_join_96 rfl rfl ?_
            refine G_aldA (pc := 97) (t := 5) rfl dX7_join_97 pg_218 ⟨by omega, by omega, by omega, by omega⟩ rfl ?_
            refine G_iload (pc := 98) 6 dX7_join_98 rfl ?_
            refine G_ialdV (pc := 100) (T (18, r5, p, 0) 4) dX7_join_100 (pg_219 (by first | assumption | omega | exact ⟨by omega, by omega⟩ | exact ⟨⟨by omega, by omega⟩, by omega⟩ | exact zWV.R (by assumption) _ _)) ⟨by omega, by omega, by omega, by omega⟩ rfl ?_
            refine G_icmp_ne (pc := 101) 107 dX7_join_101 (by decide) (by first | exact zWV.R (by assumption) _ _ | exact ⟨by omega, by omega⟩ | assumption | (subst_vars; first | exact zWV.R (by assumption) _ _ | exact ⟨by omega, by omega⟩)) (by first | exact zWV.R (by assumption) _ _ | exact ⟨by omega, by omega⟩ | assumption | (subst_vars; first | exact zWV.R (by assumption) _ _ | exact ⟨by omega, by omega⟩)) (fun c101 => ?_) (fun c101 => ?_)
            · have hne : ¬ zsr Q T r5 p (-1) = T (18, r5, p, 0) 4 := by rw [← e88]; omega
              refine G_aload_n (pc := 107) 0 1 dX7_join_107 rfl rfl ?_
              refine G_getf (pc := 108) fl_X7_60 dX7_join_108 pg_200 rfl ?_
              refine G_iload_n (pc := 111) 1 2 dX7_join_111 rfl rfl ?_
              refine G_aldA (pc := 112) (t := 5) rfl dX7_join_112 pg_218 ⟨by omega, by omega, by omega, by omega⟩ rfl ?_
              refine G_iload (pc := 113) 6 dX7_join_113 rfl ?_
              refine G_iload (pc := 115) 0 dX7_join_115 rfl ?_
              refine G_iast (pc := 117) dX7_join_117 (pg_219 (by first | assumption | omega | exact ⟨by omega, by omega⟩ | exact ⟨⟨by omega, by omega⟩, by omega⟩ | exact zWV.R (by assumption) _ _)) ⟨by omega, by omega, by omega, by omega⟩ (pp_219 (by first | assumption | omega | exact ⟨by omega, by omega⟩ | exact ⟨⟨by omega, by omega⟩, by omega⟩ | exact zWV.R (by assumption) _ _)) ?_
              refine G_nameV (fun V7_117 hV7_117 => ?_)
              have hVV7_117 : zWV Q V7_117 := by rw [hV7_117]; exact hVT.s18 ⟨by omega, by omega⟩ (fun q => by omega)
              have hTn : V7_117 = zst T (18, r5, p, 0) 4 v88 := hV7_117
              refine G_aload_n (pc := 118) 0 1 dX7_join_118 rfl rfl ?_
              refine G_getf (pc := 119) fl_X7_25 dX7_join_119 pg_200 rfl ?_
              refine G_aload_n (pc := 122) 0 1 dX7_join_122 rfl rfl ?_
              refine G_getf (pc := 123) fl_X7_51 dX7_join_123 pg_200 rfl ?_
              refine G_iload_n (pc := 126) 1 2 dX7_join_126 rfl rfl ?_
              refine G_ialdV (pc := 127) (Q 4 r5 0) dX7_join_127 pg_213 ⟨by omega, by omega, by omega, by omega⟩ (hVV7_117.of (by first | assumption | omega | exact ⟨by omega, by omega⟩ | exact ⟨⟨by omega, by omega⟩, by omega⟩ | exact zWV.R (by assumption) _ _)) ?_
              refine G_aldA (pc := 128) (t := 7) rfl dX7_join_128 pg_201 ⟨by omega, by omega, by omega, by omega⟩ rfl ?_
              refine G_iload (pc := 129) 6 dX7_join_129 rfl ?_
              refine G_aldA (pc := 131) (t := 6) rfl dX7_join_131 (pg_202 (by first | assumption | omega | exact ⟨by omega, by omega⟩ | exact ⟨⟨by omega, by omega⟩, by omega⟩ | exact zWV.R (by assumption) _ _)) ⟨by omega, by omega, by omega, by omega⟩ rfl ?_
              refine G_astore (pc := 132) [(7, .ref (ad (203, Q 4 r5 0, p, 0))), (6, .int (zI v88)), (0, .ref (ad (200, 0, 0, 0))), (1, .int (zI r5)), (2, .int (zI r11)), (3, .int (zI v23)), (4, .int (zI v37)), (5, .int (zI p))] dX7_join_132 (by decide) rfl ?_
              refine G_aload (pc := 134) 0 dX7_join_134 rfl ?_
              refine G_alenV (pc := 136) (t := 5) (Q 2 (Q 4 r5 0) p) rfl dX7_join_136 (pg_203 (by first | assumption | omega | exact ⟨by omega, by omega⟩ | exact ⟨⟨by omega, by omega⟩, by omega⟩ | exact zWV.R (by assumption) _ _)) (by omega) ?_
              refine G_istore_e (pc := 137) (fun zw => [(8, .int (zI zw)), (7, .ref (ad (203, Q 4 r5 0, p, 0))), (6, .int (zI v88)), (0, .ref (ad (200, 0, 0, 0))), (1, .int (zI r5)), (2, .int (zI r11)), (3, .int (zI v23)), (4, .int (zI v37)), (5, .int (zI p))]) dX7_join_137 (by decide) (fun _ => rfl) (fun v137 e137 => ?_)
              refine G_iconst (pc := 139) dX7_join_139 ?_
              refine G_istore_e (pc := 140) (fun zw => [(9, .int (zI zw)), (8, .int (zI v137)), (7, .ref (ad (203, Q 4 r5 0, p, 0))), (6, .int (zI v88)), (0, .ref (ad (200, 0, 0, 0))), (1, .int (zI r5)), (2, .int (zI r11)), (3, .int (zI v23)), (4, .int (zI v37)), (5, .int (zI p))]) dX7_join_140 (by decide) (fun _ => rfl) (fun v140 e140 => ?_)
              have L142 : ∀ (n : Nat) (o : Int) (T2 : zS), ((0 ≤ o ∧ o ≤ Q 2 (Q 4 r5 0) p) ∧ lp (zh1 r5 p) o (Q 2 (Q 4 r5 0) p) T2 = lp (zh1 r5 p) 0 (Q 2 (Q 4 r5 0) p) V7_117 ∧ zWV Q T2) → (Q 2 (Q 4 r5 0) p - o).toNat < n → G Γ (zRm 10 0 0) cX7_join 11 RX7 ad (pm (z_d Γ) ad Q T2 X) 0 0 142 [(0, .ref (ad (200, 0, 0, 0))), (1, .int (zI r5)), (2, .int (zI r11)), (3, .int (zI v23)), (4, .int (zI v37)), (5, .int (zI p)), (6, .int (zI v88)), (7, .ref (ad (203, Q 4 r5 0, p, 0))), (8, .int (zI v137)), (9, .int (zI o))] [] := by
                intro n
                induction n with
                | zero => intro o T2 _ hn; omega
                | succ n ih142 =>
                  intro o T2 hi142 hn142
                  obtain ⟨ho0, hlo, hVT2⟩ := hi142
                  refine G_iload (pc := 142) 9 dX7_join_142 rfl ?_
                  refine G_iload (pc := 144) 8 dX7_join_144 rfl ?_
                  refine G_icmp_ge (pc := 146) 181 dX7_join_146 (by decide) (by first | exact zWV.R (by assumption) _ _ | exact ⟨by omega, by omega⟩ | assumption | (subst_vars; first | exact zWV.R (by assumption) _ _ | exact ⟨by omega, by omega⟩)) (by first | exact zWV.R (by assumption) _ _ | exact ⟨by omega, by omega⟩ | assumption | (subst_vars; first | exact zWV.R (by assumption) _ _ | exact ⟨by omega, by omega⟩)) (fun c146 => ?_) (fun c146 => ?_)
                  · have hW6 := hVT2.W.m hg hp
                    refine G_aload_n (pc := 181) 0 0 dX7_join_181 rfl rfl ?_
                    refine G_getf (pc := 182) fl_X7_57 dX7_join_182 pg_200 rfl ?_
                    refine G_iload_n (pc := 185) 1 1 dX7_join_185 rfl rfl ?_
                    refine G_aldA (pc := 186) (t := 5) rfl dX7_join_186 pg_216 ⟨by omega, by omega, by omega, by omega⟩ rfl ?_
                    refine G_iload (pc := 187) 5 dX7_join_187 rfl ?_
                    refine G_aload_n (pc := 189) 0 0 dX7_join_189 rfl rfl ?_
                    refine G_getf (pc := 190) fl_X7_54 dX7_join_190 pg_200 rfl ?_
                    refine G_iload_n (pc := 193) 1 1 dX7_join_193 rfl rfl ?_
                    refine G_aldA (pc := 194) (t := 5) rfl dX7_join_194 pg_214 ⟨by omega, by omega, by omega, by omega⟩ rfl ?_
                    refine G_iload (pc := 195) 5 dX7_join_195 rfl ?_
                    refine G_ialdV (pc := 197) (T2 (18, r5, p, 0) 5) dX7_join_197 (pg_215 (by first | assumption | omega | exact ⟨by omega, by omega⟩ | exact ⟨⟨by omega, by omega⟩, by omega⟩ | exact zWV.R (by assumption) _ _)) ⟨by omega, by omega, by omega, by omega⟩ rfl ?_
                    refine G_iast (pc := 198) dX7_join_198 (pg_217 (by first | assumption | omega | exact ⟨by omega, by omega⟩ | exact ⟨⟨by omega, by omega⟩, by omega⟩ | exact zWV.R (by assumption) _ _)) ⟨by omega, by omega, by omega, by omega⟩ (pp_217 (by first | assumption | omega | exact ⟨by omega, by omega⟩ | exact ⟨⟨by omega, by omega⟩, by omega⟩ | exact zWV.R (by assumption) _ _)) ?_
                    refine G_nameV (fun V8_198 hV8_198 => ?_)
                    have hVV8_198 : zWV Q V8_198 := by rw [hV8_198]; exact hVT2.s18 ⟨by omega, by omega⟩ (fun _ _ _ => by omega)
                    have hzf : zsf Q r5 p T = V8_198 := by
                      unfold zsf zht
                      first
                      | (rw [if_pos (by rw [← e88]; omega)]; done)
                      | (rw [if_neg hne, hV8_198]; have hl := hlo; rw [lp_end (by omega)] at hl; rw [hl, hTn, e88])
                    refine G_iinc_e (pc := 199) 5 (fun zw => [(5, .int (zI zw)), (0, .ref (ad (200, 0, 0, 0))), (1, .int (zI r5)), (2, .int (zI r11)), (3, .int (zI v23)), (4, .int (zI v37)), (6, .int (zI v88)), (7, .ref (ad (203, Q 4 r5 0, p, 0))), (8, .int (zI v137)), (9, .int (zI o))]) dX7_join_199 rfl (by decide) (fun _ => rfl) (fun v199 e199 => ?_)
                    refine G_goto (pc := 202) 52 dX7_join_202 (by decide) ?_
                    refine G_perm (lv' := [(0, .ref (ad (200, 0, 0, 0))), (1, .int (zI r5)), (2, .int (zI r11)), (3, .int (zI v23)), (4, .int (zI v37)), (5, .int (zI v199))]) [1, 2, 3, 4, 5, 0] rfl ?_
                    exact ih52 v199 V8_198 ⟨by omega, by rw [e199, ← hlp, lp_step (a := p) (n := Q 1 (Q 4 r5 0) 0) (by omega)]; rw [show zsf Q r5 p T = V8_198 from hzf], by assumption, fun q => by omega⟩ (by omega)
                  · refine G_aload (pc := 149) 7 dX7_join_149 rfl ?_
                    refine G_iload (pc := 151) 9 dX7_join_151 rfl ?_
                    refine G_aldA (pc := 153) (t := 5) rfl dX7_join_153 (pg_203 (by first | assumption | omega | exact ⟨by omega, by omega⟩ | exact ⟨⟨by omega, by omega⟩, by omega⟩ | exact zWV.R (by assumption) _ _)) ⟨by omega, by omega, by omega, by omega⟩ rfl ?_
                    refine G_astore (pc := 154) [(10, .ref (ad (204, Q 4 r5 0, p, o))), (0, .ref (ad (200, 0, 0, 0))), (1, .int (zI r5)), (2, .int (zI r11)), (3, .int (zI v23)), (4, .int (zI v37)), (5, .int (zI p)), (6, .int (zI v88)), (7, .ref (ad (203, Q 4 r5 0, p, 0))), (8, .int (zI v137)), (9, .int (zI o))] dX7_join_154 (by decide) rfl ?_
                    refine G_aload (pc := 156) 0 dX7_join_156 rfl ?_
                    refine G_iconst (pc := 158) dX7_join_158 ?_
                    refine G_iconst (pc := 159) dX7_join_159 ?_
                    refine G_iload_n (pc := 160) 1 2 dX7_join_160 rfl rfl ?_
                    refine G_imul (pc := 161) dX7_join_161 ?_
                    refine G_iadd (pc := 162) dX7_join_162 ?_
                    refine G_ialdV (pc := 163) (T2 (19, r5, p, 0) o) dX7_join_163 (pg_204 (by first | assumption | omega | exact ⟨by omega, by omega⟩ | exact ⟨⟨by omega, by omega⟩, by omega⟩ | exact zWV.R (by assumption) _ _)) ⟨by omega, by omega, by omega, by omega⟩ (zpr_5 (by first | assumption | omega | exact ⟨by omega, by omega⟩ | exact ⟨⟨by omega, by omega⟩, by omega⟩ | exact zWV.R (by assumption) _ _) rfl) ?_
                    refine G_iconst (pc := 164) dX7_join_164 ?_
                    refine G_icmp_ne (pc := 165) 175 dX7_join_165 (by decide) (by first | exact zWV.R (by assumption) _ _ | exact ⟨by omega, by omega⟩ | assumption | (subst_vars; first | exact zWV.R (by assumption) _ _ | exact ⟨by omega, by omega⟩)) (by first | exact zWV.R (by assumption) _ _ | exact ⟨by omega, by omega⟩ | assumption | (subst_vars; first | exact zWV.R (by assumption) _ _ | exact ⟨by omega, by omega⟩)) (fun c165 => ?_) (fun c165 => ?_)
                    · refine G_iinc_e (pc := 175) 10 (fun zw => [(9, .int (zI zw)), (10, .ref (ad (204, Q 4 r5 0, p, o))), (0, .ref (ad (200, 0, 0, 0))), (1, .int (zI r5)), (2, .int (zI r11)), (3, .int (zI v23)), (4, .int (zI v37)), (5, .int (zI p)), (6, .int (zI v88)), (7, .ref (ad (203, Q 4 r5 0, p, 0))), (8, .int (zI v137))]) dX7_join_175 rfl (by decide) (fun _ => rfl) (fun v175 e175 => ?_)
                      refine G_goto (pc := 178) 142 dX7_join_178 (by decide) ?_
                      refine G_perm (lv' := [(0, .ref (ad (200, 0, 0, 0))), (1, .int (zI r5)), (2, .int (zI r11)), (3, .int (zI v23)), (4, .int (zI v37)), (5, .int (zI p)), (6, .int (zI v88)), (7, .ref (ad (203, Q 4 r5 0, p, 0))), (8, .int (zI v137)), (9, .int (zI v175))]) [2, 3, 4, 5, 6, 7, 8, 9, 10, 0] rfl ?_
                      exact ih142 v175 T2 ⟨by omega, by rw [e175, ← hlo, lp_step (a := o) (n := Q 2 (Q 4 r5 0) p) (by omega)]; rw [show zh1 r5 p o T2 = T2 from by first | (rw [hT2]; exact if_pos (by omega)) | exact if_neg (by omega)], by assumption⟩ (by omega)
                    · refine G_aload_n (pc := 168) 0 1 dX7_join_168 rfl rfl ?_
                      refine G_aload (pc := 169) 0 dX7_join_169 rfl ?_
                      refine G_iload_n (pc := 171) 1 2 dX7_join_171 rfl rfl ?_
                      refine G_callVv (pc := 172) gk_X7_145 dX7_join_172 pg_200 rfl (c_X7_forget (by first | assumption | omega | exact ⟨by omega, by omega⟩ | exact ⟨⟨by omega, by omega⟩, by omega⟩ | exact zWV.R (by assumption) _ _) (by first | assumption | omega | exact ⟨by omega, by omega⟩ | exact ⟨⟨by omega, by omega⟩, by omega⟩ | exact zWV.R (by assumption) _ _) (by first | assumption | omega | exact ⟨by omega, by omega⟩ | exact ⟨⟨by omega, by omega⟩, by omega⟩ | exact zWV.R (by assumption) _ _) (by first | assumption | omega | exact ⟨by omega, by omega⟩ | exact ⟨⟨by omega, by omega⟩, by omega⟩ | exact zWV.R (by assumption) _ _) (by first | assumption | omega | exact ⟨by omega, by omega⟩ | exact ⟨⟨by omega, by omega⟩, by omega⟩ | exact zWV.R (by assumption) _ _) (by first | assumption | omega | exact ⟨by omega, by omega⟩ | exact ⟨⟨by omega, by omega⟩, by omega⟩ | exact zWV.R (by assumption) _ _) rfl) rfl rfl (Nat.le_of_ble_eq_true rfl) ⟨⟨Nat.le_of_ble_eq_true rfl, Nat.le_of_ble_eq_true rfl⟩, Nat.le_of_ble_eq_true rfl, Nat.le_of_ble_eq_true rfl⟩ ?_
                      refine G_nameV (fun V9_172 hV9_172 => ?_)
                      have hVV9_172 : zWV Q V9_172 := by rw [hV9_172]; exact zfg_V hVT2
                      refine G_iinc_e (pc := 175) 10 (fun zw => [(9, .int (zI zw)), (10, .ref (ad (204, Q 4 r5 0, p, o))), (0, .ref (ad (200, 0, 0, 0))), (1, .int (zI r5)), (2, .int (zI r11)), (3, .int (zI v23)), (4, .int (zI v37)), (5, .int (zI p)), (6, .int (zI v88)), (7, .ref (ad (203, Q 4 r5 0, p, 0))), (8, .int (zI v137))]) dX7_join_175 rfl (by decide) (fun _ => rfl) (fun v175 e175 => ?_)
                      refine G_goto (pc := 178) 142 dX7_join_178 (by decide) ?_
                      refine G_perm (lv' := [(0, .ref (ad (200, 0, 0, 0))), (1, .int (zI r5)), (2, .int (zI r11)), (3, .int (zI v23)), (4, .int (zI v37)), (5, .int (zI p)), (6, .int (zI v88)), (7, .ref (ad (203, Q 4 r5 0, p, 0))), (8, .int (zI v137)), (9, .int (zI v175))]) [2, 3, 4, 5, 6, 7, 8, 9, 10, 0] rfl ?_
                      exact ih142 v175 V9_172 ⟨by omega, by rw [e175, ← hlo, lp_step (a := o) (n := Q 2 (Q 4 r5 0) p) (by omega)]; rw [show zh1 r5 p o T2 = V9_172 from by first | (rw [hV9_172]; exact if_pos (by omega)) | exact if_neg (by omega)], by assumption⟩ (by omega)
              refine G_perm (lv' := [(0, .ref (ad (200, 0, 0, 0))), (1, .int (zI r5)), (2, .int (zI r11)), (3, .int (zI v23)), (4, .int (zI v37)), (5, .int (zI p)), (6, .int (zI v88)), (7, .ref (ad (203, Q 4 r5 0, p, 0))), (8, .int (zI v137)), (9, .int (zI v140))]) [4, 5, 6, 7, 8, 9, 3, 2, 1, 0] rfl ?_
              exact L142 _ v140 V7_117 ⟨by omega, by rw [e140], by assumption⟩ (Nat.lt_succ_self _)
            · refine G_goto (pc := 104) 199 dX7_join_104 (by decide) ?_
              have hzf : zsf Q r5 p T = T := by
                unfold zsf zht
                first
                | (rw [if_pos (by rw [← e88]; omega)]; done)
                | (rw [if_neg hne, hT]; have hl := hlo; rw [lp_end (by omega)] at hl; rw [hl, hTn, e88])
              refine G_iinc_e (pc := 199) 6 (fun zw => [(5, .int (zI zw)), (6, .int (zI v88)), (0, .ref (ad (200, 0, 0, 0))), (1, .int (zI r5)), (2, .int (zI r11)), (3, .int (zI v23)), (4, .int (zI v37))]) dX7_join_199 rfl (by decide) (fun _ => rfl) (fun v199 e199 => ?_)
              refine G_goto (pc := 202) 52 dX7_join_202 (by decide) ?_
              refine G_perm (lv' := [(0, .ref (ad (200, 0, 0, 0))), (1, .int (zI r5)), (2, .int (zI r11)), (3, .int (zI v23)), (4, .int (zI v37)), (5, .int (zI v199))]) [2, 3, 4, 5, 6, 0] rfl ?_
              exact ih52 v199 T ⟨by omega, by rw [e199, ← hlp, lp_step (a := p) (n := Q 1 (Q 4 r5 0) 0) (by omega)]; rw [show zsf Q r5 p T = T from hzf], by assumption, fun q => by omega⟩ (by omega)
    refine G_perm (lv' := [(0, .ref (ad (200, 0, 0, 0))), (1, .int (zI r5)), (2, .int (zI r11)), (3, .int (zI v23)), (4, .int (zI v37)), (5, .int (zI v50))]) [5, 4, 3, 2, 1, 0] rfl ?_
    exact L52 _ v50 V4_48 ⟨by omega, by rw [e50], by assumption, fun _ => rfl⟩ (Nat.lt_succ_self _)
  · refine G_iconst (pc := 32) dX7_join_32 ?_
    refine G_goto (pc := 33) 37 dX7_join_33 (by decide) ?_
    refine G_istore_e (pc := 37) (fun zw => [(4, .int (zI zw)), (3, .int (zI v23)), (2, .int (zI r11)), (1, .int (zI r5)), (0, .ref (ad (200, 0, 0, 0)))]) dX7_join_37 (by decide) (fun _ => rfl) (fun v37 e37 => ?_)
    obtain ⟨D, hD0⟩ : ∃ D, D = V3_26 := ⟨_, rfl⟩
    have hJD : zJ Q D := by rw [hD0]; exact hJV3_26
    have hXD : X = mm (z_d Γ) ad Q D z00 := by rw [hD0]; exact hXV3_26
    have hVD := hJD.wv
    have hDd : D (200, 0, 0, 0) 2 ≤ V (200, 0, 0, 0) 2 + 3 := by rw [hD0]; omega
    have hD4 : D (0, 0, 0, 0) 4 = V (0, 0, 0, 0) 4 := by rw [hD0, hfV3_26 _ _ (by decide), hfV2_11 _ _ (by decide), hfV1_5 _ _ (by decide)]
    have hD6 : D (0, 0, 0, 0) 6 = V (0, 0, 0, 0) 6 := by rw [hD0, hfV3_26 _ _ (by decide), hfV2_11 _ _ (by decide), hfV1_5 _ _ (by decide)]
    have hD1 : D (1, 0, 0, 0) 1 = V (1, 0, 0, 0) 1 := by rw [hD0, hfV3_26 _ _ (by decide), hfV2_11 _ _ (by decide), hfV1_5 _ _ (by decide)]
    have h37 : v37 = 0 ∨ v37 = 1 := by omega
    have hD23 : v23 = D (17, r5, 0, 0) r11 := by rw [hD0, e23, hfV3_26 _ _ (by simp)]
    refine G_aload_n (pc := 39) 0 4 dX7_join_39 rfl rfl ?_
    refine G_getf (pc := 40) fl_X7_65 dX7_join_40 pg_200 rfl ?_
    refine G_iload_n (pc := 43) 1 3 dX7_join_43 rfl rfl ?_
    refine G_aldA (pc := 44) (t := 8) rfl dX7_join_44 pg_220 ⟨by omega, by omega, by omega, by omega⟩ rfl ?_
    refine G_iload_n (pc := 45) 2 2 dX7_join_45 rfl rfl ?_
    refine G_iload (pc := 46) 0 dX7_join_46 rfl ?_
    refine G_zast (pc := 48) dX7_join_48 (pg_221 (by first | assumption | omega | exact ⟨by omega, by omega⟩ | exact ⟨⟨by omega, by omega⟩, by omega⟩ | exact zWV.R (by assumption) _ _)) ⟨by omega, by omega, by omega, by omega⟩ (by first | exact zb_ite | omega) (pp_221 (by first | assumption | omega | exact ⟨by omega, by omega⟩ | exact ⟨⟨by omega, by omega⟩, by omega⟩ | exact zWV.R (by assumption) _ _)) ?_
    refine G_nameV (fun V10_48 hV10_48 => ?_)
    have hVV10_48 : zWV Q V10_48 := by rw [hV10_48]; exact hVV3_26.s17 (by first | exact zb_ite | omega)
    have hV4 : V10_48 = zst D (17, r5, 0, 0) r11 v37 := by rw [hV10_48, ← hD0]
    refine G_iconst (pc := 49) dX7_join_49 ?_
    refine G_istore_e (pc := 50) (fun zw => [(5, .int (zI zw)), (4, .int (zI v37)), (3, .int (zI v23)), (2, .int (zI r11)), (1, .int (zI r5)), (0, .ref (ad (200, 0, 0, 0)))]) dX7_join_50 (by decide) (fun _ => rfl) (fun v50 e50 => ?_)
    have L52 : ∀ (n : Nat) (p : Int) (T : zS), ((0 ≤ p ∧ p ≤ Q 1 (Q 4 r5 0) 0) ∧ lp (zsf Q r5) p (Q 1 (Q 4 r5 0) 0) T = lp (zsf Q r5) 0 (Q 1 (Q 4 r5 0) 0) V10_48 ∧ zWV Q T ∧ (v37 = v23 → T = V10_48)) → (Q 1 (Q 4 r5 0) 0 - p).toNat < n → G Γ (zRm 10 0 0) cX7_join 11 RX7 ad (pm (z_d Γ) ad Q T X) 0 0 52 [(0, .ref (ad (200, 0, 0, 0))), (1, .int (zI r5)), (2, .int (zI r11)), (3, .int (zI v23)), (4, .int (zI v37)), (5, .int (zI p))] [] := by
      intro n
      induction n with
      | zero => intro p T _ hn; omega
      | succ n ih52 =>
        intro p T hi52 hn52
        obtain ⟨hp0, hlp, hVT, hTe⟩ := hi52
        refine G_iload (pc := 52) 5 dX7_join_52 rfl ?_
        refine G_aload_n (pc := 54) 0 0 dX7_join_54 rfl rfl ?_
        refine G_getf (pc := 55) fl_X7_25 dX7_join_55 pg_200 rfl ?_
        refine G_aload_n (pc := 58) 0 0 dX7_join_58 rfl rfl ?_
        refine G_getf (pc := 59) fl_X7_51 dX7_join_59 pg_200 rfl ?_
        refine G_iload_n (pc := 62) 1 1 dX7_join_62 rfl rfl ?_
        refine G_ialdV (pc := 63) (Q 4 r5 0) dX7_join_63 pg_213 ⟨by omega, by omega, by omega, by omega⟩ (hVT.of (by first | assumption | omega | exact ⟨by omega, by omega⟩ | exact ⟨⟨by omega, by omega⟩, by omega⟩ | exact zWV.R (by assumption) _ _)) ?_
        refine G_aldA (pc := 64) (t := 7) rfl dX7_join_64 pg_201 ⟨by omega, by omega, by omega, by omega⟩ rfl ?_
        refine G_alenV (pc := 65) (t := 6) (Q 1 (Q 4 r5 0) 0) rfl dX7_join_65 (pg_202 (by first | assumption | omega | exact ⟨by omega, by omega⟩ | exact ⟨⟨by omega, by omega⟩, by omega⟩ | exact zWV.R (by assumption) _ _)) (by omega) ?_
        refine G_icmp_ge (pc := 66) 205 dX7_join_66 (by decide) (by first | exact zWV.R (by assumption) _ _ | exact ⟨by omega, by omega⟩ | assumption | (subst_vars; first | exact zWV.R (by assumption) _ _ | exact ⟨by omega, by omega⟩)) (by first | exact zWV.R (by assumption) _ _ | exact ⟨by omega, by omega⟩ | assumption | (subst_vars; first | exact zWV.R (by assumption) _ _ | exact ⟨by omega, by omega⟩)) (fun c66 => ?_) (fun c66 => ?_)
        · have hTz : T = lp (zsf Q r5) 0 (Q 1 (Q 4 r5 0) 0) (zst D (17, r5, 0, 0) r11 v37) := by
            first
            | (have hl := hlp; rw [lp_end (by omega)] at hl; rw [hl, hV4]; done)
            | (rw [hTe (by omega), hV4]; have e : v37 = D (17, r5, 0, 0) r11 := by omega
               rw [e, zJ_jid hJD hg, zst_id rfl])
          have hJZ := zJ_join hJD hg (r := r11) (by omega) h37
          rw [← hTz] at hJZ
          have hsn : zSet Q T := hJZ.st
          refine G_aload_n (pc := 205) 0 0 dX7_join_205 rfl rfl ?_
          refine G_callVv (pc := 206) gk_X7_126 dX7_join_206 pg_200 rfl (c_X7_settle (by first | assumption | omega | exact ⟨by omega, by omega⟩ | exact ⟨⟨by omega, by omega⟩, by omega⟩ | exact zWV.R (by assumption) _ _) (by first | assumption | omega | exact ⟨by omega, by omega⟩ | exact ⟨⟨by omega, by omega⟩, by omega⟩ | exact zWV.R (by assumption) _ _) hsn) rfl rfl (Nat.le_of_ble_eq_true rfl) ⟨⟨Nat.le_of_ble_eq_true rfl, Nat.le_of_ble_eq_true rfl⟩, Nat.le_of_ble_eq_true rfl, Nat.le_of_ble_eq_true rfl⟩ ?_
          refine G_nameV (fun V11_206 hV11_206 => ?_)
          have hVV11_206 : zWV Q V11_206 := by rw [hV11_206]; exact zkA_V hP hVT
          have hSa : V11_206 = lp (zsf Q r5) 0 (Q 1 (Q 4 r5 0) 0) (zst D (17, r5, 0, 0) r11 v37) := by rw [hV11_206, zkA_id hJZ.xz]; exact hTz
          rw [hTz] at hJZ
          refine G_aload_n (pc := 209) 0 0 dX7_join_209 rfl rfl ?_
          refine G_getf (pc := 210) fl_X7_10 dX7_join_210 pg_200 rfl ?_
          refine G_iload_n (pc := 213) 1 1 dX7_join_213 rfl rfl ?_
          refine G_iload_n (pc := 214) 2 2 dX7_join_214 rfl rfl ?_
          refine G_iload (pc := 215) 4 dX7_join_215 rfl ?_
          rw [hXD, pm_mm]
          refine G_callV (pc := 217) gk_X7_192 dX7_join_217 mg_0 rfl (c_X6_join (g := r5) (r := r11) (b := v37) hP hg hJD.wv.W (by omega) h37 (by omega)) rfl rfl (Nat.le_of_ble_eq_true rfl) ⟨⟨Nat.le_of_ble_eq_true rfl, Nat.le_of_ble_eq_true rfl⟩, Nat.le_of_ble_eq_true rfl, Nat.le_of_ble_eq_true rfl⟩ (fun vx adx Mx hpo => ?_)
          obtain ⟨rfl, hadx, rfl⟩ := hpo
          rw [hadx]
          rw [← hD23]
          show G Γ _ _ _ _ _ _ (0) (0) 220 [(0, .ref (ad (200, 0, 0, 0))), (1, .int (zI r5)), (2, .int (zI r11)), (3, .int (zI v23)), (4, .int (zI v37)), (5, .int (zI p))] [.int (zI v23)]
          rw [← pm_mm]
          refine G_iload_n (pc := 220) 3 3 dX7_join_220 rfl rfl ?_
          refine G_icmp_ne (pc := 221) 228 dX7_join_221 (by decide) (by first | exact zWV.R (by assumption) _ _ | exact ⟨by omega, by omega⟩ | assumption | (subst_vars; first | exact zWV.R (by assumption) _ _ | exact ⟨by omega, by omega⟩)) (by first | exact zWV.R (by assumption) _ _ | exact ⟨by omega, by omega⟩ | assumption | (subst_vars; first | exact zWV.R (by assumption) _ _ | exact ⟨by omega, by omega⟩)) (fun c221 => ?_) (fun c221 => ?_)
          · exfalso
            exact c221 rfl
          · refine G_iconst (pc := 224) dX7_join_224 ?_
            refine G_goto (pc := 225) 229 dX7_join_225 (by decide) ?_
            exact G_zret (pc := 229) hF dX7_join_229 ⟨Nat.le_of_ble_eq_true rfl, Nat.le_of_ble_eq_true rfl⟩ (by first | exact zb_ite | omega) ⟨rfl, Q, V11_206, ⟨rfl, rfl⟩, by rw [hSa]; rfl, by rw [hSa]; exact hJZ, by rw [hSa, zJn_k ⟨by simp, by simp, by simp, by simp⟩]; omega, by rw [hSa, zJn_k ⟨by simp, by simp, by simp, by simp⟩]; omega, by rw [hSa, zJn_k ⟨by simp, by simp, by simp, by simp⟩]; omega, by rw [hSa, zJn_k ⟨by simp, by simp, by simp, by simp⟩]; omega, by omega, by omega⟩
        · refine G_iload (pc := 69) 4 dX7_join_69 rfl ?_
          refine G_iload_n (pc := 71) 3 3 dX7_join_71 rfl rfl ?_
          refine G_icmp_eq (pc := 72) 205 dX7_join_72 (by decide) (by first | exact zWV.R (by assumption) _ _ | exact ⟨by omega, by omega⟩ | assumption | (subst_vars; first | exact zWV.R (by assumption) _ _ | exact ⟨by omega, by omega⟩)) (by first | exact zWV.R (by assumption) _ _ | exact ⟨by omega, by omega⟩ | assumption | (subst_vars; first | exact zWV.R (by assumption) _ _ | exact ⟨by omega, by omega⟩)) (fun c72 => ?_) (fun c72 => ?_)
          · have hTz : T = lp (zsf Q r5) 0 (Q 1 (Q 4 r5 0) 0) (zst D (17, r5, 0, 0) r11 v37) := by
              first
              | (have hl := hlp; rw [lp_end (by omega)] at hl; rw [hl, hV4]; done)
              | (rw [hTe (by omega), hV4]; have e : v37 = D (17, r5, 0, 0) r11 := by omega
                 rw [e, zJ_jid hJD hg, zst_id rfl])
            have hJZ := zJ_join hJD hg (r := r11) (by omega) h37
            rw [← hTz] at hJZ
            have hsn : zSet Q T := hJZ.st
            refine G_aload_n (pc := 205) 0 0 dX7_join_205 rfl rfl ?_
            refine G_callVv (pc := 206) gk_X7_126 dX7_join_206 pg_200 rfl (c_X7_settle (by first | assumption | omega | exact ⟨by omega, by omega⟩ | exact ⟨⟨by omega, by omega⟩, by omega⟩ | exact zWV.R (by assumption) _ _) (by first | assumption | omega | exact ⟨by omega, by omega⟩ | exact ⟨⟨by omega, by omega⟩, by omega⟩ | exact zWV.R (by assumption) _ _) hsn) rfl rfl (Nat.le_of_ble_eq_true rfl) ⟨⟨Nat.le_of_ble_eq_true rfl, Nat.le_of_ble_eq_true rfl⟩, Nat.le_of_ble_eq_true rfl, Nat.le_of_ble_eq_true rfl⟩ ?_
            refine G_nameV (fun V12_206 hV12_206 => ?_)
            have hVV12_206 : zWV Q V12_206 := by rw [hV12_206]; exact zkA_V hP hVT
            have hSa : V12_206 = lp (zsf Q r5) 0 (Q 1 (Q 4 r5 0) 0) (zst D (17, r5, 0, 0) r11 v37) := by rw [hV12_206, zkA_id hJZ.xz]; exact hTz
            rw [hTz] at hJZ
            refine G_aload_n (pc := 209) 0 0 dX7_join_209 rfl rfl ?_
            refine G_getf (pc := 210) fl_X7_10 dX7_join_210 pg_200 rfl ?_
            refine G_iload_n (pc := 213) 1 1 dX7_join_213 rfl rfl ?_
            refine G_iload_n (pc := 214) 2 2 dX7_join_214 rfl rfl ?_
            refine G_iload (pc := 215) 4 dX7_join_215 rfl ?_
            rw [hXD, pm_mm]
            refine G_callV (pc := 217) gk_X7_192 dX7_join_217 mg_0 rfl (c_X6_join (g := r5) (r := r11) (b := v37) hP hg hJD.wv.W (by omega) h37 (by omega)) rfl rfl (Nat.le_of_ble_eq_true rfl) ⟨⟨Nat.le_of_ble_eq_true rfl, Nat.le_of_ble_eq_true rfl⟩, Nat.le_of_ble_eq_true rfl, Nat.le_of_ble_eq_true rfl⟩ (fun vx adx Mx hpo => ?_)
            obtain ⟨rfl, hadx, rfl⟩ := hpo
            rw [hadx]
            rw [← hD23]
            show G Γ _ _ _ _ _ _ (0) (0) 220 [(0, .ref (ad (200, 0, 0, 0))), (1, .int (zI r5)), (2, .int (zI r11)), (3, .int (zI v23)), (4, .int (zI v37)), (5, .int (zI p))] [.int (zI v23)]
            rw [← pm_mm]
            refine G_iload_n (pc := 220) 3 3 dX7_join_220 rfl rfl ?_
            refine G_icmp_ne (pc := 221) 228 dX7_join_221 (by decide) (by first | exact zWV.R (by assumption) _ _ | exact ⟨by omega, by omega⟩ | assumption | (subst_vars; first | exact zWV.R (by assumption) _ _ | exact ⟨by omega, by omega⟩)) (by first | exact zWV.R (by assumption) _ _ | exact ⟨by omega, by omega⟩ | assumption | (subst_vars; first | exact zWV.R (by assumption) _ _ | exact ⟨by omega, by omega⟩)) (fun c221 => ?_) (fun c221 => ?_)
            · exfalso
              exact c221 rfl
            · refine G_iconst (pc := 224) dX7_join_224 ?_
              refine G_goto (pc := 225) 229 dX7_join_225 (by decide) ?_
              exact G_zret (pc := 229) hF dX7_join_229 ⟨Nat.le_of_ble_eq_true rfl, Nat.le_of_ble_eq_true rfl⟩ (by first | exact zb_ite | omega) ⟨rfl, Q, V12_206, ⟨rfl, rfl⟩, by rw [hSa]; rfl, by rw [hSa]; exact hJZ, by rw [hSa, zJn_k ⟨by simp, by simp, by simp, by simp⟩]; omega, by rw [hSa, zJn_k ⟨by simp, by simp, by simp, by simp⟩]; omega, by rw [hSa, zJn_k ⟨by simp, by simp, by simp, by simp⟩]; omega, by rw [hSa, zJn_k ⟨by simp, by simp, by simp, by simp⟩]; omega, by omega, by omega⟩
          · have hp : inQ Q r5 p := ⟨by omega, by omega⟩
            have hM := hP.m hG hp
            have hW5 := hVT.W.m hg hp
            have hzs := zsr_le (P := Q) (S := T) (g := r5) (p := p) (c := -1)
            refine G_aload_n (pc := 75) 0 0 dX7_join_75 rfl rfl ?_
            refine G_iload_n (pc := 76) 1 1 dX7_join_76 rfl rfl ?_
            refine G_aload_n (pc := 77) 0 0 dX7_join_77 rfl rfl ?_
            refine G_getf (pc := 78) fl_X7_65 dX7_join_78 pg_200 rfl ?_
            refine G_iload_n (pc := 81) 1 1 dX7_join_81 rfl rfl ?_
            refine G_aldA (pc := 82) (t := 8) rfl dX7_join_82 pg_220 ⟨by omega, by omega, by omega, by omega⟩ rfl ?_
            refine G_iload (pc := 83) 5 dX7_join_83 rfl ?_
            refine G_callVd (pc := 85) gk_X7_188 dX7_join_85 pg_200 rfl (c_X7_share (by first | assumption | omega | exact ⟨by omega, by omega⟩ | exact ⟨⟨by omega, by omega⟩, by omega⟩ | exact zWV.R (by assumption) _ _) (by first | assumption | omega | exact ⟨by omega, by omega⟩ | exact ⟨⟨by omega, by omega⟩, by omega⟩ | exact zWV.R (by assumption) _ _) (by first | assumption | omega | exact ⟨by omega, by omega⟩ | exact ⟨⟨by omega, by omega⟩, by omega⟩ | exact zWV.R (by assumption) _ _) (by first | assumption | omega | exact ⟨by omega, by omega⟩ | exact ⟨⟨by omega, by omega⟩, by omega⟩ | exact zWV.R (by assumption) _ _)) rfl rfl (Nat.le_of_ble_eq_true rfl) ⟨⟨Nat.le_of_ble_eq_true rfl, Nat.le_of_ble_eq_true rfl⟩, Nat.le_of_ble_eq_true rfl, Nat.le_of_ble_eq_true rfl⟩ ?_
            refine G_istore_e (pc := 88) (fun zw => [(6, .int (zI zw)), (0, .ref (ad (200, 0, 0, 0))), (1, .int (zI r5)), (2, .int (zI r11)), (3, .int (zI v23)), (4, .int (zI v37)), (5, .int (zI p))]) dX7_join_88 (by decide) (fun _ => rfl) (fun v88 e88 => ?_)
            refine G_iload (pc := 90) 0 dX7_join_90 rfl ?_
            refine G_aload_n (pc := 92) 0 1 dX7_join_92 rfl rfl ?_
            refine G_getf (pc := 93) fl_X7_60 dX7_join_93 pg_200 rfl ?_
            refine G_iload_n (pc := 96) 1 2 dX7_join_96 rfl rfl ?_
            refine G_aldA (pc := 97) (t := 5) rfl dX7_join_97 pg_218 ⟨by omega, by omega, by omega, by omega⟩ rfl ?_
            refine G_iload (pc := 98) 6 dX7_join_98 rfl ?_
            refine G_ialdV (pc := 100) (T (18, r5, p, 0) 4) dX7_join_100 (pg_219 (by first | assumption | omega | exact ⟨by omega, by omega⟩ | exact ⟨⟨by omega, by omega⟩, by omega⟩ | exact zWV.R (by assumption) _ _)) ⟨by omega, by omega, by omega, by omega⟩ rfl ?_
            refine G_icmp_ne (pc := 101) 107 dX7_join_101 (by decide) (by first | exact zWV.R (by assumption) _ _ | exact ⟨by omega, by omega⟩ | assumption | (subst_vars; first | exact zWV.R (by assumption) _ _ | exact ⟨by omega, by omega⟩)) (by first | exact zWV.R (by assumption) _ _ | exact ⟨by omega, by omega⟩ | assumption | (subst_vars; first | exact zWV.R (by assumption) _ _ | exact ⟨by omega, by omega⟩)) (fun c101 => ?_) (fun c101 => ?_)
            · have hne : ¬ zsr Q T r5 p (-1) = T (18, r5, p, 0) 4 := by rw [← e88]; omega
              refine G_aload_n (pc := 107) 0 1 dX7_join_107 rfl rfl ?_
              refine G_getf (pc := 108) fl_X7_60 dX7_join_108 pg_200 rfl ?_
              refine G_iload_n (pc := 111) 1 2 dX7_join_111 rfl rfl ?_
              refine G_aldA (pc := 112) (t := 5) rfl dX7_join_112 pg_218 ⟨by omega, by omega, by omega, by omega⟩ rfl ?_
              refine G_iload (pc := 113) 6 dX7_join_113 rfl ?_
              refine G_iload (pc := 115) 0 dX7_join_115 rfl ?_
              refine G_iast (pc := 117) dX7_join_117 (pg_219 (by first | assumption | omega | exact ⟨by omega, by omega⟩ | exact ⟨⟨by omega, by omega⟩, by omega⟩ | exact zWV.R (by assumption) _ _)) ⟨by omega, by omega, by omega, by omega⟩ (pp_219 (by first | assumption | omega | exact ⟨by omega, by omega⟩ | exact ⟨⟨by omega, by omega⟩, by omega⟩ | exact zWV.R (by assumption) _ _)) ?_
              refine G_nameV (fun V13_117 hV13_117 => ?_)
              have hVV13_117 : zWV Q V13_117 := by rw [hV13_117]; exact hVT.s18 ⟨by omega, by omega⟩ (fun q => by omega)
              have hTn : V13_117 = zst T (18, r5, p, 0) 4 v88 := hV13_117
              refine G_aload_n (pc := 118) 0 1 dX7_join_118 rfl rfl ?_
              refine G_getf (pc := 119) fl_X7_25 dX7_join_119 pg_200 rfl ?_
              refine G_aload_n (pc := 122) 0 1 dX7_join_122 rfl rfl ?_
              refine G_getf (pc := 123) fl_X7_51 dX7_join_123 pg_200 rfl ?_
              refine G_iload_n (pc := 126) 1 2 dX7_join_126 rfl rfl ?_
              refine G_ialdV (pc := 127) (Q 4 r5 0) dX7_join_127 pg_213 ⟨by omega, by omega, by omega, by omega⟩ (hVV13_117.of (by first | assumption | omega | exact ⟨by omega, by omega⟩ | exact ⟨⟨by omega, by omega⟩, by omega⟩ | exact zWV.R (by assumption) _ _)) ?_
              refine G_aldA (pc := 128) (t := 7) rfl dX7_join_128 pg_201 ⟨by omega, by omega, by omega, by omega⟩ rfl ?_
              refine G_iload (pc := 129) 6 dX7_join_129 rfl ?_
              refine G_aldA (pc := 131) (t := 6) rfl dX7_join_131 (pg_202 (by first | assumption | omega | exact ⟨by omega, by omega⟩ | exact ⟨⟨by omega, by omega⟩, by omega⟩ | exact zWV.R (by assumption) _ _)) ⟨by omega, by omega, by omega, by omega⟩ rfl ?_
              refine G_astore (pc := 132) [(7, .ref (ad (203, Q 4 r5 0, p, 0))), (6, .int (zI v88)), (0, .ref (ad (200, 0, 0, 0))), (1, .int (zI r5)), (2, .int (zI r11)), (3, .int (zI v23)), (4, .int (zI v37)), (5, .int (zI p))] dX7_join_132 (by decide) rfl ?_
              refine G_aload (pc := 134) 0 dX7_join_134 rfl ?_
              refine G_alenV (pc := 136) (t := 5) (Q 2 (Q 4 r5 0) p) rfl dX7_join_136 (pg_203 (by first | assumption | omega | exact ⟨by omega, by omega⟩ | exact ⟨⟨by omega, by omega⟩, by omega⟩ | exact zWV.R (by assumption) _ _)) (by omega) ?_
              refine G_istore_e (pc := 137) (fun zw => [(8, .int (zI zw)), (7, .ref (ad (203, Q 4 r5 0, p, 0))), (6, .int (zI v88)), (0, .ref (ad (200, 0, 0, 0))), (1, .int (zI r5)), (2, .int (zI r11)), (3, .int (zI v23)), (4, .int (zI v37)), (5, .int (zI p))]) dX7_join_137 (by decide) (fun _ => rfl) (fun v137 e137 => ?_)
              refine G_iconst (pc := 139) dX7_join_139 ?_
              refine G_istore_e (pc := 140) (fun zw => [(9, .int (zI zw)), (8, .int (zI v137)), (7, .ref (ad (203, Q 4 r5 0, p, 0))), (6, .int (zI v88)), (0, .ref (ad (200, 0, 0, 0))), (1, .int (zI r5)), (2, .int (zI r11)), (3, .int (zI v23)), (4, .int (zI v37)), (5, .int (zI p))]) dX7_join_140 (by decide) (fun _ => rfl) (fun v140 e140 => ?_)
              have L142 : ∀ (n : Nat) (o : Int) (T2 : zS), ((0 ≤ o ∧ o ≤ Q 2 (Q 4 r5 0) p) ∧ lp (zh1 r5 p) o (Q 2 (Q 4 r5 0) p) T2 = lp (zh1 r5 p) 0 (Q 2 (Q 4 r5 0) p) V13_117 ∧ zWV Q T2) → (Q 2 (Q 4 r5 0) p - o).toNat < n → G Γ (zRm 10 0 0) cX7_join 11 RX7 ad (pm (z_d Γ) ad Q T2 X) 0 0 142 [(0, .ref (ad (200, 0, 0, 0))), (1, .int (zI r5)), (2, .int (zI r11)), (3, .int (zI v23)), (4, .int (zI v37)), (5, .int (zI p)), (6, .int (zI v88)), (7, .ref (ad (203, Q 4 r5 0, p, 0))), (8, .int (zI v137)), (9, .int (zI o))] [] := by
                intro n
                induction n with
                | zero => intro o T2 _ hn; omega
                | succ n ih142 =>
                  intro o T2 hi142 hn142
                  obtain ⟨ho0, hlo, hVT2⟩ := hi142
                  refine G_iload (pc := 142) 9 dX7_join_142 rfl ?_
                  refine G_iload (pc := 144) 8 dX7_join_144 rfl ?_
                  refine G_icmp_ge (pc := 146) 181 dX7_join_146 (by decide) (by first | exact zWV.R (by assumption) _ _ | exact ⟨by omega, by omega⟩ | assumption | (subst_vars; first | exact zWV.R (by assumption) _ _ | exact ⟨by omega, by omega⟩)) (by first | exact zWV.R (by assumption) _ _ | exact ⟨by omega, by omega⟩ | assumption | (subst_vars; first | exact zWV.R (by assumption) _ _ | exact ⟨by omega, by omega⟩)) (fun c146 => ?_) (fun c146 => ?_)
                  · have hW6 := hVT2.W.m hg hp
                    refine G_aload_n (pc := 181) 0 0 dX7_join_181 rfl rfl ?_
                    refine G_getf (pc := 182) fl_X7_57 dX7_join_182 pg_200 rfl ?_
                    refine G_iload_n (pc := 185) 1 1 dX7_join_185 rfl rfl ?_
                    refine G_aldA (pc := 186) (t := 5) rfl dX7_join_186 pg_216 ⟨by omega, by omega, by omega, by omega⟩ rfl ?_
                    refine G_iload (pc := 187) 5 dX7_join_187 rfl ?_
                    refine G_aload_n (pc := 189) 0 0 dX7_join_189 rfl rfl ?_
                    refine G_getf (pc := 190) fl_X7_54 dX7_join_190 pg_200 rfl ?_
                    refine G_iload_n (pc := 193) 1 1 dX7_join_193 rfl rfl ?_
                    refine G_aldA (pc := 194) (t := 5) rfl dX7_join_194 pg_214 ⟨by omega, by omega, by omega, by omega⟩ rfl ?_
                    refine G_iload (pc := 195) 5 dX7_join_195 rfl ?_
                    refine G_ialdV (pc := 197) (T2 (18, r5, p, 0) 5) dX7_join_197 (pg_215 (by first | assumption | omega | exact ⟨by omega, by omega⟩ | exact ⟨⟨by omega, by omega⟩, by omega⟩ | exact zWV.R (by assumption) _ _)) ⟨by omega, by omega, by omega, by omega⟩ rfl ?_
                    refine G_iast (pc := 198) dX7_join_198 (pg_217 (by first | assumption | omega | exact ⟨by omega, by omega⟩ | exact ⟨⟨by omega, by omega⟩, by omega⟩ | exact zWV.R (by assumption) _ _)) ⟨by omega, by omega, by omega, by omega⟩ (pp_217 (by first | assumption | omega | exact ⟨by omega, by omega⟩ | exact ⟨⟨by omega, by omega⟩, by omega⟩ | exact zWV.R (by assumption) _ _)) ?_
                    refine G_nameV (fun V14_198 hV14_198 => ?_)
                    have hVV14_198 : zWV Q V14_198 := by rw [hV14_198]; exact hVT2.s18 ⟨by omega, by omega⟩ (fun _ _ _ => by omega)
                    have hzf : zsf Q r5 p T = V14_198 := by
                      unfold zsf zht
                      first
                      | (rw [if_pos (by rw [← e88]; omega)]; done)
                      | (rw [if_neg hne, hV14_198]; have hl := hlo; rw [lp_end (by omega)] at hl; rw [hl, hTn, e88])
                    refine G_iinc_e (pc := 199) 5 (fun zw => [(5, .int (zI zw)), (0, .ref (ad (200, 0, 0, 0))), (1, .int (zI r5)), (2, .int (zI r11)), (3, .int (zI v23)), (4, .int (zI v37)), (6, .int (zI v88)), (7, .ref (ad (203, Q 4 r5 0, p, 0))), (8, .int (zI v137)), (9, .int (zI o))]) dX7_join_199 rfl (by decide) (fun _ => rfl) (fun v199 e199 => ?_)
                    refine G_goto (pc := 202) 52 dX7_join_202 (by decide) ?_
                    refine G_perm (lv' := [(0, .ref (ad (200, 0, 0, 0))), (1, .int (zI r5)), (2, .int (zI r11)), (3, .int (zI v23)), (4, .int (zI v37)), (5, .int (zI v199))]) [1, 2, 3, 4, 5, 0] rfl ?_
                    exact ih52 v199 V14_198 ⟨by omega, by rw [e199, ← hlp, lp_step (a := p) (n := Q 1 (Q 4 r5 0) 0) (by omega)]; rw [show zsf Q r5 p T = V14_198 from hzf], by assumption, fun q => by omega⟩ (by omega)
                  · refine G_aload (pc := 149) 7 dX7_join_149 rfl ?_
                    refine G_iload (pc := 151) 9 dX7_join_151 rfl ?_
                    refine G_aldA (pc := 153) (t := 5) rfl dX7_join_153 (pg_203 (by first | assumption | omega | exact ⟨by omega, by omega⟩ | exact ⟨⟨by omega, by omega⟩, by omega⟩ | exact zWV.R (by assumption) _ _)) ⟨by omega, by omega, by omega, by omega⟩ rfl ?_
                    refine G_astore (pc := 154) [(10, .ref (ad (204, Q 4 r5 0, p, o))), (0, .ref (ad (200, 0, 0, 0))), (1, .int (zI r5)), (2, .int (zI r11)), (3, .int (zI v23)), (4, .int (zI v37)), (5, .int (zI p)), (6, .int (zI v88)), (7, .ref (ad (203, Q 4 r5 0, p, 0))), (8, .int (zI v137)), (9, .int (zI o))] dX7_join_154 (by decide) rfl ?_
                    refine G_aload (pc := 156) 0 dX7_join_156 rfl ?_
                    refine G_iconst (pc := 158) dX7_join_158 ?_
                    refine G_iconst (pc := 159) dX7_join_159 ?_
                    refine G_iload_n (pc := 160) 1 2 dX7_join_160 rfl rfl ?_
                    refine G_imul (pc := 161) dX7_join_161 ?_
                    refine G_iadd (pc := 162) dX7_join_162 ?_
                    refine G_ialdV (pc := 163) (T2 (19, r5, p, 0) o) dX7_join_163 (pg_204 (by first | assumption | omega | exact ⟨by omega, by omega⟩ | exact ⟨⟨by omega, by omega⟩, by omega⟩ | exact zWV.R (by assumption) _ _)) ⟨by omega, by omega, by omega, by omega⟩ (zpr_5 (by first | assumption | omega | exact ⟨by omega, by omega⟩ | exact ⟨⟨by omega, by omega⟩, by omega⟩ | exact zWV.R (by assumption) _ _) rfl) ?_
                    refine G_iconst (pc := 164) dX7_join_164 ?_
                    refine G_icmp_ne (pc := 165) 175 dX7_join_165 (by decide) (by first | exact zWV.R (by assumption) _ _ | exact ⟨by omega, by omega⟩ | assumption | (subst_vars; first | exact zWV.R (by assumption) _ _ | exact ⟨by omega, by omega⟩)) (by first | exact zWV.R (by assumption) _ _ | exact ⟨by omega, by omega⟩ | assumption | (subst_vars; first | exact zWV.R (by assumption) _ _ | exact ⟨by omega, by omega⟩)) (fun c165 => ?_) (fun c165 => ?_)
                    · refine G_iinc_e (pc := 175) 10 (fun zw => [(9, .int (zI zw)), (10, .ref (ad (204, Q 4 r5 0, p, o))), (0, .ref (ad (200, 0, 0, 0))), (1, .int (zI r5)), (2, .int (zI r11)), (3, .int (zI v23)), (4, .int (zI v37)), (5, .int (zI p)), (6, .int (zI v88)), (7, .ref (ad (203, Q 4 r5 0, p, 0))), (8, .int (zI v137))]) dX7_join_175 rfl (by decide) (fun _ => rfl) (fun v175 e175 => ?_)
                      refine G_goto (pc := 178) 142 dX7_join_178 (by decide) ?_
                      refine G_perm (lv' := [(0, .ref (ad (200, 0, 0, 0))), (1, .int (zI r5)), (2, .int (zI r11)), (3, .int (zI v23)), (4, .int (zI v37)), (5, .int (zI p)), (6, .int (zI v88)), (7, .ref (ad (203, Q 4 r5 0, p, 0))), (8, .int (zI v137)), (9, .int (zI v175))]) [2, 3, 4, 5, 6, 7, 8, 9, 10, 0] rfl ?_
                      exact ih142 v175 T2 ⟨by omega, by rw [e175, ← hlo, lp_step (a := o) (n := Q 2 (Q 4 r5 0) p) (by omega)]; rw [show zh1 r5 p o T2 = T2 from by first | (rw [hT2]; exact if_pos (by omega)) | exact if_neg (by omega)], by assumption⟩ (by omega)
                    · refine G_aload_n (pc := 168) 0 1 dX7_join_168 rfl rfl ?_
                      refine G_aload (pc := 169) 0 dX7_join_169 rfl ?_
                      refine G_iload_n (pc := 171) 1 2 dX7_join_171 rfl rfl ?_
                      refine G_callVv (pc := 172) gk_X7_145 dX7_join_172 pg_200 rfl (c_X7_forget (by first | assumption | omega | exact ⟨by omega, by omega⟩ | exact ⟨⟨by omega, by omega⟩, by omega⟩ | exact zWV.R (by assumption) _ _) (by first | assumption | omega | exact ⟨by omega, by omega⟩ | exact ⟨⟨by omega, by omega⟩, by omega⟩ | exact zWV.R (by assumption) _ _) (by first | assumption | omega | exact ⟨by omega, by omega⟩ | exact ⟨⟨by omega, by omega⟩, by omega⟩ | exact zWV.R (by assumption) _ _) (by first | assumption | omega | exact ⟨by omega, by omega⟩ | exact ⟨⟨by omega, by omega⟩, by omega⟩ | exact zWV.R (by assumption) _ _) (by first | assumption | omega | exact ⟨by omega, by omega⟩ | exact ⟨⟨by omega, by omega⟩, by omega⟩ | exact zWV.R (by assumption) _ _) (by first | assumption | omega | exact ⟨by omega, by omega⟩ | exact ⟨⟨by omega, by omega⟩, by omega⟩ | exact zWV.R (by assumption) _ _) rfl) rfl rfl (Nat.le_of_ble_eq_true rfl) ⟨⟨Nat.le_of_ble_eq_true rfl, Nat.le_of_ble_eq_true rfl⟩, Nat.le_of_ble_eq_true rfl, Nat.le_of_ble_eq_true rfl⟩ ?_
                      refine G_nameV (fun V15_172 hV15_172 => ?_)
                      have hVV15_172 : zWV Q V15_172 := by rw [hV15_172]; exact zfg_V hVT2
                      refine G_iinc_e (pc := 175) 10 (fun zw => [(9, .int (zI zw)), (10, .ref (ad (204, Q 4 r5 0, p, o))), (0, .ref (ad (200, 0, 0, 0))), (1, .int (zI r5)), (2, .int (zI r11)), (3, .int (zI v23)), (4, .int (zI v37)), (5, .int (zI p)), (6, .int (zI v88)), (7, .ref (ad (203, Q 4 r5 0, p, 0))), (8, .int (zI v137))]) dX7_join_175 rfl (by decide) (fun _ => rfl) (fun v175 e175 => ?_)
                      refine G_goto (pc := 178) 142 dX7_join_178 (by decide) ?_
                      refine G_perm (lv' := [(0, .ref (ad (200, 0, 0, 0))), (1, .int (zI r5)), (2, .int (zI r11)), (3, .int (zI v23)), (4, .int (zI v37)), (5, .int (zI p)), (6, .int (zI v88)), (7, .ref (ad (203, Q 4 r5 0, p, 0))), (8, .int (zI v137)), (9, .int (zI v175))]) [2, 3, 4, 5, 6, 7, 8, 9, 10, 0] rfl ?_
                      exact ih142 v175 V15_172 ⟨by omega, by rw [e175, ← hlo, lp_step (a := o) (n := Q 2 (Q 4 r5 0) p) (by omega)]; rw [show zh1 r5 p o T2 = V15_172 from by first | (rw [hV15_172]; exact if_pos (by omega)) | exact if_neg (by omega)], by assumption⟩ (by omega)
              refine G_perm (lv' := [(0, .ref (ad (200, 0, 0, 0))), (1, .int (zI r5)), (2, .int (zI r11)), (3, .int (zI v23)), (4, .int (zI v37)), (5, .int (zI p)), (6, .int (zI v88)), (7, .ref (ad (203, Q 4 r5 0, p, 0))), (8, .int (zI v137)), (9, .int (zI v140))]) [4, 5, 6, 7, 8, 9, 3, 2, 1, 0] rfl ?_
              exact L142 _ v140 V13_117 ⟨by omega, by rw [e140], by assumption⟩ (Nat.lt_succ_self _)
            · refine G_goto (pc := 104) 199 dX7_join_104 (by decide) ?_
              have hzf : zsf Q r5 p T = T := by
                unfold zsf zht
                first
                | (rw [if_pos (by rw [← e88]; omega)]; done)
                | (rw [if_neg hne, hT]; have hl := hlo; rw [lp_end (by omega)] at hl; rw [hl, hTn, e88])
              refine G_iinc_e (pc := 199) 6 (fun zw => [(5, .int (zI zw)), (6, .int (zI v88)), (0, .ref (ad (200, 0, 0, 0))), (1, .int (zI r5)), (2, .int (zI r11)), (3, .int (zI v23)), (4, .int (zI v37))]) dX7_join_199 rfl (by decide) (fun _ => rfl) (fun v199 e199 => ?_)
              refine G_goto (pc := 202) 52 dX7_join_202 (by decide) ?_
              refine G_perm (lv' := [(0, .ref (ad (200, 0, 0, 0))), (1, .int (zI r5)), (2, .int (zI r11)), (3, .int (zI v23)), (4, .int (zI v37)), (5, .int (zI v199))]) [2, 3, 4, 5, 6, 0] rfl ?_
              exact ih52 v199 T ⟨by omega, by rw [e199, ← hlp, lp_step (a := p) (n := Q 1 (Q 4 r5 0) 0) (by omega)]; rw [show zsf Q r5 p T = T from hzf], by assumption, fun q => by omega⟩ (by omega)
    refine G_perm (lv' := [(0, .ref (ad (200, 0, 0, 0))), (1, .int (zI r5)), (2, .int (zI r11)), (3, .int (zI v23)), (4, .int (zI v37)), (5, .int (zI v50))]) [5, 4, 3, 2, 1, 0] rfl ?_
    exact L52 _ v50 V10_48 ⟨by omega, by rw [e50], by assumption, fun _ => rfl⟩ (Nat.lt_succ_self _)
