/-! ===== write and nack where they cost less; what nacks keep ===== -/
theorem G_dup_x2 {Γ : zCx} {R : Room} {cc : ByteArray} {nL : Nat} {own : String} {ad : zK → Nat} {M : zMem} {nc ns pc : Nat} {lv : List (Nat × Value)} {st : List Value} {va vb vd : Value} (hd : decode cc pc = .ok (.dup_x2, 1)) (ha : va.category = 1) (hb : vb.category = 1) (hc : vd.category = 1) (kk : G Γ R cc nL own ad M nc ns (pc + 1) lv (va :: vb :: vd :: va :: st)) : G Γ R cc nL own ad M nc ns pc lv (va :: vb :: vd :: st) := fun C H locs ls h1 h2 h3 h4 => lv_dup_x2 C.1 C.2.1 hd ha hb hc (kk C H locs ls h1 h2 h3 h4)
set_option maxHeartbeats 4000000 in
set_option maxRecDepth 100000 in
theorem c_X7_write_f {l : Launch} {Δ : zDl} {ad : zK → Nat} {Q : zP} {V : zS} {X : zMem} {s g p o : Int} (hV : zWV Q V) (hfull : 200 ≤ V (1, 0, 0, 0) 1) (hX : X (230, 0, 0, 0) = none ∧ X (231, 0, 0, 0) = none) : zMn l Δ yX7_write cX7_write 6 none 4 1 5 [.ref (ad (200, 0, 0, 0)), .int (zI s), .int (zI g), .int (zI p), .int (zI o)] ad (pm Δ ad Q V X) (zPwr Δ ad Q (zlw V s g p o (V (0, 0, 0, 0) 6)) X) := by
  refine zMn_of (by decide) (Nat.le_of_ble_eq_true rfl) (fun Γ hl hΔ hF => ?_)
  subst hl hΔ
  show G Γ _ _ _ RX7 _ _ _ _ _ [(0, .ref (ad (200, 0, 0, 0))), (1, .int (zI s)), (2, .int (zI g)), (3, .int (zI p)), (4, .int (zI o))] []
  have hL := hV.W.l
  refine G_iconst (pc := 0) dX7_write_0 ?_
  refine G_rI (pc := 1) (N := 5) (230, 0, 0, 0) dX7_write_1 ((pm_out _ (by decide)).trans hX.1) rfl ⟨by omega, by omega⟩ ⟨Nat.le_of_ble_eq_true rfl, Nat.le_of_ble_eq_true rfl⟩ (fun ad1 had1 => ?_)
  show G Γ _ _ _ _ _ _ 1 5 _ _ _
  have h1lt : ∀ k : zK, k.1 < 224 → ad1 k = ad k := fun k hk => had1 k (fun q => by rw [q] at hk; exact absurd hk (by decide))
  rw [← h1lt (200, 0, 0, 0) (by decide), ← pm_ad h1lt, pm_up (by decide)]
  have tg : ∀ F : Int → Int, pm (z_d Γ) ad1 Q V (zup1 X (230, 0, 0, 0) (some (.inl ((z_d Γ).2.1 0, 5, .inl (zAi F))))) (230, 0, 0, 0) = some (.inl ((z_d Γ).2.1 0, 5, .inl (zAi F))) := fun F => (pm_out _ (by decide)).trans (zup1_s _ _ _)
  have tp : ∀ F F' : Int → Int, zup1 (pm (z_d Γ) ad1 Q V (zup1 X (230, 0, 0, 0) (some (.inl ((z_d Γ).2.1 0, 5, .inl (zAi F)))))) (230, 0, 0, 0) (some (.inl ((z_d Γ).2.1 0, 5, .inl (zAi F')))) = pm (z_d Γ) ad1 Q V (zup1 X (230, 0, 0, 0) (some (.inl ((z_d Γ).2.1 0, 5, .inl (zAi F'))))) := fun F F' => by rw [pm_up (by decide), zup1_2]
  refine G_dup (pc := 3) dX7_write_3 rfl ?_
  refine G_iconst (pc := 4) dX7_write_4 ?_
  refine G_iload_n (pc := 5) 1 1 dX7_write_5 rfl rfl ?_
  refine G_iast (pc := 6) dX7_write_6 (tg _) ⟨by omega, by omega, by omega, by omega⟩ (tp _ _) ?_
  refine G_dup (pc := 7) dX7_write_7 rfl ?_
  refine G_iconst (pc := 8) dX7_write_8 ?_
  refine G_iload_n (pc := 9) 2 2 dX7_write_9 rfl rfl ?_
  refine G_iast (pc := 10) dX7_write_10 (tg _) ⟨by omega, by omega, by omega, by omega⟩ (tp _ _) ?_
  refine G_dup (pc := 11) dX7_write_11 rfl ?_
  refine G_iconst (pc := 12) dX7_write_12 ?_
  refine G_iload_n (pc := 13) 3 3 dX7_write_13 rfl rfl ?_
  refine G_iast (pc := 14) dX7_write_14 (tg _) ⟨by omega, by omega, by omega, by omega⟩ (tp _ _) ?_
  refine G_dup (pc := 15) dX7_write_15 rfl ?_
  refine G_iconst (pc := 16) dX7_write_16 ?_
  refine G_iload (pc := 17) 4 dX7_write_17 rfl ?_
  refine G_iast (pc := 19) dX7_write_19 (tg _) ⟨by omega, by omega, by omega, by omega⟩ (tp _ _) ?_
  refine G_dup (pc := 20) dX7_write_20 rfl ?_
  refine G_iconst (pc := 21) dX7_write_21 ?_
  refine G_aload_n (pc := 22) 0 0 dX7_write_22 rfl rfl ?_
  refine G_getf (pc := 23) fl_X7_119 dX7_write_23 pg_200 rfl ?_
  refine G_iast (pc := 26) dX7_write_26 (tg _) ⟨by omega, by omega, by omega, by omega⟩ (tp _ _) ?_
  refine G_astore (pc := 27) [(5, .ref (ad1 (230, 0, 0, 0))), (0, .ref (ad1 (200, 0, 0, 0))), (1, .int (zI s)), (2, .int (zI g)), (3, .int (zI p)), (4, .int (zI o))] dX7_write_27 (by decide) rfl ?_
  generalize hF5 : zup (zup (zup (zup (zup (fun _ => 0) 0 s) 1 g) 2 p) 3 o) 4 (V (0, 0, 0, 0) 6) = F5
  refine G_aload_n (pc := 29) 0 1 dX7_write_29 rfl rfl ?_
  refine G_getf (pc := 30) fl_X7_69 dX7_write_30 pg_200 rfl ?_
  refine G_alenV (pc := 33) (t := 5) (V (1, 0, 0, 0) 1) rfl dX7_write_33 pg_222 (by omega) ?_
  refine G_sipush (pc := 34) dX7_write_34 (by decide) ?_
  refine G_icmp_ge (pc := 37) 53 dX7_write_37 (by decide) ⟨by omega, by omega⟩ ⟨by omega, by omega⟩ (fun c37 => ?_) (fun c37 => ?_)
  · have e : zlw V s g p o (V (0, 0, 0, 0) 6) = V := if_pos c37
    refine G_mono (ad' := ad1) (M' := pm (z_d Γ) ad1 Q V X) (fun k x h => ⟨?_, rfl⟩) ?_
    · by_cases hk : k = (230, 0, 0, 0)
      · rw [hk, pm_out _ (by decide), hX.1] at h
        cases h
      · rw [← pm_up (by decide), zup1_n _ _ hk]
        exact h
    · exact G_vret (pc := 53) hF dX7_write_53 ⟨Nat.le_of_ble_eq_true rfl, Nat.le_of_ble_eq_true rfl⟩ ⟨rfl, fun k _ _ h3 _ => had1 k (fun q => h3 (by rw [q])), by rw [e]⟩
  · exact absurd hfull c37
set_option maxHeartbeats 4000000 in
set_option maxRecDepth 100000 in
theorem c_X7_nack_a {l : Launch} {Δ : zDl} {ad : zK → Nat} {Q : zP} {V : zS} {X : zMem} {g p o : Int} (hP : zWP Q) (hV : zWV Q V) (hg : 0 ≤ g ∧ g < Q 3 0 0) (hp : 0 ≤ p ∧ p < Q 1 (Q 4 g 0) 0) (ho : 0 ≤ o ∧ o < Q 2 (Q 4 g 0) p) (h1 : 1 ≤ V (20, g, p, 0) o) (hX : X (230, 0, 0, 0) = none ∧ X (231, 0, 0, 0) = none) (hfull : 200 ≤ V (1, 0, 0, 0) 1) : zMn l Δ yX7_nack cX7_nack 5 (some .int) 5 2 10 [.ref (ad (200, 0, 0, 0)), .int (zI g), .int (zI p), .int (zI o)] ad (pm Δ ad Q V X) (zPwn Δ ad Q (zgbr V g p o (V (0, 0, 0, 0) 6) (V (0, 0, 0, 0) 7)) (zB V g p o) X) := by
  refine zMn_of (by decide) (Nat.le_of_ble_eq_true rfl) (fun Γ hl hΔ hF => ?_)
  subst hl hΔ
  show G Γ _ _ _ RX7 _ _ _ _ _ [(0, .ref (ad (200, 0, 0, 0))), (1, .int (zI g)), (2, .int (zI p)), (3, .int (zI o))] []
  have hG := hP.g hg
  have hM := hP.m hG hp
  have hN := hP.t hG
  have hq := hP.n
  have hW5 := hV.W.m hg hp
  have hc := hV.W.c g p o
  have hk := hV.W.k
  refine G_aload_n (pc := 0) 0 0 dX7_nack_0 rfl rfl ?_
  refine G_getf (pc := 1) fl_X7_25 dX7_nack_1 pg_200 rfl ?_
  refine G_aload_n (pc := 4) 0 0 dX7_nack_4 rfl rfl ?_
  refine G_getf (pc := 5) fl_X7_51 dX7_nack_5 pg_200 rfl ?_
  refine G_iload_n (pc := 8) 1 1 dX7_nack_8 rfl rfl ?_
  refine G_ialdV (pc := 9) (Q 4 g 0) dX7_nack_9 pg_213 ⟨by omega, by omega, by omega, by omega⟩ (hV.of (by first | assumption | omega | exact ⟨by omega, by omega⟩ | exact ⟨⟨by omega, by omega⟩, by omega⟩ | exact zWV.R (by assumption) _ _)) ?_
  refine G_aldA (pc := 10) (t := 7) rfl dX7_nack_10 pg_201 ⟨by omega, by omega, by omega, by omega⟩ rfl ?_
  refine G_iload_n (pc := 11) 2 2 dX7_nack_11 rfl rfl ?_
  refine G_aldA (pc := 12) (t := 6) rfl dX7_nack_12 (pg_202 (by first | assumption | omega | exact ⟨by omega, by omega⟩ | exact ⟨⟨by omega, by omega⟩, by omega⟩ | exact zWV.R (by assumption) _ _)) ⟨by omega, by omega, by omega, by omega⟩ rfl ?_
  refine G_iload_n (pc := 13) 3 3 dX7_nack_13 rfl rfl ?_
  refine G_aldA (pc := 14) (t := 5) rfl dX7_nack_14 (pg_203 (by first | assumption | omega | exact ⟨by omega, by omega⟩ | exact ⟨⟨by omega, by omega⟩, by omega⟩ | exact zWV.R (by assumption) _ _)) ⟨by omega, by omega, by omega, by omega⟩ rfl ?_
  refine G_astore (pc := 15) [(4, .ref (ad (204, Q 4 g 0, p, o))), (0, .ref (ad (200, 0, 0, 0))), (1, .int (zI g)), (2, .int (zI p)), (3, .int (zI o))] dX7_nack_15 (by decide) rfl ?_
  refine G_aload_n (pc := 17) 0 1 dX7_nack_17 rfl rfl ?_
  refine G_iconst (pc := 18) dX7_nack_18 ?_
  refine G_iload_n (pc := 19) 1 2 dX7_nack_19 rfl rfl ?_
  refine G_iload_n (pc := 20) 2 3 dX7_nack_20 rfl rfl ?_
  refine G_iload_n (pc := 21) 3 4 dX7_nack_21 rfl rfl ?_
  refine G_callV (pc := 22) gk_X7_168 dX7_nack_22 pg_200 rfl (c_X7_write_f (s := 2) (g := g) (p := p) (o := o) hV (by assumption) (by assumption)) rfl rfl (Nat.le_of_ble_eq_true rfl) ⟨⟨(by exact Nat.le_of_ble_eq_true rfl), (by exact Nat.le_of_ble_eq_true rfl)⟩, (by exact Nat.le_of_ble_eq_true rfl), (by exact Nat.le_of_ble_eq_true rfl)⟩ (fun vx ad1 Mx hpo => ?_)
  obtain ⟨rfl, had1, rfl⟩ := hpo
  show G Γ _ _ _ _ _ _ (1) (5) 25 [(4, .ref (ad (204, Q 4 g 0, p, o))), (0, .ref (ad (200, 0, 0, 0))), (1, .int (zI g)), (2, .int (zI p)), (3, .int (zI o))] []
  rw [← had1 (204, Q 4 g 0, p, o) (by simp) (by simp) (by simp) (by simp)]
  rw [← had1 (200, 0, 0, 0) (by simp) (by simp) (by simp) (by simp)]
  refine G_nameV (fun V1_22 hV1_22 => ?_)
  have hVV1_22 : zWV Q V1_22 := by rw [hV1_22]; exact hV.lw (by first | assumption | exact ⟨by omega, by omega⟩ | exact zWV.R (by assumption) _ _) (by first | assumption | exact ⟨by omega, by omega⟩ | exact zWV.R (by assumption) _ _) (by first | assumption | exact ⟨by omega, by omega⟩ | exact zWV.R (by assumption) _ _) (by first | assumption | exact ⟨by omega, by omega⟩ | exact zWV.R (by assumption) _ _) (by first | assumption | exact ⟨by omega, by omega⟩ | exact zWV.R (by assumption) _ _)
  have h20 : V1_22 (20, g, p, 0) o = V (20, g, p, 0) o := by rw [hV1_22]; exact zlw_k ⟨by simp, by simp⟩
  have h0 : ∀ f, V1_22 (0, 0, 0, 0) f = V (0, 0, 0, 0) f := fun f => by rw [hV1_22]; exact zlw_k ⟨by simp, by simp⟩
  have h06 := h0 6
  have h07 := h0 7
  refine G_aload (pc := 25) 0 dX7_nack_25 rfl ?_
  refine G_bipush (pc := 27) dX7_nack_27 (by decide) ?_
  refine G_iconst (pc := 29) dX7_nack_29 ?_
  refine G_iload_n (pc := 30) 1 2 dX7_nack_30 rfl rfl ?_
  refine G_imul (pc := 31) dX7_nack_31 ?_
  refine G_iadd (pc := 32) dX7_nack_32 ?_
  refine G_ialdV (pc := 33) (V1_22 (20, g, p, 0) o) dX7_nack_33 (pg_204 (by first | assumption | omega | exact ⟨by omega, by omega⟩ | exact ⟨⟨by omega, by omega⟩, by omega⟩ | exact zWV.R (by assumption) _ _)) ⟨by omega, by omega, by omega, by omega⟩ (zpr_6 (by first | assumption | omega | exact ⟨by omega, by omega⟩ | exact ⟨⟨by omega, by omega⟩, by omega⟩ | exact zWV.R (by assumption) _ _) rfl) ?_
  refine G_iconst (pc := 34) dX7_nack_34 ?_
  refine G_icmp_le (pc := 35) 57 dX7_nack_35 (by decide) (by first | exact zWV.R (by assumption) _ _ | exact ⟨by omega, by omega⟩ | assumption) (by first | exact zWV.R (by assumption) _ _ | exact ⟨by omega, by omega⟩ | assumption) (fun c35 => ?_) (fun c35 => ?_)
  · refine G_aload (pc := 57) 0 dX7_nack_57 rfl ?_
    refine G_iconst (pc := 59) dX7_nack_59 ?_
    refine G_iconst (pc := 60) dX7_nack_60 ?_
    refine G_iload_n (pc := 61) 1 2 dX7_nack_61 rfl rfl ?_
    refine G_imul (pc := 62) dX7_nack_62 ?_
    refine G_iadd (pc := 63) dX7_nack_63 ?_
    refine G_iconst (pc := 64) dX7_nack_64 ?_
    refine G_iast (pc := 65) dX7_nack_65 (pg_204 (by first | assumption | omega | exact ⟨by omega, by omega⟩ | exact ⟨⟨by omega, by omega⟩, by omega⟩ | exact zWV.R (by assumption) _ _)) ⟨by omega, by omega, by omega, by omega⟩ (pp_204_5 (by first | assumption | omega | exact ⟨by omega, by omega⟩ | exact ⟨⟨by omega, by omega⟩, by omega⟩ | exact zWV.R (by assumption) _ _) (by first | assumption | omega | exact ⟨by omega, by omega⟩ | exact ⟨⟨by omega, by omega⟩, by omega⟩ | exact zWV.R (by assumption) _ _) rfl) ?_
    refine G_nameV (fun V2_65 hV2_65 => ?_)
    have hVV2_65 : zWV Q V2_65 := by rw [hV2_65]; exact hVV1_22.s19 ⟨by omega, by omega⟩ (by first | assumption | omega | exact fun q => by omega)
    have h206 : V2_65 (20, g, p, 0) o = V1_22 (20, g, p, 0) o := by rw [hV2_65, zst_k _ _ _ _ (by simp)]
    have h066 : V2_65 (0, 0, 0, 0) 6 = V1_22 (0, 0, 0, 0) 6 := by rw [hV2_65, zst_k _ _ _ _ (by simp)]
    have h077 : V2_65 (0, 0, 0, 0) 7 = V1_22 (0, 0, 0, 0) 7 := by rw [hV2_65, zst_k _ _ _ _ (by simp)]
    refine G_aload (pc := 66) 0 dX7_nack_66 rfl ?_
    refine G_bipush (pc := 68) dX7_nack_68 (by decide) ?_
    refine G_iconst (pc := 70) dX7_nack_70 ?_
    refine G_iload_n (pc := 71) 1 2 dX7_nack_71 rfl rfl ?_
    refine G_imul (pc := 72) dX7_nack_72 ?_
    refine G_iadd (pc := 73) dX7_nack_73 ?_
    refine G_aload_n (pc := 74) 0 1 dX7_nack_74 rfl rfl ?_
    refine G_getf (pc := 75) fl_X7_119 dX7_nack_75 pg_200 rfl ?_
    refine G_aload (pc := 78) 0 dX7_nack_78 rfl ?_
    refine G_bipush (pc := 80) dX7_nack_80 (by decide) ?_
    refine G_iconst (pc := 82) dX7_nack_82 ?_
    refine G_iload_n (pc := 83) 1 2 dX7_nack_83 rfl rfl ?_
    refine G_imul (pc := 84) dX7_nack_84 ?_
    refine G_iadd (pc := 85) dX7_nack_85 ?_
    refine G_ialdV (pc := 86) (V2_65 (20, g, p, 0) o) dX7_nack_86 (pg_204 (by first | assumption | omega | exact ⟨by omega, by omega⟩ | exact ⟨⟨by omega, by omega⟩, by omega⟩ | exact zWV.R (by assumption) _ _)) ⟨by omega, by omega, by omega, by omega⟩ (zpr_6 (by first | assumption | omega | exact ⟨by omega, by omega⟩ | exact ⟨⟨by omega, by omega⟩, by omega⟩ | exact zWV.R (by assumption) _ _) rfl) ?_
    refine G_iconst (pc := 87) dX7_nack_87 ?_
    refine G_icmp_ne (pc := 88) 98 dX7_nack_88 (by decide) (by first | exact zWV.R (by assumption) _ _ | exact ⟨by omega, by omega⟩ | assumption) (by first | exact zWV.R (by assumption) _ _ | exact ⟨by omega, by omega⟩ | assumption) (fun c88 => ?_) (fun c88 => ?_)
    · refine G_iconst (pc := 98) dX7_nack_98 ?_
      refine G_aload_n (pc := 99) 0 1 dX7_nack_99 rfl rfl ?_
      refine G_getf (pc := 100) fl_X7_16 dX7_nack_100 pg_200 rfl ?_
      refine G_imul (pc := 103) dX7_nack_103 ?_
      refine G_iadd (pc := 104) dX7_nack_104 ?_
      refine G_iast (pc := 105) dX7_nack_105 (pg_204 (by first | assumption | omega | exact ⟨by omega, by omega⟩ | exact ⟨⟨by omega, by omega⟩, by omega⟩ | exact zWV.R (by assumption) _ _)) ⟨by omega, by omega, by omega, by omega⟩ (pp_204_7 (by first | assumption | omega | exact ⟨by omega, by omega⟩ | exact ⟨⟨by omega, by omega⟩, by omega⟩ | exact zWV.R (by assumption) _ _) (by first | assumption | omega | exact ⟨by omega, by omega⟩ | exact ⟨⟨by omega, by omega⟩, by omega⟩ | exact zWV.R (by assumption) _ _) rfl) ?_
      refine G_nameV (fun V3_105 hV3_105 => ?_)
      have hVV3_105 : zWV Q V3_105 := by rw [hV3_105]; exact hVV2_65.s21 (by first | assumption | omega)
      have hz : V3_105 (21, g, p, 0) o = zgbr V g p o (V (0, 0, 0, 0) 6) (V (0, 0, 0, 0) 7) := by rw [hV3_105, zst_s, zgbr_lt (by omega), h066, h06, h077, h07]; unfold zsh; split <;> omega
      have hB : V3_105 = zB V g p o := by rw [hV3_105, zB_lt (by omega), h066, h06, h077, h07, hV2_65, hV1_22]; congr 1; unfold zsh; split <;> omega
      refine G_aload (pc := 106) 0 dX7_nack_106 rfl ?_
      refine G_bipush (pc := 108) dX7_nack_108 (by decide) ?_
      refine G_iconst (pc := 110) dX7_nack_110 ?_
      refine G_iload_n (pc := 111) 1 2 dX7_nack_111 rfl rfl ?_
      refine G_imul (pc := 112) dX7_nack_112 ?_
      refine G_iadd (pc := 113) dX7_nack_113 ?_
      refine G_ialdV (pc := 114) (V3_105 (21, g, p, 0) o) dX7_nack_114 (pg_204 (by first | assumption | omega | exact ⟨by omega, by omega⟩ | exact ⟨⟨by omega, by omega⟩, by omega⟩ | exact zWV.R (by assumption) _ _)) ⟨by omega, by omega, by omega, by omega⟩ (zpr_7 (by first | assumption | omega | exact ⟨by omega, by omega⟩ | exact ⟨⟨by omega, by omega⟩, by omega⟩ | exact zWV.R (by assumption) _ _) rfl) ?_
      exact G_iret (pc := 115) hF dX7_nack_115 ⟨Nat.le_of_ble_eq_true rfl, Nat.le_of_ble_eq_true rfl⟩ ⟨by rw [hz], fun k a b c d => had1 k a b c d, by rw [hB]⟩
    · refine G_aload_n (pc := 91) 0 1 dX7_nack_91 rfl rfl ?_
      refine G_getf (pc := 92) fl_X7_16 dX7_nack_92 pg_200 rfl ?_
      refine G_goto (pc := 95) 104 dX7_nack_95 (by decide) ?_
      refine G_iadd (pc := 104) dX7_nack_104 ?_
      refine G_iast (pc := 105) dX7_nack_105 (pg_204 (by first | assumption | omega | exact ⟨by omega, by omega⟩ | exact ⟨⟨by omega, by omega⟩, by omega⟩ | exact zWV.R (by assumption) _ _)) ⟨by omega, by omega, by omega, by omega⟩ (pp_204_7 (by first | assumption | omega | exact ⟨by omega, by omega⟩ | exact ⟨⟨by omega, by omega⟩, by omega⟩ | exact zWV.R (by assumption) _ _) (by first | assumption | omega | exact ⟨by omega, by omega⟩ | exact ⟨⟨by omega, by omega⟩, by omega⟩ | exact zWV.R (by assumption) _ _) rfl) ?_
      refine G_nameV (fun V4_105 hV4_105 => ?_)
      have hVV4_105 : zWV Q V4_105 := by rw [hV4_105]; exact hVV2_65.s21 (by first | assumption | omega)
      have hz : V4_105 (21, g, p, 0) o = zgbr V g p o (V (0, 0, 0, 0) 6) (V (0, 0, 0, 0) 7) := by rw [hV4_105, zst_s, zgbr_lt (by omega), h066, h06, h077, h07]; unfold zsh; split <;> omega
      have hB : V4_105 = zB V g p o := by rw [hV4_105, zB_lt (by omega), h066, h06, h077, h07, hV2_65, hV1_22]; congr 1; unfold zsh; split <;> omega
      refine G_aload (pc := 106) 0 dX7_nack_106 rfl ?_
      refine G_bipush (pc := 108) dX7_nack_108 (by decide) ?_
      refine G_iconst (pc := 110) dX7_nack_110 ?_
      refine G_iload_n (pc := 111) 1 2 dX7_nack_111 rfl rfl ?_
      refine G_imul (pc := 112) dX7_nack_112 ?_
      refine G_iadd (pc := 113) dX7_nack_113 ?_
      refine G_ialdV (pc := 114) (V4_105 (21, g, p, 0) o) dX7_nack_114 (pg_204 (by first | assumption | omega | exact ⟨by omega, by omega⟩ | exact ⟨⟨by omega, by omega⟩, by omega⟩ | exact zWV.R (by assumption) _ _)) ⟨by omega, by omega, by omega, by omega⟩ (zpr_7 (by first | assumption | omega | exact ⟨by omega, by omega⟩ | exact ⟨⟨by omega, by omega⟩, by omega⟩ | exact zWV.R (by assumption) _ _) rfl) ?_
      exact G_iret (pc := 115) hF dX7_nack_115 ⟨Nat.le_of_ble_eq_true rfl, Nat.le_of_ble_eq_true rfl⟩ ⟨by rw [hz], fun k a b c d => had1 k a b c d, by rw [hB]⟩
  · refine G_aload (pc := 38) 0 dX7_nack_38 rfl ?_
    refine G_iconst (pc := 40) dX7_nack_40 ?_
    refine G_iconst (pc := 41) dX7_nack_41 ?_
    refine G_iload_n (pc := 42) 1 2 dX7_nack_42 rfl rfl ?_
    refine G_imul (pc := 43) dX7_nack_43 ?_
    refine G_iadd (pc := 44) dX7_nack_44 ?_
    refine G_iconst (pc := 45) dX7_nack_45 ?_
    refine G_iast (pc := 46) dX7_nack_46 (pg_204 (by first | assumption | omega | exact ⟨by omega, by omega⟩ | exact ⟨⟨by omega, by omega⟩, by omega⟩ | exact zWV.R (by assumption) _ _)) ⟨by omega, by omega, by omega, by omega⟩ (pp_204_5 (by first | assumption | omega | exact ⟨by omega, by omega⟩ | exact ⟨⟨by omega, by omega⟩, by omega⟩ | exact zWV.R (by assumption) _ _) (by first | assumption | omega | exact ⟨by omega, by omega⟩ | exact ⟨⟨by omega, by omega⟩, by omega⟩ | exact zWV.R (by assumption) _ _) rfl) ?_
    refine G_nameV (fun V5_46 hV5_46 => ?_)
    have hVV5_46 : zWV Q V5_46 := by rw [hV5_46]; exact hVV1_22.s19 ⟨by omega, by omega⟩ (by first | assumption | omega | exact fun q => by omega)
    have h067 : V5_46 (0, 0, 0, 0) 6 = V (0, 0, 0, 0) 6 := by rw [hV5_46, zst_k _ _ _ _ (by simp)]; exact h06
    have hfull2 : 200 ≤ V5_46 (1, 0, 0, 0) 1 := by rw [hV5_46, zst_k _ _ _ _ (by simp), hV1_22, zlw_id hfull]; exact hfull
    refine G_aload_n (pc := 47) 0 1 dX7_nack_47 rfl rfl ?_
    refine G_iconst (pc := 48) dX7_nack_48 ?_
    refine G_iload_n (pc := 49) 1 2 dX7_nack_49 rfl rfl ?_
    refine G_iload_n (pc := 50) 2 3 dX7_nack_50 rfl rfl ?_
    refine G_iload_n (pc := 51) 3 4 dX7_nack_51 rfl rfl ?_
    refine G_callV (pc := 52) gk_X7_168 dX7_nack_52 pg_200 rfl (c_X7_write_f (s := 3) (g := g) (p := p) (o := o) hVV5_46 (by assumption) (by assumption)) rfl rfl (Nat.le_of_ble_eq_true rfl) ⟨⟨(by exact Nat.le_of_ble_eq_true rfl), (by exact Nat.le_of_ble_eq_true rfl)⟩, (by exact Nat.le_of_ble_eq_true rfl), (by exact Nat.le_of_ble_eq_true rfl)⟩ (fun vx ad2 Mx hpo => ?_)
    obtain ⟨rfl, had2, rfl⟩ := hpo
    show G Γ _ _ _ _ _ _ (2) (10) 55 [(4, .ref (ad1 (204, Q 4 g 0, p, o))), (0, .ref (ad1 (200, 0, 0, 0))), (1, .int (zI g)), (2, .int (zI p)), (3, .int (zI o))] []
    rw [← had2 (204, Q 4 g 0, p, o) (by simp) (by simp) (by simp) (by simp)]
    rw [← had2 (200, 0, 0, 0) (by simp) (by simp) (by simp) (by simp)]
    refine G_nameV (fun V6_52 hV6_52 => ?_)
    have hVV6_52 : zWV Q V6_52 := by rw [hV6_52]; exact hVV5_46.lw (by first | assumption | exact ⟨by omega, by omega⟩ | exact zWV.R (by assumption) _ _) (by first | assumption | exact ⟨by omega, by omega⟩ | exact zWV.R (by assumption) _ _) (by first | assumption | exact ⟨by omega, by omega⟩ | exact zWV.R (by assumption) _ _) (by first | assumption | exact ⟨by omega, by omega⟩ | exact zWV.R (by assumption) _ _) (by first | assumption | exact ⟨by omega, by omega⟩ | exact zWV.R (by assumption) _ _)
    refine G_iconst (pc := 55) dX7_nack_55 ?_
    exact G_iret (pc := 56) hF dX7_nack_56 ⟨Nat.le_of_ble_eq_true rfl, Nat.le_of_ble_eq_true rfl⟩ ⟨by rw [zgbr_n3 (by omega)], fun k a b c d => (had2 k a b c d).trans (had1 k a b c d), by rw [hV6_52, h067, hV5_46, hV1_22, zB_3 (by omega)]⟩
set_option maxHeartbeats 4000000 in
set_option maxRecDepth 100000 in
theorem c_X7_nack_b {l : Launch} {Δ : zDl} {ad : zK → Nat} {Q : zP} {V : zS} {X : zMem} {g p o : Int} (hP : zWP Q) (hV : zWV Q V) (hg : 0 ≤ g ∧ g < Q 3 0 0) (hp : 0 ≤ p ∧ p < Q 1 (Q 4 g 0) 0) (ho : 0 ≤ o ∧ o < Q 2 (Q 4 g 0) p) (h1 : 1 ≤ V (20, g, p, 0) o) (hX : X (230, 0, 0, 0) = none ∧ X (231, 0, 0, 0) = none) (h3 : ¬ 3 ≤ V (20, g, p, 0) o) : zMn l Δ yX7_nack cX7_nack 5 (some .int) 5 2 206 [.ref (ad (200, 0, 0, 0)), .int (zI g), .int (zI p), .int (zI o)] ad (pm Δ ad Q V X) (zPwn Δ ad Q (zgbr V g p o (V (0, 0, 0, 0) 6) (V (0, 0, 0, 0) 7)) (zB V g p o) X) := by
  refine zMn_of (by decide) (Nat.le_of_ble_eq_true rfl) (fun Γ hl hΔ hF => ?_)
  subst hl hΔ
  show G Γ _ _ _ RX7 _ _ _ _ _ [(0, .ref (ad (200, 0, 0, 0))), (1, .int (zI g)), (2, .int (zI p)), (3, .int (zI o))] []
  have hG := hP.g hg
  have hM := hP.m hG hp
  have hN := hP.t hG
  have hq := hP.n
  have hW5 := hV.W.m hg hp
  have hc := hV.W.c g p o
  have hk := hV.W.k
  refine G_aload_n (pc := 0) 0 0 dX7_nack_0 rfl rfl ?_
  refine G_getf (pc := 1) fl_X7_25 dX7_nack_1 pg_200 rfl ?_
  refine G_aload_n (pc := 4) 0 0 dX7_nack_4 rfl rfl ?_
  refine G_getf (pc := 5) fl_X7_51 dX7_nack_5 pg_200 rfl ?_
  refine G_iload_n (pc := 8) 1 1 dX7_nack_8 rfl rfl ?_
  refine G_ialdV (pc := 9) (Q 4 g 0) dX7_nack_9 pg_213 ⟨by omega, by omega, by omega, by omega⟩ (hV.of (by first | assumption | omega | exact ⟨by omega, by omega⟩ | exact ⟨⟨by omega, by omega⟩, by omega⟩ | exact zWV.R (by assumption) _ _)) ?_
  refine G_aldA (pc := 10) (t := 7) rfl dX7_nack_10 pg_201 ⟨by omega, by omega, by omega, by omega⟩ rfl ?_
  refine G_iload_n (pc := 11) 2 2 dX7_nack_11 rfl rfl ?_
  refine G_aldA (pc := 12) (t := 6) rfl dX7_nack_12 (pg_202 (by first | assumption | omega | exact ⟨by omega, by omega⟩ | exact ⟨⟨by omega, by omega⟩, by omega⟩ | exact zWV.R (by assumption) _ _)) ⟨by omega, by omega, by omega, by omega⟩ rfl ?_
  refine G_iload_n (pc := 13) 3 3 dX7_nack_13 rfl rfl ?_
  refine G_aldA (pc := 14) (t := 5) rfl dX7_nack_14 (pg_203 (by first | assumption | omega | exact ⟨by omega, by omega⟩ | exact ⟨⟨by omega, by omega⟩, by omega⟩ | exact zWV.R (by assumption) _ _)) ⟨by omega, by omega, by omega, by omega⟩ rfl ?_
  refine G_astore (pc := 15) [(4, .ref (ad (204, Q 4 g 0, p, o))), (0, .ref (ad (200, 0, 0, 0))), (1, .int (zI g)), (2, .int (zI p)), (3, .int (zI o))] dX7_nack_15 (by decide) rfl ?_
  refine G_aload_n (pc := 17) 0 1 dX7_nack_17 rfl rfl ?_
  refine G_iconst (pc := 18) dX7_nack_18 ?_
  refine G_iload_n (pc := 19) 1 2 dX7_nack_19 rfl rfl ?_
  refine G_iload_n (pc := 20) 2 3 dX7_nack_20 rfl rfl ?_
  refine G_iload_n (pc := 21) 3 4 dX7_nack_21 rfl rfl ?_
  refine G_callV (pc := 22) gk_X7_168 dX7_nack_22 pg_200 rfl (c_X7_write (s := 2) (g := g) (p := p) (o := o) hV (by assumption)) rfl rfl (Nat.le_of_ble_eq_true rfl) ⟨⟨(by exact Nat.le_of_ble_eq_true rfl), (by exact Nat.le_of_ble_eq_true rfl)⟩, (by exact Nat.le_of_ble_eq_true rfl), (by exact Nat.le_of_ble_eq_true rfl)⟩ (fun vx ad1 Mx hpo => ?_)
  obtain ⟨rfl, had1, rfl⟩ := hpo
  show G Γ _ _ _ _ _ _ (2) (206) 25 [(4, .ref (ad (204, Q 4 g 0, p, o))), (0, .ref (ad (200, 0, 0, 0))), (1, .int (zI g)), (2, .int (zI p)), (3, .int (zI o))] []
  rw [← had1 (204, Q 4 g 0, p, o) (by simp) (by simp) (by simp) (by simp)]
  rw [← had1 (200, 0, 0, 0) (by simp) (by simp) (by simp) (by simp)]
  refine G_nameV (fun V1_22 hV1_22 => ?_)
  have hVV1_22 : zWV Q V1_22 := by rw [hV1_22]; exact hV.lw (by first | assumption | exact ⟨by omega, by omega⟩ | exact zWV.R (by assumption) _ _) (by first | assumption | exact ⟨by omega, by omega⟩ | exact zWV.R (by assumption) _ _) (by first | assumption | exact ⟨by omega, by omega⟩ | exact zWV.R (by assumption) _ _) (by first | assumption | exact ⟨by omega, by omega⟩ | exact zWV.R (by assumption) _ _) (by first | assumption | exact ⟨by omega, by omega⟩ | exact zWV.R (by assumption) _ _)
  have h20 : V1_22 (20, g, p, 0) o = V (20, g, p, 0) o := by rw [hV1_22]; exact zlw_k ⟨by simp, by simp⟩
  have h0 : ∀ f, V1_22 (0, 0, 0, 0) f = V (0, 0, 0, 0) f := fun f => by rw [hV1_22]; exact zlw_k ⟨by simp, by simp⟩
  have h06 := h0 6
  have h07 := h0 7
  refine G_aload (pc := 25) 0 dX7_nack_25 rfl ?_
  refine G_bipush (pc := 27) dX7_nack_27 (by decide) ?_
  refine G_iconst (pc := 29) dX7_nack_29 ?_
  refine G_iload_n (pc := 30) 1 2 dX7_nack_30 rfl rfl ?_
  refine G_imul (pc := 31) dX7_nack_31 ?_
  refine G_iadd (pc := 32) dX7_nack_32 ?_
  refine G_ialdV (pc := 33) (V1_22 (20, g, p, 0) o) dX7_nack_33 (pg_204 (by first | assumption | omega | exact ⟨by omega, by omega⟩ | exact ⟨⟨by omega, by omega⟩, by omega⟩ | exact zWV.R (by assumption) _ _)) ⟨by omega, by omega, by omega, by omega⟩ (zpr_6 (by first | assumption | omega | exact ⟨by omega, by omega⟩ | exact ⟨⟨by omega, by omega⟩, by omega⟩ | exact zWV.R (by assumption) _ _) rfl) ?_
  refine G_iconst (pc := 34) dX7_nack_34 ?_
  refine G_icmp_le (pc := 35) 57 dX7_nack_35 (by decide) (by first | exact zWV.R (by assumption) _ _ | exact ⟨by omega, by omega⟩ | assumption) (by first | exact zWV.R (by assumption) _ _ | exact ⟨by omega, by omega⟩ | assumption) (fun c35 => ?_) (fun c35 => ?_)
  · refine G_aload (pc := 57) 0 dX7_nack_57 rfl ?_
    refine G_iconst (pc := 59) dX7_nack_59 ?_
    refine G_iconst (pc := 60) dX7_nack_60 ?_
    refine G_iload_n (pc := 61) 1 2 dX7_nack_61 rfl rfl ?_
    refine G_imul (pc := 62) dX7_nack_62 ?_
    refine G_iadd (pc := 63) dX7_nack_63 ?_
    refine G_iconst (pc := 64) dX7_nack_64 ?_
    refine G_iast (pc := 65) dX7_nack_65 (pg_204 (by first | assumption | omega | exact ⟨by omega, by omega⟩ | exact ⟨⟨by omega, by omega⟩, by omega⟩ | exact zWV.R (by assumption) _ _)) ⟨by omega, by omega, by omega, by omega⟩ (pp_204_5 (by first | assumption | omega | exact ⟨by omega, by omega⟩ | exact ⟨⟨by omega, by omega⟩, by omega⟩ | exact zWV.R (by assumption) _ _) (by first | assumption | omega | exact ⟨by omega, by omega⟩ | exact ⟨⟨by omega, by omega⟩, by omega⟩ | exact zWV.R (by assumption) _ _) rfl) ?_
    refine G_nameV (fun V2_65 hV2_65 => ?_)
    have hVV2_65 : zWV Q V2_65 := by rw [hV2_65]; exact hVV1_22.s19 ⟨by omega, by omega⟩ (by first | assumption | omega | exact fun q => by omega)
    have h206 : V2_65 (20, g, p, 0) o = V1_22 (20, g, p, 0) o := by rw [hV2_65, zst_k _ _ _ _ (by simp)]
    have h066 : V2_65 (0, 0, 0, 0) 6 = V1_22 (0, 0, 0, 0) 6 := by rw [hV2_65, zst_k _ _ _ _ (by simp)]
    have h077 : V2_65 (0, 0, 0, 0) 7 = V1_22 (0, 0, 0, 0) 7 := by rw [hV2_65, zst_k _ _ _ _ (by simp)]
    refine G_aload (pc := 66) 0 dX7_nack_66 rfl ?_
    refine G_bipush (pc := 68) dX7_nack_68 (by decide) ?_
    refine G_iconst (pc := 70) dX7_nack_70 ?_
    refine G_iload_n (pc := 71) 1 2 dX7_nack_71 rfl rfl ?_
    refine G_imul (pc := 72) dX7_nack_72 ?_
    refine G_iadd (pc := 73) dX7_nack_73 ?_
    refine G_aload_n (pc := 74) 0 1 dX7_nack_74 rfl rfl ?_
    refine G_getf (pc := 75) fl_X7_119 dX7_nack_75 pg_200 rfl ?_
    refine G_aload (pc := 78) 0 dX7_nack_78 rfl ?_
    refine G_bipush (pc := 80) dX7_nack_80 (by decide) ?_
    refine G_iconst (pc := 82) dX7_nack_82 ?_
    refine G_iload_n (pc := 83) 1 2 dX7_nack_83 rfl rfl ?_
    refine G_imul (pc := 84) dX7_nack_84 ?_
    refine G_iadd (pc := 85) dX7_nack_85 ?_
    refine G_ialdV (pc := 86) (V2_65 (20, g, p, 0) o) dX7_nack_86 (pg_204 (by first | assumption | omega | exact ⟨by omega, by omega⟩ | exact ⟨⟨by omega, by omega⟩, by omega⟩ | exact zWV.R (by assumption) _ _)) ⟨by omega, by omega, by omega, by omega⟩ (zpr_6 (by first | assumption | omega | exact ⟨by omega, by omega⟩ | exact ⟨⟨by omega, by omega⟩, by omega⟩ | exact zWV.R (by assumption) _ _) rfl) ?_
    refine G_iconst (pc := 87) dX7_nack_87 ?_
    refine G_icmp_ne (pc := 88) 98 dX7_nack_88 (by decide) (by first | exact zWV.R (by assumption) _ _ | exact ⟨by omega, by omega⟩ | assumption) (by first | exact zWV.R (by assumption) _ _ | exact ⟨by omega, by omega⟩ | assumption) (fun c88 => ?_) (fun c88 => ?_)
    · refine G_iconst (pc := 98) dX7_nack_98 ?_
      refine G_aload_n (pc := 99) 0 1 dX7_nack_99 rfl rfl ?_
      refine G_getf (pc := 100) fl_X7_16 dX7_nack_100 pg_200 rfl ?_
      refine G_imul (pc := 103) dX7_nack_103 ?_
      refine G_iadd (pc := 104) dX7_nack_104 ?_
      refine G_iast (pc := 105) dX7_nack_105 (pg_204 (by first | assumption | omega | exact ⟨by omega, by omega⟩ | exact ⟨⟨by omega, by omega⟩, by omega⟩ | exact zWV.R (by assumption) _ _)) ⟨by omega, by omega, by omega, by omega⟩ (pp_204_7 (by first | assumption | omega | exact ⟨by omega, by omega⟩ | exact ⟨⟨by omega, by omega⟩, by omega⟩ | exact zWV.R (by assumption) _ _) (by first | assumption | omega | exact ⟨by omega, by omega⟩ | exact ⟨⟨by omega, by omega⟩, by omega⟩ | exact zWV.R (by assumption) _ _) rfl) ?_
      refine G_nameV (fun V3_105 hV3_105 => ?_)
      have hVV3_105 : zWV Q V3_105 := by rw [hV3_105]; exact hVV2_65.s21 (by first | assumption | omega)
      have hz : V3_105 (21, g, p, 0) o = zgbr V g p o (V (0, 0, 0, 0) 6) (V (0, 0, 0, 0) 7) := by rw [hV3_105, zst_s, zgbr_lt (by omega), h066, h06, h077, h07]; unfold zsh; split <;> omega
      have hB : V3_105 = zB V g p o := by rw [hV3_105, zB_lt (by omega), h066, h06, h077, h07, hV2_65, hV1_22]; congr 1; unfold zsh; split <;> omega
      refine G_aload (pc := 106) 0 dX7_nack_106 rfl ?_
      refine G_bipush (pc := 108) dX7_nack_108 (by decide) ?_
      refine G_iconst (pc := 110) dX7_nack_110 ?_
      refine G_iload_n (pc := 111) 1 2 dX7_nack_111 rfl rfl ?_
      refine G_imul (pc := 112) dX7_nack_112 ?_
      refine G_iadd (pc := 113) dX7_nack_113 ?_
      refine G_ialdV (pc := 114) (V3_105 (21, g, p, 0) o) dX7_nack_114 (pg_204 (by first | assumption | omega | exact ⟨by omega, by omega⟩ | exact ⟨⟨by omega, by omega⟩, by omega⟩ | exact zWV.R (by assumption) _ _)) ⟨by omega, by omega, by omega, by omega⟩ (zpr_7 (by first | assumption | omega | exact ⟨by omega, by omega⟩ | exact ⟨⟨by omega, by omega⟩, by omega⟩ | exact zWV.R (by assumption) _ _) rfl) ?_
      exact G_iret (pc := 115) hF dX7_nack_115 ⟨Nat.le_of_ble_eq_true rfl, Nat.le_of_ble_eq_true rfl⟩ ⟨by rw [hz], fun k a b c d => had1 k a b c d, by rw [hB]⟩
    · refine G_aload_n (pc := 91) 0 1 dX7_nack_91 rfl rfl ?_
      refine G_getf (pc := 92) fl_X7_16 dX7_nack_92 pg_200 rfl ?_
      refine G_goto (pc := 95) 104 dX7_nack_95 (by decide) ?_
      refine G_iadd (pc := 104) dX7_nack_104 ?_
      refine G_iast (pc := 105) dX7_nack_105 (pg_204 (by first | assumption | omega | exact ⟨by omega, by omega⟩ | exact ⟨⟨by omega, by omega⟩, by omega⟩ | exact zWV.R (by assumption) _ _)) ⟨by omega, by omega, by omega, by omega⟩ (pp_204_7 (by first | assumption | omega | exact ⟨by omega, by omega⟩ | exact ⟨⟨by omega, by omega⟩, by omega⟩ | exact zWV.R (by assumption) _ _) (by first | assumption | omega | exact ⟨by omega, by omega⟩ | exact ⟨⟨by omega, by omega⟩, by omega⟩ | exact zWV.R (by assumption) _ _) rfl) ?_
      refine G_nameV (fun V4_105 hV4_105 => ?_)
      have hVV4_105 : zWV Q V4_105 := by rw [hV4_105]; exact hVV2_65.s21 (by first | assumption | omega)
      have hz : V4_105 (21, g, p, 0) o = zgbr V g p o (V (0, 0, 0, 0) 6) (V (0, 0, 0, 0) 7) := by rw [hV4_105, zst_s, zgbr_lt (by omega), h066, h06, h077, h07]; unfold zsh; split <;> omega
      have hB : V4_105 = zB V g p o := by rw [hV4_105, zB_lt (by omega), h066, h06, h077, h07, hV2_65, hV1_22]; congr 1; unfold zsh; split <;> omega
      refine G_aload (pc := 106) 0 dX7_nack_106 rfl ?_
      refine G_bipush (pc := 108) dX7_nack_108 (by decide) ?_
      refine G_iconst (pc := 110) dX7_nack_110 ?_
      refine G_iload_n (pc := 111) 1 2 dX7_nack_111 rfl rfl ?_
      refine G_imul (pc := 112) dX7_nack_112 ?_
      refine G_iadd (pc := 113) dX7_nack_113 ?_
      refine G_ialdV (pc := 114) (V4_105 (21, g, p, 0) o) dX7_nack_114 (pg_204 (by first | assumption | omega | exact ⟨by omega, by omega⟩ | exact ⟨⟨by omega, by omega⟩, by omega⟩ | exact zWV.R (by assumption) _ _)) ⟨by omega, by omega, by omega, by omega⟩ (zpr_7 (by first | assumption | omega | exact ⟨by omega, by omega⟩ | exact ⟨⟨by omega, by omega⟩, by omega⟩ | exact zWV.R (by assumption) _ _) rfl) ?_
      exact G_iret (pc := 115) hF dX7_nack_115 ⟨Nat.le_of_ble_eq_true rfl, Nat.le_of_ble_eq_true rfl⟩ ⟨by rw [hz], fun k a b c d => had1 k a b c d, by rw [hB]⟩
  · exfalso
    omega
section ZNK2
variable {P : zP} {V : zS} {g p o : Int}
/-- how the ledger grows by a nack -/
theorem zB_g : (200 ≤ V (1, 0, 0, 0) 1 → zB V g p o (1, 0, 0, 0) 1 = V (1, 0, 0, 0) 1) ∧ (¬ 200 ≤ V (1, 0, 0, 0) 1 → ¬ 3 ≤ V (20, g, p, 0) o → zB V g p o (1, 0, 0, 0) 1 = V (1, 0, 0, 0) 1 + 1) ∧ (¬ 200 ≤ V (1, 0, 0, 0) 1 → 3 ≤ V (20, g, p, 0) o → (zB V g p o (1, 0, 0, 0) 1 = V (1, 0, 0, 0) 1 + 2 ∧ V (1, 0, 0, 0) 1 ≤ 198) ∨ (zB V g p o (1, 0, 0, 0) 1 = 200 ∧ V (1, 0, 0, 0) 1 = 199)) := by
  refine ⟨fun h => ?_, fun h h3 => ?_, fun h h3 => ?_⟩
  · by_cases h3 : 3 ≤ V (20, g, p, 0) o
    · rw [zB_3 h3, zlw_id h, zlw_id (by rw [zst_k _ _ _ _ (by simp)]; exact h), zst_k _ _ _ _ (by simp)]
    · rw [zB_lt h3, zst_k _ _ _ _ (by simp), zst_k _ _ _ _ (by simp), zlw_id h]
  · rw [zB_lt h3, zst_k _ _ _ _ (by simp), zst_k _ _ _ _ (by simp), zlw_1 h]
  · rw [zB_3 h3]
    have e : zst (zlw V 2 g p o (V (0, 0, 0, 0) 6)) (19, g, p, 0) o 4 (1, 0, 0, 0) 1 = V (1, 0, 0, 0) 1 + 1 := by rw [zst_k _ _ _ _ (by simp), zlw_1 h]
    by_cases h2 : 200 ≤ V (1, 0, 0, 0) 1 + 1
    · rw [zlw_id (by rw [e]; exact h2), e]
      omega
    · rw [zlw_1 (by rw [e]; exact h2), e]
      omega
theorem zB_n19 {g' p' o' : Int} (hc1 : ¬ (g' = g ∧ p' = p ∧ o' = o)) : zB V g p o (19, g', p', 0) o' = V (19, g', p', 0) o' := by
  have hne : ¬ (((19 : Nat), g', p', (0 : Int)) = (19, g, p, (0 : Int)) ∧ o' = o) := fun q => hc1 (by have := q.1; simp at this; exact ⟨this.1, this.2, q.2⟩)
  by_cases h3 : 3 ≤ V (20, g, p, 0) o
  · rw [zB_3 h3, zlw_k ⟨by simp, by simp⟩, zst_at, if_neg hne, zlw_k ⟨by simp, by simp⟩]
  · rw [zB_lt h3, zst_k _ _ _ _ (by simp), zst_at, if_neg hne, zlw_k ⟨by simp, by simp⟩]
theorem zB_set (h : zSet P V) (hg : inG P g) (hp : inQ P g p) (ho : inM P (P 4 g 0) p o) (h1 : V (19, g, p, 0) o = 1) : zSet P (zB V g p o) := fun g' p' o' hg' hp' ho' q => by
  obtain ⟨q1, q2⟩ := q
  rw [zB_k rfl] at q1
  have q3 : zB V g p o (19, g', p', 0) o' = 1 ∨ zB V g p o (19, g', p', 0) o' = 2 := q2
  by_cases hc1 : g' = g ∧ p' = p ∧ o' = o
  · obtain ⟨rfl, rfl, rfl⟩ := hc1
    exact h g' p' o' hg hp ho ⟨q1, Or.inl h1⟩
  · rw [zB_n19 hc1] at q3
    exact h g' p' o' hg' hp' ho' ⟨q1, q3⟩
end ZNK2
