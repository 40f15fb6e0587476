/-! ===== the Pier: nack ===== -/
theorem zst_cm {V : zS} {k k' : zK} {f f' v v' : Int} (h : k ≠ k') : zst (zst V k f v) k' f' v' = zst (zst V k' f' v') k f v := by
  funext j x
  by_cases h1 : j = k' ∧ x = f'
  · obtain ⟨rfl, rfl⟩ := h1
    rw [zst_s, zst_k _ _ _ _ (Ne.symm h), zst_s]
  · by_cases h2 : j = k ∧ x = f
    · obtain ⟨rfl, rfl⟩ := h2
      rw [zst_s, zst_k _ _ _ _ h, zst_s]
    · rw [zst_at, if_neg (fun q => h1 ⟨q.1, q.2⟩), zst_at, if_neg (fun q => h2 ⟨q.1, q.2⟩), zst_at, if_neg (fun q => h2 ⟨q.1, q.2⟩), zst_at, if_neg (fun q => h1 ⟨q.1, q.2⟩)]
theorem zlw_st {V : zS} {a b c d e : Int} {k : zK} {f v : Int} (h : k.1 ≠ 1 ∧ k.1 ≠ 2) : zlw (zst V k f v) a b c d e = zst (zlw V a b c d e) k f v := by
  have n1 : k ≠ (1, 0, 0, 0) := fun q => h.1 (by rw [q])
  have n2 : k ≠ (2, 0, 0, 0) := fun q => h.2 (by rw [q])
  unfold zlw
  rw [zst_k _ _ _ _ (Ne.symm n1)]
  split
  · rfl
  · rw [zst_cm n2, zst_cm n2, zst_cm n2, zst_cm n2, zst_cm n2, zst_cm n1]
/-- what nack leaves -/
def zPwn (Δ : zDl) (ad : zK → Nat) (Q : zP) (r : Int) (V' : zS) (X : zMem) : zPo := fun v ad' M' => v = some (.int (zI r)) ∧ (∀ k : zK, k.1 ≠ 222 → k.1 ≠ 223 → k.1 ≠ 230 → k.1 ≠ 231 → ad' k = ad k) ∧ M' = pm Δ ad' Q V' X
section ZNK
variable {V : zS} {g p o : Int}
theorem zgbr_n3 {x y : Int} (h : 3 ≤ V (20, g, p, 0) o) : zgbr V g p o x y = -1 := if_pos h
theorem zgbr_lt {x y : Int} (h : ¬ 3 ≤ V (20, g, p, 0) o) : zgbr V g p o x y = x + zsh y (V (20, g, p, 0) o - 1) := if_neg h
theorem zB_3 (h : 3 ≤ V (20, g, p, 0) o) : zB V g p o = zlw (zst (zlw V 2 g p o (V (0, 0, 0, 0) 6)) (19, g, p, 0) o 4) 3 g p o (V (0, 0, 0, 0) 6) := by
  unfold zB zgb
  rw [if_pos h, if_pos h, zlw_st ⟨by simp, by simp⟩]
theorem zB_lt (h : ¬ 3 ≤ V (20, g, p, 0) o) : zB V g p o = zst (zst (zlw V 2 g p o (V (0, 0, 0, 0) 6)) (19, g, p, 0) o 2) (21, g, p, 0) o (V (0, 0, 0, 0) 6 + zsh (V (0, 0, 0, 0) 7) (V (20, g, p, 0) o - 1)) := by
  unfold zB zgb
  rw [if_neg h, if_neg h, zlw_st ⟨by simp, by simp⟩, zlw_st ⟨by simp, by simp⟩]
theorem zB_V {Q : zP} (h : zWV Q V) (hg : zR g) (hp : zR p) (ho : zR o) : zWV Q (zB V g p o) := by
  have h2 : zWV Q (zlw V 2 g p o (V (0, 0, 0, 0) 6)) := h.lw ⟨by omega, by omega⟩ hg hp ho (h.R _ _)
  have hk := h.W.k
  by_cases hc : 3 ≤ V (20, g, p, 0) o
  · rw [zB_3 hc]
    exact (h2.s19 ⟨by omega, by omega⟩ (fun q => by omega)).lw ⟨by omega, by omega⟩ hg hp ho (h.R _ _)
  · rw [zB_lt hc]
    have := zsh_le (y := V (0, 0, 0, 0) 7) (s := V (20, g, p, 0) o - 1) (by omega)
    exact (h2.s19 ⟨by omega, by omega⟩ (fun q => by omega)).s21 (by omega)
end ZNK
set_option maxHeartbeats 4000000 in
set_option maxRecDepth 100000 in
theorem c_X7_nack {l : Launch} {Δ : zDl} {ad : zK → Nat} {Q : zP} {V : zS} {X : zMem} {g p o : Int} (hP : zWP Q) (hV : zWV Q V) (hg : 0 ≤ g ∧ g < Q 3 0 0) (hp : 0 ≤ p ∧ p < Q 1 (Q 4 g 0) 0) (ho : 0 ≤ o ∧ o < Q 2 (Q 4 g 0) p) (h1 : 1 ≤ V (20, g, p, 0) o) (hX : X (230, 0, 0, 0) = none ∧ X (231, 0, 0, 0) = none) : zMn l Δ yX7_nack cX7_nack 5 (some .int) 5 4 412 [.ref (ad (200, 0, 0, 0)), .int (zI g), .int (zI p), .int (zI o)] ad (pm Δ ad Q V X) (zPwn Δ ad Q (zgbr V g p o (V (0, 0, 0, 0) 6) (V (0, 0, 0, 0) 7)) (zB V g p o) X) := by
  refine zMn_of (by decide) (Nat.le_of_ble_eq_true rfl) (fun Γ hl hΔ hF => ?_)
  subst hl hΔ
  show G Γ _ _ _ RX7 _ _ _ _ _ [(0, .ref (ad (200, 0, 0, 0))), (1, .int (zI g)), (2, .int (zI p)), (3, .int (zI o))] []
  have hG := hP.g hg
  have hM := hP.m hG hp
  have hN := hP.t hG
  have hq := hP.n
  have hW5 := hV.W.m hg hp
  have hc := hV.W.c g p o
  have hk := hV.W.k
  refine G_aload_n (pc := 0) 0 0 dX7_nack_0 rfl rfl ?_
  refine G_getf (pc := 1) fl_X7_25 dX7_nack_1 pg_200 rfl ?_
  refine G_aload_n (pc := 4) 0 0 dX7_nack_4 rfl rfl ?_
  refine G_getf (pc := 5) fl_X7_51 dX7_nack_5 pg_200 rfl ?_
  refine G_iload_n (pc := 8) 1 1 dX7_nack_8 rfl rfl ?_
  refine G_ialdV (pc := 9) (Q 4 g 0) dX7_nack_9 pg_213 ⟨by omega, by omega, by omega, by omega⟩ (hV.of (by first | assumption | omega | exact ⟨by omega, by omega⟩ | exact ⟨⟨by omega, by omega⟩, by omega⟩ | exact zWV.R (by assumption) _ _)) ?_
  refine G_aldA (pc := 10) (t := 7) rfl dX7_nack_10 pg_201 ⟨by omega, by omega, by omega, by omega⟩ rfl ?_
  refine G_iload_n (pc := 11) 2 2 dX7_nack_11 rfl rfl ?_
  refine G_aldA (pc := 12) (t := 6) rfl dX7_nack_12 (pg_202 (by first | assumption | omega | exact ⟨by omega, by omega⟩ | exact ⟨⟨by omega, by omega⟩, by omega⟩ | exact zWV.R (by assumption) _ _)) ⟨by omega, by omega, by omega, by omega⟩ rfl ?_
  refine G_iload_n (pc := 13) 3 3 dX7_nack_13 rfl rfl ?_
  refine G_aldA (pc := 14) (t := 5) rfl dX7_nack_14 (pg_203 (by first | assumption | omega | exact ⟨by omega, by omega⟩ | exact ⟨⟨by omega, by omega⟩, by omega⟩ | exact zWV.R (by assumption) _ _)) ⟨by omega, by omega, by omega, by omega⟩ rfl ?_
  refine G_astore (pc := 15) [(4, .ref (ad (204, Q 4 g 0, p, o))), (0, .ref (ad (200, 0, 0, 0))), (1, .int (zI g)), (2, .int (zI p)), (3, .int (zI o))] dX7_nack_15 (by decide) rfl ?_
  refine G_aload_n (pc := 17) 0 1 dX7_nack_17 rfl rfl ?_
  refine G_iconst (pc := 18) dX7_nack_18 ?_
  refine G_iload_n (pc := 19) 1 2 dX7_nack_19 rfl rfl ?_
  refine G_iload_n (pc := 20) 2 3 dX7_nack_20 rfl rfl ?_
  refine G_iload_n (pc := 21) 3 4 dX7_nack_21 rfl rfl ?_
  refine G_callV (pc := 22) gk_X7_168 dX7_nack_22 pg_200 rfl (c_X7_write (s := 2) (g := g) (p := p) (o := o) hV (by assumption)) rfl rfl (Nat.le_of_ble_eq_true rfl) ⟨⟨(by exact Nat.le_of_ble_eq_true rfl), (by exact Nat.le_of_ble_eq_true rfl)⟩, (by exact Nat.le_of_ble_eq_true rfl), (by exact Nat.le_of_ble_eq_true rfl)⟩ (fun vx ad1 Mx hpo => ?_)
  obtain ⟨rfl, had1, rfl⟩ := hpo
  show G Γ _ _ _ _ _ _ (2) (206) 25 [(4, .ref (ad (204, Q 4 g 0, p, o))), (0, .ref (ad (200, 0, 0, 0))), (1, .int (zI g)), (2, .int (zI p)), (3, .int (zI o))] []
  rw [← had1 (204, Q 4 g 0, p, o) (by simp) (by simp) (by simp) (by simp)]
  rw [← had1 (200, 0, 0, 0) (by simp) (by simp) (by simp) (by simp)]
  refine G_nameV (fun V1_22 hV1_22 => ?_)
  have hVV1_22 : zWV Q V1_22 := by rw [hV1_22]; exact hV.lw (by first | assumption | exact ⟨by omega, by omega⟩ | exact zWV.R (by assumption) _ _) (by first | assumption | exact ⟨by omega, by omega⟩ | exact zWV.R (by assumption) _ _) (by first | assumption | exact ⟨by omega, by omega⟩ | exact zWV.R (by assumption) _ _) (by first | assumption | exact ⟨by omega, by omega⟩ | exact zWV.R (by assumption) _ _) (by first | assumption | exact ⟨by omega, by omega⟩ | exact zWV.R (by assumption) _ _)
  have h20 : V1_22 (20, g, p, 0) o = V (20, g, p, 0) o := by rw [hV1_22]; exact zlw_k ⟨by simp, by simp⟩
  have h0 : ∀ f, V1_22 (0, 0, 0, 0) f = V (0, 0, 0, 0) f := fun f => by rw [hV1_22]; exact zlw_k ⟨by simp, by simp⟩
  have h06 := h0 6
  have h07 := h0 7
  refine G_aload (pc := 25) 0 dX7_nack_25 rfl ?_
  refine G_bipush (pc := 27) dX7_nack_27 (by decide) ?_
  refine G_iconst (pc := 29) dX7_nack_29 ?_
  refine G_iload_n (pc := 30) 1 2 dX7_nack_30 rfl rfl ?_
  refine G_imul (pc := 31) dX7_nack_31 ?_
  refine G_iadd (pc := 32) dX7_nack_32 ?_
  refine G_ialdV (pc := 33) (V1_22 (20, g, p, 0) o) dX7_nack_33 (pg_204 (by first | assumption | omega | exact ⟨by omega, by omega⟩ | exact ⟨⟨by omega, by omega⟩, by omega⟩ | exact zWV.R (by assumption) _ _)) ⟨by omega, by omega, by omega, by omega⟩ (zpr_6 (by first | assumption | omega | exact ⟨by omega, by omega⟩ | exact ⟨⟨by omega, by omega⟩, by omega⟩ | exact zWV.R (by assumption) _ _) rfl) ?_
  refine G_iconst (pc := 34) dX7_nack_34 ?_
  refine G_icmp_le (pc := 35) 57 dX7_nack_35 (by decide) (by first | exact zWV.R (by assumption) _ _ | exact ⟨by omega, by omega⟩ | assumption) (by first | exact zWV.R (by assumption) _ _ | exact ⟨by omega, by omega⟩ | assumption) (fun c35 => ?_) (fun c35 => ?_)
  · refine G_aload (pc := 57) 0 dX7_nack_57 rfl ?_
    refine G_iconst (pc := 59) dX7_nack_59 ?_
    refine G_iconst (pc := 60) dX7_nack_60 ?_
    refine G_iload_n (pc := 61) 1 2 dX7_nack_61 rfl rfl ?_
    refine G_imul (pc := 62) dX7_nack_62 ?_
    refine G_iadd (pc := 63) dX7_nack_63 ?_
    refine G_iconst (pc := 64) dX7_nack_64 ?_
    refine G_iast (pc := 65) dX7_nack_65 (pg_204 (by first | assumption | omega | exact ⟨by omega, by omega⟩ | exact ⟨⟨by omega, by omega⟩, by omega⟩ | exact zWV.R (by assumption) _ _)) ⟨by omega, by omega, by omega, by omega⟩ (pp_204_5 (by first | assumption | omega | exact ⟨by omega, by omega⟩ | exact ⟨⟨by omega, by omega⟩, by omega⟩ | exact zWV.R (by assumption) _ _) (by first | assumption | omega | exact ⟨by omega, by omega⟩ | exact ⟨⟨by omega, by omega⟩, by omega⟩ | exact zWV.R (by assumption) _ _) rfl) ?_
    refine G_nameV (fun V2_65 hV2_65 => ?_)
    have hVV2_65 : zWV Q V2_65 := by rw [hV2_65]; exact hVV1_22.s19 ⟨by omega, by omega⟩ (by first | assumption | omega | exact fun q => by omega)
    have h206 : V2_65 (20, g, p, 0) o = V1_22 (20, g, p, 0) o := by rw [hV2_65, zst_k _ _ _ _ (by simp)]
    have h066 : V2_65 (0, 0, 0, 0) 6 = V1_22 (0, 0, 0, 0) 6 := by rw [hV2_65, zst_k _ _ _ _ (by simp)]
    have h077 : V2_65 (0, 0, 0, 0) 7 = V1_22 (0, 0, 0, 0) 7 := by rw [hV2_65, zst_k _ _ _ _ (by simp)]
    refine G_aload (pc := 66) 0 dX7_nack_66 rfl ?_
    refine G_bipush (pc := 68) dX7_nack_68 (by decide) ?_
    refine G_iconst (pc := 70) dX7_nack_70 ?_
    refine G_iload_n (pc := 71) 1 2 dX7_nack_71 rfl rfl ?_
    refine G_imul (pc := 72) dX7_nack_72 ?_
    refine G_iadd (pc := 73) dX7_nack_73 ?_
    refine G_aload_n (pc := 74) 0 1 dX7_nack_74 rfl rfl ?_
    refine G_getf (pc := 75) fl_X7_119 dX7_nack_75 pg_200 rfl ?_
    refine G_aload (pc := 78) 0 dX7_nack_78 rfl ?_
    refine G_bipush (pc := 80) dX7_nack_80 (by decide) ?_
    refine G_iconst (pc := 82) dX7_nack_82 ?_
    refine G_iload_n (pc := 83) 1 2 dX7_nack_83 rfl rfl ?_
    refine G_imul (pc := 84) dX7_nack_84 ?_
    refine G_iadd (pc := 85) dX7_nack_85 ?_
    refine G_ialdV (pc := 86) (V2_65 (20, g, p, 0) o) dX7_nack_86 (pg_204 (by first | assumption | omega | exact ⟨by omega, by omega⟩ | exact ⟨⟨by omega, by omega⟩, by omega⟩ | exact zWV.R (by assumption) _ _)) ⟨by omega, by omega, by omega, by omega⟩ (zpr_6 (by first | assumption | omega | exact ⟨by omega, by omega⟩ | exact ⟨⟨by omega, by omega⟩, by omega⟩ | exact zWV.R (by assumption) _ _) rfl) ?_
    refine G_iconst (pc := 87) dX7_nack_87 ?_
    refine G_icmp_ne (pc := 88) 98 dX7_nack_88 (by decide) (by first | exact zWV.R (by assumption) _ _ | exact ⟨by omega, by omega⟩ | assumption) (by first | exact zWV.R (by assumption) _ _ | exact ⟨by omega, by omega⟩ | assumption) (fun c88 => ?_) (fun c88 => ?_)
    · refine G_iconst (pc := 98) dX7_nack_98 ?_
      refine G_aload_n (pc := 99) 0 1 dX7_nack_99 rfl rfl ?_
      refine G_getf (pc := 100) fl_X7_16 dX7_nack_100 pg_200 rfl ?_
      refine G_imul (pc := 103) dX7_nack_103 ?_
      refine G_iadd (pc := 104) dX7_nack_104 ?_
      refine G_iast (pc := 105) dX7_nack_105 (pg_204 (by first | assumption | omega | exact ⟨by omega, by omega⟩ | exact ⟨⟨by omega, by omega⟩, by omega⟩ | exact zWV.R (by assumption) _ _)) ⟨by omega, by omega, by omega, by omega⟩ (pp_204_7 (by first | assumption | omega | exact ⟨by omega, by omega⟩ | exact ⟨⟨by omega, by omega⟩, by omega⟩ | exact zWV.R (by assumption) _ _) (by first | assumption | omega | exact ⟨by omega, by omega⟩ | exact ⟨⟨by omega, by omega⟩, by omega⟩ | exact zWV.R (by assumption) _ _) rfl) ?_
      refine G_nameV (fun V3_105 hV3_105 => ?_)
      have hVV3_105 : zWV Q V3_105 := by rw [hV3_105]; exact hVV2_65.s21 (by first | assumption | omega)
      have hz : V3_105 (21, g, p, 0) o = zgbr V g p o (V (0, 0, 0, 0) 6) (V (0, 0, 0, 0) 7) := by rw [hV3_105, zst_s, zgbr_lt (by omega), h066, h06, h077, h07]; unfold zsh; split <;> omega
      have hB : V3_105 = zB V g p o := by rw [hV3_105, zB_lt (by omega), h066, h06, h077, h07, hV2_65, hV1_22]; congr 1; unfold zsh; split <;> omega
      refine G_aload (pc := 106) 0 dX7_nack_106 rfl ?_
      refine G_bipush (pc := 108) dX7_nack_108 (by decide) ?_
      refine G_iconst (pc := 110) dX7_nack_110 ?_
      refine G_iload_n (pc := 111) 1 2 dX7_nack_111 rfl rfl ?_
      refine G_imul (pc := 112) dX7_nack_112 ?_
      refine G_iadd (pc := 113) dX7_nack_113 ?_
      refine G_ialdV (pc := 114) (V3_105 (21, g, p, 0) o) dX7_nack_114 (pg_204 (by first | assumption | omega | exact ⟨by omega, by omega⟩ | exact ⟨⟨by omega, by omega⟩, by omega⟩ | exact zWV.R (by assumption) _ _)) ⟨by omega, by omega, by omega, by omega⟩ (zpr_7 (by first | assumption | omega | exact ⟨by omega, by omega⟩ | exact ⟨⟨by omega, by omega⟩, by omega⟩ | exact zWV.R (by assumption) _ _) rfl) ?_
      exact G_iret (pc := 115) hF dX7_nack_115 ⟨Nat.le_of_ble_eq_true rfl, Nat.le_of_ble_eq_true rfl⟩ ⟨by rw [hz], fun k a b c d => had1 k a b c d, by rw [hB]⟩
    · refine G_aload_n (pc := 91) 0 1 dX7_nack_91 rfl rfl ?_
      refine G_getf (pc := 92) fl_X7_16 dX7_nack_92 pg_200 rfl ?_
      refine G_goto (pc := 95) 104 dX7_nack_95 (by decide) ?_
      refine G_iadd (pc := 104) dX7_nack_104 ?_
      refine G_iast (pc := 105) dX7_nack_105 (pg_204 (by first | assumption | omega | exact ⟨by omega, by omega⟩ | exact ⟨⟨by omega, by omega⟩, by omega⟩ | exact zWV.R (by assumption) _ _)) ⟨by omega, by omega, by omega, by omega⟩ (pp_204_7 (by first | assumption | omega | exact ⟨by omega, by omega⟩ | exact ⟨⟨by omega, by omega⟩, by omega⟩ | exact zWV.R (by assumption) _ _) (by first | assumption | omega | exact ⟨by omega, by omega⟩ | exact ⟨⟨by omega, by omega⟩, by omega⟩ | exact zWV.R (by assumption) _ _) rfl) ?_
      refine G_nameV (fun V4_105 hV4_105 => ?_)
      have hVV4_105 : zWV Q V4_105 := by rw [hV4_105]; exact hVV2_65.s21 (by first | assumption | omega)
      have hz : V4_105 (21, g, p, 0) o = zgbr V g p o (V (0, 0, 0, 0) 6) (V (0, 0, 0, 0) 7) := by rw [hV4_105, zst_s, zgbr_lt (by omega), h066, h06, h077, h07]; unfold zsh; split <;> omega
      have hB : V4_105 = zB V g p o := by rw [hV4_105, zB_lt (by omega), h066, h06, h077, h07, hV2_65, hV1_22]; congr 1; unfold zsh; split <;> omega
      refine G_aload (pc := 106) 0 dX7_nack_106 rfl ?_
      refine G_bipush (pc := 108) dX7_nack_108 (by decide) ?_
      refine G_iconst (pc := 110) dX7_nack_110 ?_
      refine G_iload_n (pc := 111) 1 2 dX7_nack_111 rfl rfl ?_
      refine G_imul (pc := 112) dX7_nack_112 ?_
      refine G_iadd (pc := 113) dX7_nack_113 ?_
      refine G_ialdV (pc := 114) (V4_105 (21, g, p, 0) o) dX7_nack_114 (pg_204 (by first | assumption | omega | exact ⟨by omega, by omega⟩ | exact ⟨⟨by omega, by omega⟩, by omega⟩ | exact zWV.R (by assumption) _ _)) ⟨by omega, by omega, by omega, by omega⟩ (zpr_7 (by first | assumption | omega | exact ⟨by omega, by omega⟩ | exact ⟨⟨by omega, by omega⟩, by omega⟩ | exact zWV.R (by assumption) _ _) rfl) ?_
      exact G_iret (pc := 115) hF dX7_nack_115 ⟨Nat.le_of_ble_eq_true rfl, Nat.le_of_ble_eq_true rfl⟩ ⟨by rw [hz], fun k a b c d => had1 k a b c d, by rw [hB]⟩
  · refine G_aload (pc := 38) 0 dX7_nack_38 rfl ?_
    refine G_iconst (pc := 40) dX7_nack_40 ?_
    refine G_iconst (pc := 41) dX7_nack_41 ?_
    refine G_iload_n (pc := 42) 1 2 dX7_nack_42 rfl rfl ?_
    refine G_imul (pc := 43) dX7_nack_43 ?_
    refine G_iadd (pc := 44) dX7_nack_44 ?_
    refine G_iconst (pc := 45) dX7_nack_45 ?_
    refine G_iast (pc := 46) dX7_nack_46 (pg_204 (by first | assumption | omega | exact ⟨by omega, by omega⟩ | exact ⟨⟨by omega, by omega⟩, by omega⟩ | exact zWV.R (by assumption) _ _)) ⟨by omega, by omega, by omega, by omega⟩ (pp_204_5 (by first | assumption | omega | exact ⟨by omega, by omega⟩ | exact ⟨⟨by omega, by omega⟩, by omega⟩ | exact zWV.R (by assumption) _ _) (by first | assumption | omega | exact ⟨by omega, by omega⟩ | exact ⟨⟨by omega, by omega⟩, by omega⟩ | exact zWV.R (by assumption) _ _) rfl) ?_
    refine G_nameV (fun V5_46 hV5_46 => ?_)
    have hVV5_46 : zWV Q V5_46 := by rw [hV5_46]; exact hVV1_22.s19 ⟨by omega, by omega⟩ (by first | assumption | omega | exact fun q => by omega)
    have h067 : V5_46 (0, 0, 0, 0) 6 = V (0, 0, 0, 0) 6 := by rw [hV5_46, zst_k _ _ _ _ (by simp)]; exact h06
    refine G_aload_n (pc := 47) 0 1 dX7_nack_47 rfl rfl ?_
    refine G_iconst (pc := 48) dX7_nack_48 ?_
    refine G_iload_n (pc := 49) 1 2 dX7_nack_49 rfl rfl ?_
    refine G_iload_n (pc := 50) 2 3 dX7_nack_50 rfl rfl ?_
    refine G_iload_n (pc := 51) 3 4 dX7_nack_51 rfl rfl ?_
    refine G_callV (pc := 52) gk_X7_168 dX7_nack_52 pg_200 rfl (c_X7_write (s := 3) (g := g) (p := p) (o := o) hVV5_46 (by assumption)) rfl rfl (Nat.le_of_ble_eq_true rfl) ⟨⟨(by exact Nat.le_of_ble_eq_true rfl), (by exact Nat.le_of_ble_eq_true rfl)⟩, (by exact Nat.le_of_ble_eq_true rfl), (by exact Nat.le_of_ble_eq_true rfl)⟩ (fun vx ad2 Mx hpo => ?_)
    obtain ⟨rfl, had2, rfl⟩ := hpo
    show G Γ _ _ _ _ _ _ (4) (412) 55 [(4, .ref (ad1 (204, Q 4 g 0, p, o))), (0, .ref (ad1 (200, 0, 0, 0))), (1, .int (zI g)), (2, .int (zI p)), (3, .int (zI o))] []
    rw [← had2 (204, Q 4 g 0, p, o) (by simp) (by simp) (by simp) (by simp)]
    rw [← had2 (200, 0, 0, 0) (by simp) (by simp) (by simp) (by simp)]
    refine G_nameV (fun V6_52 hV6_52 => ?_)
    have hVV6_52 : zWV Q V6_52 := by rw [hV6_52]; exact hVV5_46.lw (by first | assumption | exact ⟨by omega, by omega⟩ | exact zWV.R (by assumption) _ _) (by first | assumption | exact ⟨by omega, by omega⟩ | exact zWV.R (by assumption) _ _) (by first | assumption | exact ⟨by omega, by omega⟩ | exact zWV.R (by assumption) _ _) (by first | assumption | exact ⟨by omega, by omega⟩ | exact zWV.R (by assumption) _ _) (by first | assumption | exact ⟨by omega, by omega⟩ | exact zWV.R (by assumption) _ _)
    refine G_iconst (pc := 55) dX7_nack_55 ?_
    exact G_iret (pc := 56) hF dX7_nack_56 ⟨Nat.le_of_ble_eq_true rfl, Nat.le_of_ble_eq_true rfl⟩ ⟨by rw [zgbr_n3 (by omega)], fun k a b c d => (had2 k a b c d).trans (had1 k a b c d), by rw [hV6_52, h067, hV5_46, hV1_22, zB_3 (by omega)]⟩
