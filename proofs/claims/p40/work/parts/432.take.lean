/-! ===== the Pier's acts: take ===== -/
theorem zlw_l {V : zS} {a b c d e : Int} : V (1, 0, 0, 0) 1 ≤ zlw V a b c d e (1, 0, 0, 0) 1 := by
  by_cases h : 200 ≤ V (1, 0, 0, 0) 1
  · rw [zlw_id h]; exact Int.le_refl _
  · rw [zlw_1 h]; omega
section ZTAKE
variable {P : zP} {V : zS} {g r p o : Int}
/-- one that is out has nothing -/
theorem znp_out (h : zJ P V) (hg : inG P g) (hr : 0 ≤ r) (h0 : V (17, g, 0, 0) r = 0) : znp P V g r (V (0, 0, 0, 0) 6) = -1 := by
  rcases znp_sp h.wp h.wv.W hg (r := r) (x := V (0, 0, 0, 0) 6) with ⟨e, -⟩ | ⟨p, o, hp, -, -, h4, -, -⟩
  · exact e
  · exfalso
    have e := h.xy.1 g p hg hp
    have h5 := zsr_in (P := P) (S := V) (g := g) (p := p) (c := -1) (by omega)
    rw [← e, h4] at h5
    exact (zin_17 hr).mp h5 h0
theorem znp_po (h : zJ P V) (hg : inG P g) {v : Int} (hz : v = znp P V g r (V (0, 0, 0, 0) 6)) (hv : 0 ≤ v) : inQ P g (v / 100) ∧ inM P (P 4 g 0) (v / 100) (v % 100) ∧ znp P V g r (V (0, 0, 0, 0) 6) = 100 * (v / 100) + v % 100 := by
  rcases znp_sp h.wp h.wv.W hg (r := r) (x := V (0, 0, 0, 0) 6) with ⟨e, -⟩ | ⟨p, o, hp, ho, -, -, h6, -⟩
  · omega
  · have hM := h.wp.m (h.wp.g hg) hp
    have e1 : v / 100 = p := by omega
    have e2 : v % 100 = o := by omega
    rw [e1, e2]
    exact ⟨hp, ho, h6⟩
theorem zJ_tk2 (h : zJ P V) (hg : inG P g) (hp : inQ P g p) (ho : inM P (P 4 g 0) p o) (hz : znp P V g r (V (0, 0, 0, 0) 6) = 100 * p + o) : V (20, g, p, 0) o ≤ 2 ∧ ¬ V (19, g, p, 0) o = 1 := by
  have hM := h.wp.m (h.wp.g hg) hp
  have hW5 := h.wv.W.m hg hp
  have hsg := h.xz g p hg hp
  refine ⟨?_, ?_⟩
  · obtain ⟨-, ⟨M, hM⟩, -⟩ := h
    exact (o_take hM hg hp ho hz).2.2.2.1
  · rcases znp_sp h.wp h.wv.W hg (r := r) (x := V (0, 0, 0, 0) 6) with ⟨e, -⟩ | ⟨p', o', hp', ho', e3, h4, h6, -⟩
    · have := hp.1; have := ho.1; omega
    · have hM' := h.wp.m (h.wp.g hg) hp'
      have := hp.1; have := ho.1; have := ho.2; have := ho'.1; have := ho'.2; have := hp'.1
      have e1 : p' = p := by omega
      have e2 : o' = o := by omega
      subst e1 e2
      have hs := zno_sp (P := P) (S := V) (g := g) (p := p') (x := V (0, 0, 0, 0) 6) hW5.1.1 hW5.2.1 (by omega) hW5.1.2 hsg.2.2
      rw [← e3] at hs
      rcases hs.1 with q | q
      · omega
      · omega
theorem zgv_V (hP : zWP P) (h : zWV P V) (hg : inG P g) (hp : inQ P g p) (ho : inM P (P 4 g 0) p o) (h2 : V (20, g, p, 0) o ≤ 2) {x : Int} (hx : 0 ≤ x ∧ x ≤ 20000) : zWV P (zgv V g p o x) := by
  have hM := hP.m (hP.g hg) hp
  have h0 : zWV P (zg0 V g p o) := by
    unfold zg0
    split
    · exact h.s18 ⟨by omega, by omega⟩ (fun _ _ _ => ⟨by omega, by omega⟩)
    · exact h
  have e20 : zg0 V g p o (20, g, p, 0) o = V (20, g, p, 0) o := zg0_k rfl
  have hc := h.W.c g p o
  unfold zgv
  rw [zst_cm (V := zg0 V g p o) (k := (19, g, p, 0)) (k' := (20, g, p, 0)) (by simp)]
  exact ((h0.s20 ⟨by omega, fun _ => by omega⟩).s19 ⟨by omega, by omega⟩ (fun _ => by rw [zst_s]; omega)).s21 hx
theorem zJ_take (h : zJ P V) (hg : inG P g) (hp : inQ P g p) (ho : inM P (P 4 g 0) p o) (hz : znp P V g r (V (0, 0, 0, 0) 6) = 100 * p + o) : zJ P (zlw (zgv V g p o (V (0, 0, 0, 0) 6)) 0 g p o (V (0, 0, 0, 0) 6)) := by
  obtain ⟨h2, h19⟩ := zJ_tk2 h hg hp ho hz
  have hP := h.wp
  have hq := hP.n
  have hM := hP.m (hP.g hg) hp
  have hN := hP.t (hP.g hg)
  have hk := h.wv.W.k
  have hg2 := hg.2
  have hW : zWV P (zlw (zgv V g p o (V (0, 0, 0, 0) 6)) 0 g p o (V (0, 0, 0, 0) 6)) := (zgv_V hP h.wv hg hp ho h2 (by omega)).lw ⟨by omega, by omega⟩ ⟨by omega, by omega⟩ ⟨by omega, by omega⟩ ⟨by omega, by omega⟩ ⟨by omega, by omega⟩
  have hf : zfr (fun n => n == 1 || (n == 2 || (n == 18 || (n == 19 || (n == 20 || n == 21))))) V (zlw (zgv V g p o (V (0, 0, 0, 0) 6)) 0 g p o (V (0, 0, 0, 0) 6)) := (zgv_fr rfl rfl rfl rfl).tr (zlw_fr rfl rfl)
  have hc := h.wv.W.c g p o
  have hK := h.k0.gv hg hp ho h19 (by omega)
  obtain ⟨-, ⟨M, hM⟩, h3, h4, -⟩ := h
  exact ⟨hW, ⟨_, (o_take hM hg hp ho hz).1⟩, zTr_k hf ⟨rfl, rfl, rfl, rfl, rfl⟩ h3, zHD_k hf ⟨rfl, rfl, rfl, rfl⟩ h4, hK⟩
end ZTAKE
set_option maxHeartbeats 4000000 in
set_option maxRecDepth 100000 in
theorem c_X7_take {l : Launch} {Δ : zDl} {ad : zK → Nat} {Q : zP} {V : zS} {X : zMem}  (hJ : zJ Q V) (hX : X = mm Δ ad Q V z00) (hL : Δ.2.2.2.2.1 ≤ 3072) (hD : V (200, 0, 0, 0) 2 ≤ 930000) (h4 : V (0, 0, 0, 0) 4 ≤ 190) (h3 : 1 ≤ Q 3 0 0) : zMn l Δ yX7_take cX7_take 5 (some .boolean) 10 2 206 [.ref (ad (200, 0, 0, 0))] ad (pm Δ ad Q V X) (zAct Δ ad Q V 1000) := by
  refine zMn_of (by decide) (Nat.le_of_ble_eq_true rfl) (fun Γ hl hΔ hF => ?_)
  subst hl hΔ
  show G Γ _ _ _ RX7 _ _ _ _ _ [(0, .ref (ad (200, 0, 0, 0)))] []
  have hP := hJ.wp
  have hV := hJ.wv
  have hq := hP.n
  have hdw := hV.dw
  have hX2 : X (230, 0, 0, 0) = none ∧ X (231, 0, 0, 0) = none := by rw [hX]; exact ⟨rfl, rfl⟩
  refine G_aload_n (pc := 0) 0 0 dX7_take_0 rfl rfl ?_
  refine G_aload_n (pc := 1) 0 0 dX7_take_1 rfl rfl ?_
  refine G_getfV (pc := 2) (w := Q 3 0 0) fl_X7_105 dX7_take_2 pg_200 rfl (congrArg (fun z => Value.int (zI z)) hV.gn) ?_
  refine G_callV (pc := 5) gk_X7_94 dX7_take_5 pg_200 rfl (c_X7_draw (n := (Q 3 0 0)) hV (by assumption) ⟨by omega, by omega⟩) rfl rfl (Nat.le_of_ble_eq_true rfl) ⟨⟨Nat.le_of_ble_eq_true rfl, Nat.le_of_ble_eq_true rfl⟩, Nat.le_of_ble_eq_true rfl, Nat.le_of_ble_eq_true rfl⟩ (fun vx adx Mx hpo => ?_)
  obtain ⟨r5, hr5, rfl, hadx, rfl⟩ := hpo
  rw [hadx]
  show G Γ _ _ _ _ _ _ (0) (0) 8 [(0, .ref (ad (200, 0, 0, 0)))] [.int (zI r5)]
  refine G_nameV (fun V1_5 hV1_5 => ?_)
  have hVV1_5 : zWV Q V1_5 := by rw [hV1_5]; exact hV.s200_2 ⟨by omega, by omega⟩
  have hdV1_5 : V1_5 (200, 0, 0, 0) 2 = V (200, 0, 0, 0) 2 + 1 := by rw [hV1_5, zst_s]
  have hfV1_5 : ∀ k f, k ≠ (200, 0, 0, 0) → V1_5 k f = V k f := fun k f hk => by rw [hV1_5, zst_k _ _ _ _ hk]
  have hJV1_5 : zJ Q V1_5 := by rw [hV1_5]; exact zJ_dr hJ ⟨by omega, by omega⟩
  have hXV1_5 : X = mm (z_d Γ) ad Q V1_5 z00 := by rw [hV1_5, mm_st (by decide)]; exact hX
  refine G_istore_n (pc := 8) 1 [(1, .int (zI r5)), (0, .ref (ad (200, 0, 0, 0)))] dX7_take_8 rfl (by decide) rfl ?_
  refine G_aload_n (pc := 9) 0 1 dX7_take_9 rfl rfl ?_
  refine G_iconst (pc := 10) dX7_take_10 ?_
  refine G_callV (pc := 11) gk_X7_94 dX7_take_11 pg_200 rfl (c_X7_draw (n := 4) hVV1_5 (by assumption) ⟨by omega, by omega⟩) rfl rfl (Nat.le_of_ble_eq_true rfl) ⟨⟨Nat.le_of_ble_eq_true rfl, Nat.le_of_ble_eq_true rfl⟩, Nat.le_of_ble_eq_true rfl, Nat.le_of_ble_eq_true rfl⟩ (fun vx adx Mx hpo => ?_)
  obtain ⟨r11, hr11, rfl, hadx, rfl⟩ := hpo
  rw [hadx]
  show G Γ _ _ _ _ _ _ (0) (0) 14 [(1, .int (zI r5)), (0, .ref (ad (200, 0, 0, 0)))] [.int (zI r11)]
  refine G_nameV (fun V2_11 hV2_11 => ?_)
  have hVV2_11 : zWV Q V2_11 := by rw [hV2_11]; exact hVV1_5.s200_2 ⟨by omega, by omega⟩
  have hdV2_11 : V2_11 (200, 0, 0, 0) 2 = V1_5 (200, 0, 0, 0) 2 + 1 := by rw [hV2_11, zst_s]
  have hfV2_11 : ∀ k f, k ≠ (200, 0, 0, 0) → V2_11 k f = V1_5 k f := fun k f hk => by rw [hV2_11, zst_k _ _ _ _ hk]
  have hJV2_11 : zJ Q V2_11 := by rw [hV2_11]; exact zJ_dr hJV1_5 ⟨by omega, by omega⟩
  have hXV2_11 : X = mm (z_d Γ) ad Q V2_11 z00 := by rw [hV2_11, mm_st (by decide)]; exact hXV1_5
  refine G_istore_n (pc := 14) 2 [(2, .int (zI r11)), (1, .int (zI r5)), (0, .ref (ad (200, 0, 0, 0)))] dX7_take_14 rfl (by decide) rfl ?_
  have hg : inG Q r5 := ⟨by omega, by omega⟩
  have hV2 := hJV2_11.wv
  have h17 := hV2.in2 r5 r11
  have hd2 : V2_11 (200, 0, 0, 0) 2 ≤ V (200, 0, 0, 0) 2 + 1000 := by omega
  have f4 : V2_11 (0, 0, 0, 0) 4 = V (0, 0, 0, 0) 4 := (hfV2_11 _ _ (by decide)).trans (hfV1_5 _ _ (by decide))
  have f6 : V2_11 (0, 0, 0, 0) 6 = V (0, 0, 0, 0) 6 := (hfV2_11 _ _ (by decide)).trans (hfV1_5 _ _ (by decide))
  have f1 : V2_11 (1, 0, 0, 0) 1 = V (1, 0, 0, 0) 1 := (hfV2_11 _ _ (by decide)).trans (hfV1_5 _ _ (by decide))
  refine G_aload_n (pc := 15) 0 2 dX7_take_15 rfl rfl ?_
  refine G_getf (pc := 16) fl_X7_65 dX7_take_16 pg_200 rfl ?_
  refine G_iload_n (pc := 19) 1 1 dX7_take_19 rfl rfl ?_
  refine G_aldA (pc := 20) (t := 8) rfl dX7_take_20 pg_220 ⟨by omega, by omega, by omega, by omega⟩ rfl ?_
  refine G_iload_n (pc := 21) 2 0 dX7_take_21 rfl rfl ?_
  refine G_zaldV (pc := 22) (V2_11 (17, r5, 0, 0) r11) dX7_take_22 (pg_221 (by first | assumption | omega | exact ⟨by omega, by omega⟩ | exact ⟨⟨by omega, by omega⟩, by omega⟩ | exact zWV.R (by assumption) _ _)) ⟨by omega, by omega, by omega, by omega⟩ rfl ?_
  refine G_if_ne (pc := 23) 45 dX7_take_23 (by decide) (by first | exact zWV.R (by assumption) _ _ | exact ⟨by omega, by omega⟩ | assumption | (subst_vars; first | exact zWV.R (by assumption) _ _ | exact ⟨by omega, by omega⟩)) (fun c23 => ?_) (fun c23 => ?_)
  · refine G_aload_n (pc := 45) 0 2 dX7_take_45 rfl rfl ?_
    refine G_iload_n (pc := 46) 1 1 dX7_take_46 rfl rfl ?_
    refine G_iload_n (pc := 47) 2 0 dX7_take_47 rfl rfl ?_
    refine G_callVd (pc := 48) gk_X7_202 dX7_take_48 pg_200 rfl (c_X7_would (by first | assumption | omega | exact ⟨by omega, by omega⟩ | exact ⟨⟨by omega, by omega⟩, by omega⟩ | exact zWV.R (by assumption) _ _) (by first | assumption | omega | exact ⟨by omega, by omega⟩ | exact ⟨⟨by omega, by omega⟩, by omega⟩ | exact zWV.R (by assumption) _ _) (by first | assumption | omega | exact ⟨by omega, by omega⟩ | exact ⟨⟨by omega, by omega⟩, by omega⟩ | exact zWV.R (by assumption) _ _) (by first | assumption | omega | exact ⟨by omega, by omega⟩ | exact ⟨⟨by omega, by omega⟩, by omega⟩ | exact zWV.R (by assumption) _ _)) rfl rfl (Nat.le_of_ble_eq_true rfl) ⟨⟨Nat.le_of_ble_eq_true rfl, Nat.le_of_ble_eq_true rfl⟩, Nat.le_of_ble_eq_true rfl, Nat.le_of_ble_eq_true rfl⟩ ?_
    refine G_istore_ne (pc := 51) 3 (fun zw => [(3, .int (zI zw)), (2, .int (zI r11)), (1, .int (zI r5)), (0, .ref (ad (200, 0, 0, 0)))]) dX7_take_51 rfl (by decide) (fun _ => rfl) (fun v51 e51 => ?_)
    have hz : v51 = znp Q V2_11 r5 r11 (V2_11 (0, 0, 0, 0) 6) := by rw [e51, if_neg c23]
    have hzR := znp_R hP hV2.W (x := V2_11 (0, 0, 0, 0) 6) (r := r11) hg
    refine G_iload_n (pc := 52) 3 0 dX7_take_52 rfl rfl ?_
    refine G_if_lt (pc := 53) 160 dX7_take_53 (by decide) (by first | exact zWV.R (by assumption) _ _ | exact ⟨by omega, by omega⟩ | assumption | (subst_vars; first | exact zWV.R (by assumption) _ _ | exact ⟨by omega, by omega⟩)) (fun c53 => ?_) (fun c53 => ?_)
    · first | (have hS8 : V2_11 = zlw (zgv V2_11 r5 (v51 / 100) (v51 % 100) (V2_11 (0, 0, 0, 0) 6)) 0 r5 (v51 / 100) (v51 % 100) (V2_11 (0, 0, 0, 0) 6) := by rw [hV2_11, hS7]; exact zkA_id hJT.xz) | skip
      refine G_aload_n (pc := 160) 0 3 dX7_take_160 rfl rfl ?_
      refine G_getf (pc := 161) fl_X7_10 dX7_take_161 pg_200 rfl ?_
      refine G_iload_n (pc := 164) 1 2 dX7_take_164 rfl rfl ?_
      refine G_iload_n (pc := 165) 2 1 dX7_take_165 rfl rfl ?_
      rw [show X = mm (z_d Γ) ad Q V2_11 z00 from hXV2_11, pm_mm]
      refine G_callV (pc := 166) gk_X7_199 dX7_take_166 mg_0 rfl (c_X6_wouldTake (g := r5) (r := r11) hP (by omega) hJV2_11.wv.W (by omega)) rfl rfl (Nat.le_of_ble_eq_true rfl) ⟨⟨Nat.le_of_ble_eq_true rfl, Nat.le_of_ble_eq_true rfl⟩, Nat.le_of_ble_eq_true rfl, Nat.le_of_ble_eq_true rfl⟩ (fun vx adx Mx hpo => ?_)
      obtain ⟨rfl, hadx, rfl⟩ := hpo
      rw [hadx]
      rw [← hz]
      show G Γ _ _ _ _ _ _ (0) (0) 169 [(3, .int (zI v51)), (2, .int (zI r11)), (1, .int (zI r5)), (0, .ref (ad (200, 0, 0, 0)))] [.int (zI v51)]
      rw [← pm_mm]
      refine G_iload_n (pc := 169) 3 0 dX7_take_169 rfl rfl ?_
      refine G_icmp_ne (pc := 170) 190 dX7_take_170 (by decide) (by first | exact zWV.R (by assumption) _ _ | exact ⟨by omega, by omega⟩ | assumption | (subst_vars; first | exact zWV.R (by assumption) _ _ | exact ⟨by omega, by omega⟩)) (by first | exact zWV.R (by assumption) _ _ | exact ⟨by omega, by omega⟩ | assumption | (subst_vars; first | exact zWV.R (by assumption) _ _ | exact ⟨by omega, by omega⟩)) (fun c170 => ?_) (fun c170 => ?_)
      · exfalso
        exact c170 rfl
      · refine G_aload_n (pc := 173) 0 3 dX7_take_173 rfl rfl ?_
        refine G_getf (pc := 174) fl_X7_10 dX7_take_174 pg_200 rfl ?_
        refine G_iload_n (pc := 177) 1 2 dX7_take_177 rfl rfl ?_
        refine G_iload_n (pc := 178) 2 1 dX7_take_178 rfl rfl ?_
        rw [pm_mm]
        refine G_callV (pc := 179) gk_X7_205 dX7_take_179 mg_0 rfl (c_X6_take_n (g := r5) (r := r11) hP (by omega) hJV2_11.wv.W (by omega) c23 (by omega)) rfl rfl (Nat.le_of_ble_eq_true rfl) ⟨⟨Nat.le_of_ble_eq_true rfl, Nat.le_of_ble_eq_true rfl⟩, Nat.le_of_ble_eq_true rfl, Nat.le_of_ble_eq_true rfl⟩ (fun vx adx Mx hpo => ?_)
        obtain ⟨rfl, hadx, rfl⟩ := hpo
        rw [hadx]
        rw [show (-1 : Int) = v51 by omega]
        show G Γ _ _ _ _ _ _ (0) (0) 182 [(3, .int (zI v51)), (2, .int (zI r11)), (1, .int (zI r5)), (0, .ref (ad (200, 0, 0, 0)))] [.int (zI v51)]
        rw [← pm_mm]
        refine G_iload_n (pc := 182) 3 0 dX7_take_182 rfl rfl ?_
        refine G_icmp_ne (pc := 183) 190 dX7_take_183 (by decide) (by first | exact zWV.R (by assumption) _ _ | exact ⟨by omega, by omega⟩ | assumption | (subst_vars; first | exact zWV.R (by assumption) _ _ | exact ⟨by omega, by omega⟩)) (by first | exact zWV.R (by assumption) _ _ | exact ⟨by omega, by omega⟩ | assumption | (subst_vars; first | exact zWV.R (by assumption) _ _ | exact ⟨by omega, by omega⟩)) (fun c183 => ?_) (fun c183 => ?_)
        · exfalso
          exact c183 rfl
        · refine G_iconst (pc := 186) dX7_take_186 ?_
          refine G_goto (pc := 187) 191 dX7_take_187 (by decide) ?_
          exact G_zret (pc := 191) hF dX7_take_191 ⟨Nat.le_of_ble_eq_true rfl, Nat.le_of_ble_eq_true rfl⟩ (by first | exact zb_ite | omega) (by first | exact ⟨rfl, Q, V2_11, ⟨rfl, rfl⟩, rfl, hJV2_11, hd2, by omega, by omega, by omega, by omega, by omega⟩ | exact ⟨rfl, Q, V2_11, hA, by rw [hS8]; rfl, by rw [hS8]; exact hJT, by rw [hS8, zlw_k ⟨by simp, by simp⟩, zgv_k rfl]; exact hd2, by rw [hS8, zlw_k ⟨by simp, by simp⟩, zgv_k rfl]; omega, by rw [hS8, zlw_k ⟨by simp, by simp⟩, zgv_k rfl]; omega, by rw [hS8]; exact Int.le_trans (by rw [zgv_k rfl, f1]; exact Int.le_refl _) (zlw_l (V := zgv V2_11 r5 (v51 / 100) (v51 % 100) (V2_11 (0, 0, 0, 0) 6))), by omega, by omega⟩)
    · obtain ⟨hp, ho, hz2⟩ := znp_po hJV2_11 hg (r := r11) hz (by omega)
      have hG := hP.g hg
      have hN := hP.t hG
      have hM := hP.m hG hp
      obtain ⟨ht2, hn1⟩ := zJ_tk2 hJV2_11 hg hp ho (r := r11) hz2
      have hk := hV2.W.k
      have hc0 := hV2.W.c r5 (v51 / 100) (v51 % 100)
      refine G_aload_n (pc := 56) 0 3 dX7_take_56 rfl rfl ?_
      refine G_getf (pc := 57) fl_X7_25 dX7_take_57 pg_200 rfl ?_
      refine G_aload_n (pc := 60) 0 3 dX7_take_60 rfl rfl ?_
      refine G_getf (pc := 61) fl_X7_51 dX7_take_61 pg_200 rfl ?_
      refine G_iload_n (pc := 64) 1 2 dX7_take_64 rfl rfl ?_
      refine G_ialdV (pc := 65) (Q 4 r5 0) dX7_take_65 pg_213 ⟨by omega, by omega, by omega, by omega⟩ (hVV2_11.of (by first | assumption | omega | exact ⟨by omega, by omega⟩ | exact ⟨⟨by omega, by omega⟩, by omega⟩ | exact zWV.R (by assumption) _ _)) ?_
      refine G_aldA (pc := 66) (t := 7) rfl dX7_take_66 pg_201 ⟨by omega, by omega, by omega, by omega⟩ rfl ?_
      refine G_iload_n (pc := 67) 3 0 dX7_take_67 rfl rfl ?_
      refine G_bipush (pc := 68) dX7_take_68 (by decide) ?_
      refine G_idiv (pc := 70) dX7_take_70 ⟨by omega, by omega, by omega⟩ ⟨by omega, by omega, by omega⟩ ?_
      refine G_aldA (pc := 71) (t := 6) rfl dX7_take_71 (pg_202 (by first | assumption | omega | exact ⟨by omega, by omega⟩ | exact ⟨⟨by omega, by omega⟩, by omega⟩ | exact zWV.R (by assumption) _ _)) ⟨by omega, by omega, by omega, by omega⟩ rfl ?_
      refine G_iload_n (pc := 72) 3 0 dX7_take_72 rfl rfl ?_
      refine G_bipush (pc := 73) dX7_take_73 (by decide) ?_
      refine G_irem (pc := 75) dX7_take_75 ⟨by omega, by omega, by omega⟩ ⟨by omega, by omega, by omega⟩ ?_
      refine G_aldA (pc := 76) (t := 5) rfl dX7_take_76 (pg_203 (by first | assumption | omega | exact ⟨by omega, by omega⟩ | exact ⟨⟨by omega, by omega⟩, by omega⟩ | exact zWV.R (by assumption) _ _)) ⟨by omega, by omega, by omega, by omega⟩ rfl ?_
      refine G_astore (pc := 77) [(4, .ref (ad (204, Q 4 r5 0, v51 / 100, v51 % 100))), (3, .int (zI v51)), (2, .int (zI r11)), (1, .int (zI r5)), (0, .ref (ad (200, 0, 0, 0)))] dX7_take_77 (by decide) rfl ?_
      refine G_aload (pc := 79) 0 dX7_take_79 rfl ?_
      refine G_iconst (pc := 81) dX7_take_81 ?_
      refine G_iconst (pc := 82) dX7_take_82 ?_
      refine G_iload_n (pc := 83) 1 3 dX7_take_83 rfl rfl ?_
      refine G_imul (pc := 84) dX7_take_84 ?_
      refine G_iadd (pc := 85) dX7_take_85 ?_
      refine G_ialdV (pc := 86) (V2_11 (19, r5, (v51 / 100), 0) (v51 % 100)) dX7_take_86 (pg_204 (by first | assumption | omega | exact ⟨by omega, by omega⟩ | exact ⟨⟨by omega, by omega⟩, by omega⟩ | exact zWV.R (by assumption) _ _)) ⟨by omega, by omega, by omega, by omega⟩ (zpr_5 (by first | assumption | omega | exact ⟨by omega, by omega⟩ | exact ⟨⟨by omega, by omega⟩, by omega⟩ | exact zWV.R (by assumption) _ _) rfl) ?_
      refine G_if_ne (pc := 87) 107 dX7_take_87 (by decide) (by first | exact zWV.R (by assumption) _ _ | exact ⟨by omega, by omega⟩ | assumption | (subst_vars; first | exact zWV.R (by assumption) _ _ | exact ⟨by omega, by omega⟩)) (fun c87 => ?_) (fun c87 => ?_)
      · have hg0 : V2_11 = zg0 V2_11 r5 (v51 / 100) (v51 % 100) := by unfold zg0; first | exact (if_neg (by assumption)).symm | (rw [if_pos (by assumption)]; exact hV2_11)
        have hq20 : ∀ f, V2_11 (20, r5, (v51 / 100), 0) f = V2_11 (20, r5, (v51 / 100), 0) f := fun f => (congrFun (congrFun hg0 _) f).trans (zg0_k rfl)
        have hq0 : ∀ f, V2_11 (0, 0, 0, 0) f = V2_11 (0, 0, 0, 0) f := fun f => (congrFun (congrFun hg0 _) f).trans (zg0_k rfl)
        refine G_aload (pc := 107) 0 dX7_take_107 rfl ?_
        refine G_iconst (pc := 109) dX7_take_109 ?_
        refine G_iconst (pc := 110) dX7_take_110 ?_
        refine G_iload_n (pc := 111) 1 3 dX7_take_111 rfl rfl ?_
        refine G_imul (pc := 112) dX7_take_112 ?_
        refine G_iadd (pc := 113) dX7_take_113 ?_
        refine G_iconst (pc := 114) dX7_take_114 ?_
        refine G_iast (pc := 115) dX7_take_115 (pg_204 (by first | assumption | omega | exact ⟨by omega, by omega⟩ | exact ⟨⟨by omega, by omega⟩, by omega⟩ | exact zWV.R (by assumption) _ _)) ⟨by omega, by omega, by omega, by omega⟩ (pp_204_5 (by first | assumption | omega | exact ⟨by omega, by omega⟩ | exact ⟨⟨by omega, by omega⟩, by omega⟩ | exact zWV.R (by assumption) _ _) (by first | assumption | omega | exact ⟨by omega, by omega⟩ | exact ⟨⟨by omega, by omega⟩, by omega⟩ | exact zWV.R (by assumption) _ _) rfl) ?_
        refine G_nameV (fun V3_115 hV3_115 => ?_)
        refine G_aload (pc := 116) 0 dX7_take_116 rfl ?_
        refine G_bipush (pc := 118) dX7_take_118 (by decide) ?_
        refine G_iconst (pc := 120) dX7_take_120 ?_
        refine G_iload_n (pc := 121) 1 3 dX7_take_121 rfl rfl ?_
        refine G_imul (pc := 122) dX7_take_122 ?_
        refine G_iadd (pc := 123) dX7_take_123 ?_
        refine G_dup2 (pc := 124) dX7_take_124 rfl rfl ?_
        refine G_ialdV (pc := 125) (V3_115 (20, r5, (v51 / 100), 0) (v51 % 100)) dX7_take_125 (pg_204 (by first | assumption | omega | exact ⟨by omega, by omega⟩ | exact ⟨⟨by omega, by omega⟩, by omega⟩ | exact zWV.R (by assumption) _ _)) ⟨by omega, by omega, by omega, by omega⟩ (zpr_6 (by first | assumption | omega | exact ⟨by omega, by omega⟩ | exact ⟨⟨by omega, by omega⟩, by omega⟩ | exact zWV.R (by assumption) _ _) rfl) ?_
        refine G_iconst (pc := 126) dX7_take_126 ?_
        refine G_iadd (pc := 127) dX7_take_127 ?_
        refine G_iast (pc := 128) dX7_take_128 (pg_204 (by first | assumption | omega | exact ⟨by omega, by omega⟩ | exact ⟨⟨by omega, by omega⟩, by omega⟩ | exact zWV.R (by assumption) _ _)) ⟨by omega, by omega, by omega, by omega⟩ (pp_204_6 (by first | assumption | omega | exact ⟨by omega, by omega⟩ | exact ⟨⟨by omega, by omega⟩, by omega⟩ | exact zWV.R (by assumption) _ _) (by first | assumption | omega | exact ⟨by omega, by omega⟩ | exact ⟨⟨by omega, by omega⟩, by omega⟩ | exact zWV.R (by assumption) _ _) rfl) ?_
        refine G_nameV (fun V4_128 hV4_128 => ?_)
        refine G_aload (pc := 129) 0 dX7_take_129 rfl ?_
        refine G_bipush (pc := 131) dX7_take_131 (by decide) ?_
        refine G_iconst (pc := 133) dX7_take_133 ?_
        refine G_iload_n (pc := 134) 1 3 dX7_take_134 rfl rfl ?_
        refine G_imul (pc := 135) dX7_take_135 ?_
        refine G_iadd (pc := 136) dX7_take_136 ?_
        refine G_aload_n (pc := 137) 0 4 dX7_take_137 rfl rfl ?_
        refine G_getf (pc := 138) fl_X7_119 dX7_take_138 pg_200 rfl ?_
        refine G_iast (pc := 141) dX7_take_141 (pg_204 (by first | assumption | omega | exact ⟨by omega, by omega⟩ | exact ⟨⟨by omega, by omega⟩, by omega⟩ | exact zWV.R (by assumption) _ _)) ⟨by omega, by omega, by omega, by omega⟩ (pp_204_7 (by first | assumption | omega | exact ⟨by omega, by omega⟩ | exact ⟨⟨by omega, by omega⟩, by omega⟩ | exact zWV.R (by assumption) _ _) (by first | assumption | omega | exact ⟨by omega, by omega⟩ | exact ⟨⟨by omega, by omega⟩, by omega⟩ | exact zWV.R (by assumption) _ _) rfl) ?_
        refine G_nameV (fun V5_141 hV5_141 => ?_)
        have hzg : V5_141 = zgv V2_11 r5 (v51 / 100) (v51 % 100) (V2_11 (0, 0, 0, 0) 6) := by rw [hV5_141, hV4_128, hV3_115, zst_k _ _ _ _ (show ((0, 0, 0, 0) : zK) ≠ (20, r5, (v51 / 100), 0) by simp), zst_k _ _ _ _ (show ((0, 0, 0, 0) : zK) ≠ (19, r5, (v51 / 100), 0) by simp), zst_k _ _ _ _ (show ((20, r5, (v51 / 100), 0) : zK) ≠ (19, r5, (v51 / 100), 0) by simp), hq20, hq0]; unfold zgv; rw [← hg0]
        have hVV5_141 : zWV Q V5_141 := by rw [hzg]; exact zgv_V hP hV2 hg hp ho ht2 (by omega)
        refine G_aload_n (pc := 142) 0 4 dX7_take_142 rfl rfl ?_
        refine G_iconst (pc := 143) dX7_take_143 ?_
        refine G_iload_n (pc := 144) 1 3 dX7_take_144 rfl rfl ?_
        refine G_iload_n (pc := 145) 3 1 dX7_take_145 rfl rfl ?_
        refine G_bipush (pc := 146) dX7_take_146 (by decide) ?_
        refine G_idiv (pc := 148) dX7_take_148 ⟨by omega, by omega, by omega⟩ ⟨by omega, by omega, by omega⟩ ?_
        refine G_iload_n (pc := 149) 3 1 dX7_take_149 rfl rfl ?_
        refine G_bipush (pc := 150) dX7_take_150 (by decide) ?_
        refine G_irem (pc := 152) dX7_take_152 ⟨by omega, by omega, by omega⟩ ⟨by omega, by omega, by omega⟩ ?_
        refine G_callV (pc := 153) gk_X7_168 dX7_take_153 pg_200 rfl (c_X7_write (s := 0) (g := r5) (p := (v51 / 100)) (o := (v51 % 100)) hVV5_141 (by assumption)) rfl rfl (Nat.le_of_ble_eq_true rfl) ⟨⟨(by exact Nat.le_of_ble_eq_true rfl), (by exact Nat.le_of_ble_eq_true rfl)⟩, (by exact Nat.le_of_ble_eq_true rfl), (by exact Nat.le_of_ble_eq_true rfl)⟩ (fun vx ad1 Mx hpo => ?_)
        obtain ⟨rfl, had1, rfl⟩ := hpo
        show G Γ _ _ _ _ _ _ (2) (206) 156 [(4, .ref (ad (204, Q 4 r5 0, v51 / 100, v51 % 100))), (3, .int (zI v51)), (2, .int (zI r11)), (1, .int (zI r5)), (0, .ref (ad (200, 0, 0, 0)))] []
        rw [← had1 (204, Q 4 r5 0, v51 / 100, v51 % 100) (by simp) (by simp) (by simp) (by simp)]
        rw [← had1 (200, 0, 0, 0) (by simp) (by simp) (by simp) (by simp)]
        refine G_nameV (fun V6_153 hV6_153 => ?_)
        have hVV6_153 : zWV Q V6_153 := by rw [hV6_153]; exact hVV5_141.lw (by first | assumption | exact ⟨by omega, by omega⟩ | exact zWV.R (by assumption) _ _) (by first | assumption | exact ⟨by omega, by omega⟩ | exact zWV.R (by assumption) _ _) (by first | assumption | exact ⟨by omega, by omega⟩ | exact zWV.R (by assumption) _ _) (by first | assumption | exact ⟨by omega, by omega⟩ | exact zWV.R (by assumption) _ _) (by first | assumption | exact ⟨by omega, by omega⟩ | exact zWV.R (by assumption) _ _)
        have hJT := zJ_take hJV2_11 hg hp ho (r := r11) hz2
        have hS7 : V6_153 = zlw (zgv V2_11 r5 (v51 / 100) (v51 % 100) (V2_11 (0, 0, 0, 0) 6)) 0 r5 (v51 / 100) (v51 % 100) (V2_11 (0, 0, 0, 0) 6) := by rw [hV6_153, hzg]; congr 1; exact zgv_k rfl
        have hs7 : zSet Q V6_153 := by rw [hS7]; exact hJT.st
        have hXa : X = mm (z_d Γ) ad1 Q V2_11 z00 := by rw [hXV2_11]; exact (mm_ad (fun k hk => had1 k (by omega) (by omega) (by omega) (by omega))).symm
        have hA : ad1 (0, 0, 0, 0) = ad (0, 0, 0, 0) ∧ ad1 (200, 0, 0, 0) = ad (200, 0, 0, 0) := ⟨had1 _ (by decide) (by decide) (by decide) (by decide), had1 _ (by decide) (by decide) (by decide) (by decide)⟩
        refine G_aload_n (pc := 156) 0 4 dX7_take_156 rfl rfl ?_
        refine G_callVv (pc := 157) gk_X7_126 dX7_take_157 pg_200 rfl (c_X7_settle (by first | assumption | omega | exact ⟨by omega, by omega⟩ | exact ⟨⟨by omega, by omega⟩, by omega⟩ | exact zWV.R (by assumption) _ _) (by first | assumption | omega | exact ⟨by omega, by omega⟩ | exact ⟨⟨by omega, by omega⟩, by omega⟩ | exact zWV.R (by assumption) _ _) hs7) rfl rfl (Nat.le_of_ble_eq_true rfl) ⟨⟨Nat.le_of_ble_eq_true rfl, Nat.le_of_ble_eq_true rfl⟩, Nat.le_of_ble_eq_true rfl, Nat.le_of_ble_eq_true rfl⟩ ?_
        refine G_nameV (fun V7_157 hV7_157 => ?_)
        have hVV7_157 : zWV Q V7_157 := by rw [hV7_157]; exact zkA_V hP hVV6_153
        first | (have hS8 : V7_157 = zlw (zgv V2_11 r5 (v51 / 100) (v51 % 100) (V2_11 (0, 0, 0, 0) 6)) 0 r5 (v51 / 100) (v51 % 100) (V2_11 (0, 0, 0, 0) 6) := by rw [hV7_157, hS7]; exact zkA_id hJT.xz) | skip
        refine G_aload_n (pc := 160) 0 4 dX7_take_160 rfl rfl ?_
        refine G_getf (pc := 161) fl_X7_10 dX7_take_161 pg_200 rfl ?_
        refine G_iload_n (pc := 164) 1 3 dX7_take_164 rfl rfl ?_
        refine G_iload_n (pc := 165) 2 2 dX7_take_165 rfl rfl ?_
        rw [show X = mm (z_d Γ) ad1 Q V2_11 z00 from hXa, pm_mm]
        refine G_callV (pc := 166) gk_X7_199 dX7_take_166 mg_0 rfl (c_X6_wouldTake (g := r5) (r := r11) hP (by omega) hJV2_11.wv.W (by omega)) rfl rfl (Nat.le_of_ble_eq_true rfl) ⟨⟨Nat.le_of_ble_eq_true rfl, Nat.le_of_ble_eq_true rfl⟩, Nat.le_of_ble_eq_true rfl, Nat.le_of_ble_eq_true rfl⟩ (fun vx adx Mx hpo => ?_)
        obtain ⟨rfl, hadx, rfl⟩ := hpo
        rw [hadx]
        rw [← hz]
        show G Γ _ _ _ _ _ _ (2) (206) 169 [(4, .ref (ad1 (204, Q 4 r5 0, v51 / 100, v51 % 100))), (3, .int (zI v51)), (2, .int (zI r11)), (1, .int (zI r5)), (0, .ref (ad1 (200, 0, 0, 0)))] [.int (zI v51)]
        rw [← pm_mm]
        refine G_iload_n (pc := 169) 3 1 dX7_take_169 rfl rfl ?_
        refine G_icmp_ne (pc := 170) 190 dX7_take_170 (by decide) (by first | exact zWV.R (by assumption) _ _ | exact ⟨by omega, by omega⟩ | assumption | (subst_vars; first | exact zWV.R (by assumption) _ _ | exact ⟨by omega, by omega⟩)) (by first | exact zWV.R (by assumption) _ _ | exact ⟨by omega, by omega⟩ | assumption | (subst_vars; first | exact zWV.R (by assumption) _ _ | exact ⟨by omega, by omega⟩)) (fun c170 => ?_) (fun c170 => ?_)
        · exfalso
          exact c170 rfl
        · refine G_aload_n (pc := 173) 0 4 dX7_take_173 rfl rfl ?_
          refine G_getf (pc := 174) fl_X7_10 dX7_take_174 pg_200 rfl ?_
          refine G_iload_n (pc := 177) 1 3 dX7_take_177 rfl rfl ?_
          refine G_iload_n (pc := 178) 2 2 dX7_take_178 rfl rfl ?_
          rw [pm_mm]
          refine G_callV (pc := 179) gk_X7_205 dX7_take_179 mg_0 rfl (c_X6_take_o (g := r5) (r := r11) (p := (v51 / 100)) (o := (v51 % 100)) hP (by omega) hp hJV2_11.wv.W (by omega) ho c23 (by omega) ht2) rfl rfl (Nat.le_of_ble_eq_true rfl) ⟨⟨Nat.le_of_ble_eq_true rfl, Nat.le_of_ble_eq_true rfl⟩, Nat.le_of_ble_eq_true rfl, Nat.le_of_ble_eq_true rfl⟩ (fun vx adx Mx hpo => ?_)
          obtain ⟨rfl, hadx, rfl⟩ := hpo
          rw [hadx]
          rw [show 100 * (v51 / 100) + (v51 % 100) = v51 by omega]
          show G Γ _ _ _ _ _ _ (2) (206) 182 [(4, .ref (ad1 (204, Q 4 r5 0, v51 / 100, v51 % 100))), (3, .int (zI v51)), (2, .int (zI r11)), (1, .int (zI r5)), (0, .ref (ad1 (200, 0, 0, 0)))] [.int (zI v51)]
          rw [← pm_mm]
          refine G_iload_n (pc := 182) 3 1 dX7_take_182 rfl rfl ?_
          refine G_icmp_ne (pc := 183) 190 dX7_take_183 (by decide) (by first | exact zWV.R (by assumption) _ _ | exact ⟨by omega, by omega⟩ | assumption | (subst_vars; first | exact zWV.R (by assumption) _ _ | exact ⟨by omega, by omega⟩)) (by first | exact zWV.R (by assumption) _ _ | exact ⟨by omega, by omega⟩ | assumption | (subst_vars; first | exact zWV.R (by assumption) _ _ | exact ⟨by omega, by omega⟩)) (fun c183 => ?_) (fun c183 => ?_)
          · exfalso
            exact c183 rfl
          · refine G_iconst (pc := 186) dX7_take_186 ?_
            refine G_goto (pc := 187) 191 dX7_take_187 (by decide) ?_
            exact G_zret (pc := 191) hF dX7_take_191 ⟨Nat.le_of_ble_eq_true rfl, Nat.le_of_ble_eq_true rfl⟩ (by first | exact zb_ite | omega) (by first | exact ⟨rfl, Q, V2_11, ⟨rfl, rfl⟩, rfl, hJV2_11, hd2, by omega, by omega, by omega, by omega, by omega⟩ | exact ⟨rfl, Q, V7_157, hA, by rw [hS8]; rfl, by rw [hS8]; exact hJT, by rw [hS8, zlw_k ⟨by simp, by simp⟩, zgv_k rfl]; exact hd2, by rw [hS8, zlw_k ⟨by simp, by simp⟩, zgv_k rfl]; omega, by rw [hS8, zlw_k ⟨by simp, by simp⟩, zgv_k rfl]; omega, by rw [hS8]; exact Int.le_trans (by rw [zgv_k rfl, f1]; exact Int.le_refl _) (zlw_l (V := zgv V2_11 r5 (v51 / 100) (v51 % 100) (V2_11 (0, 0, 0, 0) 6))), by omega, by omega⟩)
      · refine G_aload_n (pc := 90) 0 4 dX7_take_90 rfl rfl ?_
        refine G_getf (pc := 91) fl_X7_57 dX7_take_91 pg_200 rfl ?_
        refine G_iload_n (pc := 94) 1 3 dX7_take_94 rfl rfl ?_
        refine G_aldA (pc := 95) (t := 5) rfl dX7_take_95 pg_216 ⟨by omega, by omega, by omega, by omega⟩ rfl ?_
        refine G_iload_n (pc := 96) 3 1 dX7_take_96 rfl rfl ?_
        refine G_bipush (pc := 97) dX7_take_97 (by decide) ?_
        refine G_idiv (pc := 99) dX7_take_99 ⟨by omega, by omega, by omega⟩ ⟨by omega, by omega, by omega⟩ ?_
        refine G_iload_n (pc := 100) 3 1 dX7_take_100 rfl rfl ?_
        refine G_bipush (pc := 101) dX7_take_101 (by decide) ?_
        refine G_irem (pc := 103) dX7_take_103 ⟨by omega, by omega, by omega⟩ ⟨by omega, by omega, by omega⟩ ?_
        refine G_iconst (pc := 104) dX7_take_104 ?_
        refine G_iadd (pc := 105) dX7_take_105 ?_
        refine G_iast (pc := 106) dX7_take_106 (pg_217 (by first | assumption | omega | exact ⟨by omega, by omega⟩ | exact ⟨⟨by omega, by omega⟩, by omega⟩ | exact zWV.R (by assumption) _ _)) ⟨by omega, by omega, by omega, by omega⟩ (pp_217 (by first | assumption | omega | exact ⟨by omega, by omega⟩ | exact ⟨⟨by omega, by omega⟩, by omega⟩ | exact zWV.R (by assumption) _ _)) ?_
        refine G_nameV (fun V8_106 hV8_106 => ?_)
        have hVV8_106 : zWV Q V8_106 := by rw [hV8_106]; exact hVV2_11.s18 ⟨by omega, by omega⟩ (fun _ _ _ => by omega)
        have hg0 : V8_106 = zg0 V2_11 r5 (v51 / 100) (v51 % 100) := by unfold zg0; first | exact (if_neg (by assumption)).symm | (rw [if_pos (by assumption)]; exact hV8_106)
        have hq20 : ∀ f, V8_106 (20, r5, (v51 / 100), 0) f = V2_11 (20, r5, (v51 / 100), 0) f := fun f => (congrFun (congrFun hg0 _) f).trans (zg0_k rfl)
        have hq0 : ∀ f, V8_106 (0, 0, 0, 0) f = V2_11 (0, 0, 0, 0) f := fun f => (congrFun (congrFun hg0 _) f).trans (zg0_k rfl)
        refine G_aload (pc := 107) 0 dX7_take_107 rfl ?_
        refine G_iconst (pc := 109) dX7_take_109 ?_
        refine G_iconst (pc := 110) dX7_take_110 ?_
        refine G_iload_n (pc := 111) 1 3 dX7_take_111 rfl rfl ?_
        refine G_imul (pc := 112) dX7_take_112 ?_
        refine G_iadd (pc := 113) dX7_take_113 ?_
        refine G_iconst (pc := 114) dX7_take_114 ?_
        refine G_iast (pc := 115) dX7_take_115 (pg_204 (by first | assumption | omega | exact ⟨by omega, by omega⟩ | exact ⟨⟨by omega, by omega⟩, by omega⟩ | exact zWV.R (by assumption) _ _)) ⟨by omega, by omega, by omega, by omega⟩ (pp_204_5 (by first | assumption | omega | exact ⟨by omega, by omega⟩ | exact ⟨⟨by omega, by omega⟩, by omega⟩ | exact zWV.R (by assumption) _ _) (by first | assumption | omega | exact ⟨by omega, by omega⟩ | exact ⟨⟨by omega, by omega⟩, by omega⟩ | exact zWV.R (by assumption) _ _) rfl) ?_
        refine G_nameV (fun V9_115 hV9_115 => ?_)
        refine G_aload (pc := 116) 0 dX7_take_116 rfl ?_
        refine G_bipush (pc := 118) dX7_take_118 (by decide) ?_
        refine G_iconst (pc := 120) dX7_take_120 ?_
        refine G_iload_n (pc := 121) 1 3 dX7_take_121 rfl rfl ?_
        refine G_imul (pc := 122) dX7_take_122 ?_
        refine G_iadd (pc := 123) dX7_take_123 ?_
        refine G_dup2 (pc := 124) dX7_take_124 rfl rfl ?_
        refine G_ialdV (pc := 125) (V9_115 (20, r5, (v51 / 100), 0) (v51 % 100)) dX7_take_125 (pg_204 (by first | assumption | omega | exact ⟨by omega, by omega⟩ | exact ⟨⟨by omega, by omega⟩, by omega⟩ | exact zWV.R (by assumption) _ _)) ⟨by omega, by omega, by omega, by omega⟩ (zpr_6 (by first | assumption | omega | exact ⟨by omega, by omega⟩ | exact ⟨⟨by omega, by omega⟩, by omega⟩ | exact zWV.R (by assumption) _ _) rfl) ?_
        refine G_iconst (pc := 126) dX7_take_126 ?_
        refine G_iadd (pc := 127) dX7_take_127 ?_
        refine G_iast (pc := 128) dX7_take_128 (pg_204 (by first | assumption | omega | exact ⟨by omega, by omega⟩ | exact ⟨⟨by omega, by omega⟩, by omega⟩ | exact zWV.R (by assumption) _ _)) ⟨by omega, by omega, by omega, by omega⟩ (pp_204_6 (by first | assumption | omega | exact ⟨by omega, by omega⟩ | exact ⟨⟨by omega, by omega⟩, by omega⟩ | exact zWV.R (by assumption) _ _) (by first | assumption | omega | exact ⟨by omega, by omega⟩ | exact ⟨⟨by omega, by omega⟩, by omega⟩ | exact zWV.R (by assumption) _ _) rfl) ?_
        refine G_nameV (fun V10_128 hV10_128 => ?_)
        refine G_aload (pc := 129) 0 dX7_take_129 rfl ?_
        refine G_bipush (pc := 131) dX7_take_131 (by decide) ?_
        refine G_iconst (pc := 133) dX7_take_133 ?_
        refine G_iload_n (pc := 134) 1 3 dX7_take_134 rfl rfl ?_
        refine G_imul (pc := 135) dX7_take_135 ?_
        refine G_iadd (pc := 136) dX7_take_136 ?_
        refine G_aload_n (pc := 137) 0 4 dX7_take_137 rfl rfl ?_
        refine G_getf (pc := 138) fl_X7_119 dX7_take_138 pg_200 rfl ?_
        refine G_iast (pc := 141) dX7_take_141 (pg_204 (by first | assumption | omega | exact ⟨by omega, by omega⟩ | exact ⟨⟨by omega, by omega⟩, by omega⟩ | exact zWV.R (by assumption) _ _)) ⟨by omega, by omega, by omega, by omega⟩ (pp_204_7 (by first | assumption | omega | exact ⟨by omega, by omega⟩ | exact ⟨⟨by omega, by omega⟩, by omega⟩ | exact zWV.R (by assumption) _ _) (by first | assumption | omega | exact ⟨by omega, by omega⟩ | exact ⟨⟨by omega, by omega⟩, by omega⟩ | exact zWV.R (by assumption) _ _) rfl) ?_
        refine G_nameV (fun V11_141 hV11_141 => ?_)
        have hzg : V11_141 = zgv V2_11 r5 (v51 / 100) (v51 % 100) (V2_11 (0, 0, 0, 0) 6) := by rw [hV11_141, hV10_128, hV9_115, zst_k _ _ _ _ (show ((0, 0, 0, 0) : zK) ≠ (20, r5, (v51 / 100), 0) by simp), zst_k _ _ _ _ (show ((0, 0, 0, 0) : zK) ≠ (19, r5, (v51 / 100), 0) by simp), zst_k _ _ _ _ (show ((20, r5, (v51 / 100), 0) : zK) ≠ (19, r5, (v51 / 100), 0) by simp), hq20, hq0]; unfold zgv; rw [← hg0]
        have hVV11_141 : zWV Q V11_141 := by rw [hzg]; exact zgv_V hP hV2 hg hp ho ht2 (by omega)
        refine G_aload_n (pc := 142) 0 4 dX7_take_142 rfl rfl ?_
        refine G_iconst (pc := 143) dX7_take_143 ?_
        refine G_iload_n (pc := 144) 1 3 dX7_take_144 rfl rfl ?_
        refine G_iload_n (pc := 145) 3 1 dX7_take_145 rfl rfl ?_
        refine G_bipush (pc := 146) dX7_take_146 (by decide) ?_
        refine G_idiv (pc := 148) dX7_take_148 ⟨by omega, by omega, by omega⟩ ⟨by omega, by omega, by omega⟩ ?_
        refine G_iload_n (pc := 149) 3 1 dX7_take_149 rfl rfl ?_
        refine G_bipush (pc := 150) dX7_take_150 (by decide) ?_
        refine G_irem (pc := 152) dX7_take_152 ⟨by omega, by omega, by omega⟩ ⟨by omega, by omega, by omega⟩ ?_
        refine G_callV (pc := 153) gk_X7_168 dX7_take_153 pg_200 rfl (c_X7_write (s := 0) (g := r5) (p := (v51 / 100)) (o := (v51 % 100)) hVV11_141 (by assumption)) rfl rfl (Nat.le_of_ble_eq_true rfl) ⟨⟨(by exact Nat.le_of_ble_eq_true rfl), (by exact Nat.le_of_ble_eq_true rfl)⟩, (by exact Nat.le_of_ble_eq_true rfl), (by exact Nat.le_of_ble_eq_true rfl)⟩ (fun vx ad2 Mx hpo => ?_)
        obtain ⟨rfl, had2, rfl⟩ := hpo
        show G Γ _ _ _ _ _ _ (2) (206) 156 [(4, .ref (ad (204, Q 4 r5 0, v51 / 100, v51 % 100))), (3, .int (zI v51)), (2, .int (zI r11)), (1, .int (zI r5)), (0, .ref (ad (200, 0, 0, 0)))] []
        rw [← had2 (204, Q 4 r5 0, v51 / 100, v51 % 100) (by simp) (by simp) (by simp) (by simp)]
        rw [← had2 (200, 0, 0, 0) (by simp) (by simp) (by simp) (by simp)]
        refine G_nameV (fun V12_153 hV12_153 => ?_)
        have hVV12_153 : zWV Q V12_153 := by rw [hV12_153]; exact hVV11_141.lw (by first | assumption | exact ⟨by omega, by omega⟩ | exact zWV.R (by assumption) _ _) (by first | assumption | exact ⟨by omega, by omega⟩ | exact zWV.R (by assumption) _ _) (by first | assumption | exact ⟨by omega, by omega⟩ | exact zWV.R (by assumption) _ _) (by first | assumption | exact ⟨by omega, by omega⟩ | exact zWV.R (by assumption) _ _) (by first | assumption | exact ⟨by omega, by omega⟩ | exact zWV.R (by assumption) _ _)
        have hJT := zJ_take hJV2_11 hg hp ho (r := r11) hz2
        have hS7 : V12_153 = zlw (zgv V2_11 r5 (v51 / 100) (v51 % 100) (V2_11 (0, 0, 0, 0) 6)) 0 r5 (v51 / 100) (v51 % 100) (V2_11 (0, 0, 0, 0) 6) := by rw [hV12_153, hzg]; congr 1; exact zgv_k rfl
        have hs7 : zSet Q V12_153 := by rw [hS7]; exact hJT.st
        have hXa : X = mm (z_d Γ) ad2 Q V2_11 z00 := by rw [hXV2_11]; exact (mm_ad (fun k hk => had2 k (by omega) (by omega) (by omega) (by omega))).symm
        have hA : ad2 (0, 0, 0, 0) = ad (0, 0, 0, 0) ∧ ad2 (200, 0, 0, 0) = ad (200, 0, 0, 0) := ⟨had2 _ (by decide) (by decide) (by decide) (by decide), had2 _ (by decide) (by decide) (by decide) (by decide)⟩
        refine G_aload_n (pc := 156) 0 4 dX7_take_156 rfl rfl ?_
        refine G_callVv (pc := 157) gk_X7_126 dX7_take_157 pg_200 rfl (c_X7_settle (by first | assumption | omega | exact ⟨by omega, by omega⟩ | exact ⟨⟨by omega, by omega⟩, by omega⟩ | exact zWV.R (by assumption) _ _) (by first | assumption | omega | exact ⟨by omega, by omega⟩ | exact ⟨⟨by omega, by omega⟩, by omega⟩ | exact zWV.R (by assumption) _ _) hs7) rfl rfl (Nat.le_of_ble_eq_true rfl) ⟨⟨Nat.le_of_ble_eq_true rfl, Nat.le_of_ble_eq_true rfl⟩, Nat.le_of_ble_eq_true rfl, Nat.le_of_ble_eq_true rfl⟩ ?_
        refine G_nameV (fun V13_157 hV13_157 => ?_)
        have hVV13_157 : zWV Q V13_157 := by rw [hV13_157]; exact zkA_V hP hVV12_153
        first | (have hS8 : V13_157 = zlw (zgv V2_11 r5 (v51 / 100) (v51 % 100) (V2_11 (0, 0, 0, 0) 6)) 0 r5 (v51 / 100) (v51 % 100) (V2_11 (0, 0, 0, 0) 6) := by rw [hV13_157, hS7]; exact zkA_id hJT.xz) | skip
        refine G_aload_n (pc := 160) 0 4 dX7_take_160 rfl rfl ?_
        refine G_getf (pc := 161) fl_X7_10 dX7_take_161 pg_200 rfl ?_
        refine G_iload_n (pc := 164) 1 3 dX7_take_164 rfl rfl ?_
        refine G_iload_n (pc := 165) 2 2 dX7_take_165 rfl rfl ?_
        rw [show X = mm (z_d Γ) ad2 Q V2_11 z00 from hXa, pm_mm]
        refine G_callV (pc := 166) gk_X7_199 dX7_take_166 mg_0 rfl (c_X6_wouldTake (g := r5) (r := r11) hP (by omega) hJV2_11.wv.W (by omega)) rfl rfl (Nat.le_of_ble_eq_true rfl) ⟨⟨Nat.le_of_ble_eq_true rfl, Nat.le_of_ble_eq_true rfl⟩, Nat.le_of_ble_eq_true rfl, Nat.le_of_ble_eq_true rfl⟩ (fun vx adx Mx hpo => ?_)
        obtain ⟨rfl, hadx, rfl⟩ := hpo
        rw [hadx]
        rw [← hz]
        show G Γ _ _ _ _ _ _ (2) (206) 169 [(4, .ref (ad2 (204, Q 4 r5 0, v51 / 100, v51 % 100))), (3, .int (zI v51)), (2, .int (zI r11)), (1, .int (zI r5)), (0, .ref (ad2 (200, 0, 0, 0)))] [.int (zI v51)]
        rw [← pm_mm]
        refine G_iload_n (pc := 169) 3 1 dX7_take_169 rfl rfl ?_
        refine G_icmp_ne (pc := 170) 190 dX7_take_170 (by decide) (by first | exact zWV.R (by assumption) _ _ | exact ⟨by omega, by omega⟩ | assumption | (subst_vars; first | exact zWV.R (by assumption) _ _ | exact ⟨by omega, by omega⟩)) (by first | exact zWV.R (by assumption) _ _ | exact ⟨by omega, by omega⟩ | assumption | (subst_vars; first | exact zWV.R (by assumption) _ _ | exact ⟨by omega, by omega⟩)) (fun c170 => ?_) (fun c170 => ?_)
        · exfalso
          exact c170 rfl
        · refine G_aload_n (pc := 173) 0 4 dX7_take_173 rfl rfl ?_
          refine G_getf (pc := 174) fl_X7_10 dX7_take_174 pg_200 rfl ?_
          refine G_iload_n (pc := 177) 1 3 dX7_take_177 rfl rfl ?_
          refine G_iload_n (pc := 178) 2 2 dX7_take_178 rfl rfl ?_
          rw [pm_mm]
          refine G_callV (pc := 179) gk_X7_205 dX7_take_179 mg_0 rfl (c_X6_take_o (g := r5) (r := r11) (p := (v51 / 100)) (o := (v51 % 100)) hP (by omega) hp hJV2_11.wv.W (by omega) ho c23 (by omega) ht2) rfl rfl (Nat.le_of_ble_eq_true rfl) ⟨⟨Nat.le_of_ble_eq_true rfl, Nat.le_of_ble_eq_true rfl⟩, Nat.le_of_ble_eq_true rfl, Nat.le_of_ble_eq_true rfl⟩ (fun vx adx Mx hpo => ?_)
          obtain ⟨rfl, hadx, rfl⟩ := hpo
          rw [hadx]
          rw [show 100 * (v51 / 100) + (v51 % 100) = v51 by omega]
          show G Γ _ _ _ _ _ _ (2) (206) 182 [(4, .ref (ad2 (204, Q 4 r5 0, v51 / 100, v51 % 100))), (3, .int (zI v51)), (2, .int (zI r11)), (1, .int (zI r5)), (0, .ref (ad2 (200, 0, 0, 0)))] [.int (zI v51)]
          rw [← pm_mm]
          refine G_iload_n (pc := 182) 3 1 dX7_take_182 rfl rfl ?_
          refine G_icmp_ne (pc := 183) 190 dX7_take_183 (by decide) (by first | exact zWV.R (by assumption) _ _ | exact ⟨by omega, by omega⟩ | assumption | (subst_vars; first | exact zWV.R (by assumption) _ _ | exact ⟨by omega, by omega⟩)) (by first | exact zWV.R (by assumption) _ _ | exact ⟨by omega, by omega⟩ | assumption | (subst_vars; first | exact zWV.R (by assumption) _ _ | exact ⟨by omega, by omega⟩)) (fun c183 => ?_) (fun c183 => ?_)
          · exfalso
            exact c183 rfl
          · refine G_iconst (pc := 186) dX7_take_186 ?_
            refine G_goto (pc := 187) 191 dX7_take_187 (by decide) ?_
            exact G_zret (pc := 191) hF dX7_take_191 ⟨Nat.le_of_ble_eq_true rfl, Nat.le_of_ble_eq_true rfl⟩ (by first | exact zb_ite | omega) (by first | exact ⟨rfl, Q, V2_11, ⟨rfl, rfl⟩, rfl, hJV2_11, hd2, by omega, by omega, by omega, by omega, by omega⟩ | exact ⟨rfl, Q, V13_157, hA, by rw [hS8]; rfl, by rw [hS8]; exact hJT, by rw [hS8, zlw_k ⟨by simp, by simp⟩, zgv_k rfl]; exact hd2, by rw [hS8, zlw_k ⟨by simp, by simp⟩, zgv_k rfl]; omega, by rw [hS8, zlw_k ⟨by simp, by simp⟩, zgv_k rfl]; omega, by rw [hS8]; exact Int.le_trans (by rw [zgv_k rfl, f1]; exact Int.le_refl _) (zlw_l (V := zgv V2_11 r5 (v51 / 100) (v51 % 100) (V2_11 (0, 0, 0, 0) 6))), by omega, by omega⟩)
  · have hz1 := znp_out hJV2_11 hg (r := r11) (by omega) c23
    refine G_aload_n (pc := 26) 0 2 dX7_take_26 rfl rfl ?_
    refine G_getf (pc := 27) fl_X7_10 dX7_take_27 pg_200 rfl ?_
    refine G_iload_n (pc := 30) 1 1 dX7_take_30 rfl rfl ?_
    refine G_iload_n (pc := 31) 2 0 dX7_take_31 rfl rfl ?_
    rw [show X = mm (z_d Γ) ad Q V2_11 z00 from hXV2_11, pm_mm]
    refine G_callV (pc := 32) gk_X7_199 dX7_take_32 mg_0 rfl (c_X6_wouldTake (g := r5) (r := r11) hP (by omega) hJV2_11.wv.W (by omega)) rfl rfl (Nat.le_of_ble_eq_true rfl) ⟨⟨Nat.le_of_ble_eq_true rfl, Nat.le_of_ble_eq_true rfl⟩, Nat.le_of_ble_eq_true rfl, Nat.le_of_ble_eq_true rfl⟩ (fun vx adx Mx hpo => ?_)
    obtain ⟨rfl, hadx, rfl⟩ := hpo
    rw [hadx]
    rw [hz1]
    show G Γ _ _ _ _ _ _ (0) (0) 35 [(2, .int (zI r11)), (1, .int (zI r5)), (0, .ref (ad (200, 0, 0, 0)))] [.int (zI (-1))]
    rw [← pm_mm]
    refine G_iconst (pc := 35) dX7_take_35 ?_
    refine G_icmp_ne (pc := 36) 43 dX7_take_36 (by decide) (by first | exact zWV.R (by assumption) _ _ | exact ⟨by omega, by omega⟩ | assumption | (subst_vars; first | exact zWV.R (by assumption) _ _ | exact ⟨by omega, by omega⟩)) (by first | exact zWV.R (by assumption) _ _ | exact ⟨by omega, by omega⟩ | assumption | (subst_vars; first | exact zWV.R (by assumption) _ _ | exact ⟨by omega, by omega⟩)) (fun c36 => ?_) (fun c36 => ?_)
    · exfalso
      exact c36 rfl
    · refine G_iconst (pc := 39) dX7_take_39 ?_
      refine G_goto (pc := 40) 44 dX7_take_40 (by decide) ?_
      exact G_zret (pc := 44) hF dX7_take_44 ⟨Nat.le_of_ble_eq_true rfl, Nat.le_of_ble_eq_true rfl⟩ (by first | exact zb_ite | omega) ⟨rfl, Q, V2_11, ⟨rfl, rfl⟩, rfl, hJV2_11, hd2, by omega, by omega, by omega, by omega, by omega⟩
