/-! ===== the Pier's acts: seek ===== -/
/-- what is forgotten where a mark moves -/
def zsk (g p x : Int) (o : Int) (S : zS) : zS := if x ≤ o ∨ ju S g p o then zfg S g p o else S
section ZSEEK
variable {P : zP} {V : zS} {g p x : Int}
theorem zsk_eq {n : Int} {S : zS} (h0 : 0 ≤ x) (hn : x ≤ n) : lp (zsk g p x) 0 n S = lp (zm2 g p) x n (lp (zm1 g p) 0 x S) := by
  rw [lp_split _ 0 x n S h0 hn rfl]
  rw [lp_cg _ 0 x S rfl (fun o s h1 h2 => show zsk g p x o s = zm1 g p o s from by
    unfold zsk zm1
    by_cases hj : ju s g p o
    · rw [if_pos (Or.inr hj), if_pos hj]
    · rw [if_neg (fun q => q.elim (fun q => by omega) hj), if_neg hj])]
  exact lp_cg _ x n _ rfl (fun o s h1 h2 => show zsk g p x o s = zm2 g p o s from by
    unfold zsk zm2
    rw [if_pos (Or.inl h1)])
theorem zmv_k {k : zK} {f : Int} (h : k189 k.1 = false) : zmv P V g p x k f = V k f := zmv_fr (K := k189) rfl rfl rfl _ _ h
theorem zmv_c {g' p' : Int} (hne : ¬ (g' = g ∧ p' = p)) : cO g p V (zmv P V g p x) := by
  have key : ∀ (f : Int → zS → zS), (∀ o s, cO g p s (f o s)) → ∀ (k : Nat) (a n : Int) (s : zS), (n - a).toNat = k → cO g p s (lp f a n s) := by
    intro f hf k
    induction k with
    | zero => intro a n s hk; rw [lp_end (by omega)]; exact cO.rf
    | succ k ih =>
      intro a n s hk
      rw [lp_step (by omega)]
      exact cO.tr (hf a s) (ih _ _ _ (by omega))
  have hz : ∀ o s, cO g p s (zfg s g p o) := fun o s => (cO.rf.st (Or.inr (Or.inl rfl))).st (Or.inr (Or.inr (Or.inl rfl)))
  unfold zmv
  refine cO.st (cO.st (cO.tr (key (zm1 g p) (fun o s => ?_) _ _ _ _ rfl) (key (zm2 g p) hz _ _ _ _ rfl)) (Or.inl rfl)) (Or.inl rfl)
  unfold zm1
  split
  · exact hz o s
  · exact cO.rf
theorem zmv_19 {g' p' o' : Int} : zmv P V g p x (19, g', p', 0) o' = V (19, g', p', 0) o' ∨ zmv P V g p x (19, g', p', 0) o' = 0 := by
  have key : ∀ (f : Int → zS → zS), (∀ o s, f o s (19, g', p', 0) o' = s (19, g', p', 0) o' ∨ f o s (19, g', p', 0) o' = 0) → ∀ (k : Nat) (a n : Int) (s : zS), (n - a).toNat = k → lp f a n s (19, g', p', 0) o' = s (19, g', p', 0) o' ∨ lp f a n s (19, g', p', 0) o' = 0 := by
    intro f hf k
    induction k with
    | zero => intro a n s hk; rw [lp_end (by omega)]; exact Or.inl rfl
    | succ k ih =>
      intro a n s hk
      rw [lp_step (by omega)]
      rcases ih (a + 1) n (f a s) (by omega) with e | e
      · rw [e]; exact hf a s
      · exact Or.inr e
  have hz : ∀ o s, zfg s g p o (19, g', p', 0) o' = s (19, g', p', 0) o' ∨ zfg s g p o (19, g', p', 0) o' = 0 := fun o s => by
    unfold zfg
    rw [zst_k _ _ _ _ (by simp), zst_at]
    split
    · exact Or.inr rfl
    · exact Or.inl rfl
  unfold zmv
  rw [zst_k _ _ _ _ (by simp), zst_k _ _ _ _ (by simp)]
  rcases key (zm2 g p) hz _ x (P 2 (P 4 g 0) p) (lp (zm1 g p) 0 x V) rfl with e | e
  · rw [e]
    refine key (zm1 g p) (fun o s => ?_) _ _ _ _ rfl
    unfold zm1
    split
    · exact hz o s
    · exact Or.inl rfl
  · exact Or.inr e
theorem zmv_V (hP : zWP P) (h : zWV P V) (hg : inG P g) (hp : inQ P g p) (hx : 0 ≤ x ∧ x ≤ P 2 (P 4 g 0) p) : zWV P (zmv P V g p x) := by
  have hM := hP.m (hP.g hg) hp
  unfold zmv
  have h1 : zWV P (lp (zm1 g p) 0 x V) := lp_ind (fun _ s => zWV P s) _ 0 x V hx.1 rfl h (fun o s _ _ hs => by
    unfold zm1
    split
    · exact zfg_V hs
    · exact hs)
  have h2 : zWV P (lp (zm2 g p) x (P 2 (P 4 g 0) p) (lp (zm1 g p) 0 x V)) := lp_ind (fun _ s => zWV P s) _ x _ _ hx.2 rfl h1 (fun o s _ _ hs => zfg_V hs)
  exact (h2.s18 ⟨by omega, by omega⟩ (fun _ _ _ => hx)).s18 ⟨by omega, by omega⟩ (fun _ _ _ => hx)
theorem zJ_seek (h : zJ P V) (hg : inG P g) (hp : inQ P g p) (hx : V (11, P 4 g 0, p, 0) 1 ≤ x ∧ x ≤ P 2 (P 4 g 0) p) : zkA P (zmv P V g p x) = zku P (zmv P V g p x) g p ∧ zJ P (zku P (zmv P V g p x) g p) ∧ zSet P (zmv P V g p x) := by
  have hP := h.wp
  have hs := h.wv.W.s (hP.g hg) hp
  have hx2 : 0 ≤ x ∧ x ≤ P 2 (P 4 g 0) p := ⟨by omega, hx.2⟩
  have hV := zku_V hP hg hp (zmv_V hP h.wv hg hp hx2)
  have hK := (h.k0.mv (g := g) (p := p) hx2).ku hP hg hp
  have hf : zfr k189 V (zku P (zmv P V g p x) g p) := (zmv_fr rfl rfl rfl).tr (zku_fr rfl rfl rfl)
  have hz := h.xz
  have hst := h.st
  have hT := zTr_k hf ⟨rfl, rfl, rfl, rfl, rfl⟩ h.tr
  have hH := zHD_k hf ⟨rfl, rfl, rfl, rfl⟩ h.hd
  obtain ⟨-, ⟨M, hxM⟩, -⟩ := h
  have hxx := o_seek hxM hg hp hx2
  exact ⟨zkA_one hg hp (fun g' p' hg' hp' hne => sg_off (zmv_c hne) hne (hz g' p' hg' hp')) (hxx.2.2.1 g p hg hp) zku_O, ⟨hV, ⟨_, hxx⟩, hT, hH, hK⟩, zSet_fr (fun t p o => zmv_k rfl) (fun g' p' o' => zmv_19) hst⟩
end ZSEEK
set_option maxHeartbeats 4000000 in
set_option maxRecDepth 100000 in
theorem c_X7_seek {l : Launch} {Δ : zDl} {ad : zK → Nat} {Q : zP} {V : zS} {X : zMem}  (hJ : zJ Q V) (hX : X = mm Δ ad Q V z00) (hL : Δ.2.2.2.2.1 ≤ 3072) (hD : V (200, 0, 0, 0) 2 ≤ 930000) (h4 : V (0, 0, 0, 0) 4 ≤ 190) (h3 : 1 ≤ Q 3 0 0) : zMn l Δ yX7_seek cX7_seek 8 (some .boolean) 10 0 0 [.ref (ad (200, 0, 0, 0))] ad (pm Δ ad Q V X) (zAct Δ ad Q V 1000) := by
  refine zMn_of (by decide) (Nat.le_of_ble_eq_true rfl) (fun Γ hl hΔ hF => ?_)
  subst hl hΔ
  show G Γ _ _ _ RX7 _ _ _ _ _ [(0, .ref (ad (200, 0, 0, 0)))] []
  have hP := hJ.wp
  have hV := hJ.wv
  have hq := hP.n
  have hdw := hV.dw
  refine G_aload_n (pc := 0) 0 0 dX7_seek_0 rfl rfl ?_
  refine G_aload_n (pc := 1) 0 0 dX7_seek_1 rfl rfl ?_
  refine G_getfV (pc := 2) (w := Q 3 0 0) fl_X7_105 dX7_seek_2 pg_200 rfl (congrArg (fun z => Value.int (zI z)) hV.gn) ?_
  refine G_callV (pc := 5) gk_X7_94 dX7_seek_5 pg_200 rfl (c_X7_draw (n := (Q 3 0 0)) hV (by assumption) ⟨by omega, by omega⟩) rfl rfl (Nat.le_of_ble_eq_true rfl) ⟨⟨Nat.le_of_ble_eq_true rfl, Nat.le_of_ble_eq_true rfl⟩, Nat.le_of_ble_eq_true rfl, Nat.le_of_ble_eq_true rfl⟩ (fun vx adx Mx hpo => ?_)
  obtain ⟨r5, hr5, rfl, hadx, rfl⟩ := hpo
  rw [hadx]
  show G Γ _ _ _ _ _ _ (0) (0) 8 [(0, .ref (ad (200, 0, 0, 0)))] [.int (zI r5)]
  refine G_nameV (fun V1_5 hV1_5 => ?_)
  have hVV1_5 : zWV Q V1_5 := by rw [hV1_5]; exact hV.s200_2 ⟨by omega, by omega⟩
  have hdV1_5 : V1_5 (200, 0, 0, 0) 2 = V (200, 0, 0, 0) 2 + 1 := by rw [hV1_5, zst_s]
  have hfV1_5 : ∀ k f, k ≠ (200, 0, 0, 0) → V1_5 k f = V k f := fun k f hk => by rw [hV1_5, zst_k _ _ _ _ hk]
  have hJV1_5 : zJ Q V1_5 := by rw [hV1_5]; exact zJ_dr hJ ⟨by omega, by omega⟩
  have hXV1_5 : X = mm (z_d Γ) ad Q V1_5 z00 := by rw [hV1_5, mm_st (by decide)]; exact hX
  refine G_istore_n (pc := 8) 1 [(1, .int (zI r5)), (0, .ref (ad (200, 0, 0, 0)))] dX7_seek_8 rfl (by decide) rfl ?_
  have hg : inG Q r5 := ⟨by omega, by omega⟩
  have hG := hP.g hg
  have hN := hP.t hG
  refine G_aload_n (pc := 9) 0 1 dX7_seek_9 rfl rfl ?_
  refine G_aload_n (pc := 10) 0 1 dX7_seek_10 rfl rfl ?_
  refine G_getf (pc := 11) fl_X7_25 dX7_seek_11 pg_200 rfl ?_
  refine G_aload_n (pc := 14) 0 1 dX7_seek_14 rfl rfl ?_
  refine G_getf (pc := 15) fl_X7_51 dX7_seek_15 pg_200 rfl ?_
  refine G_iload_n (pc := 18) 1 0 dX7_seek_18 rfl rfl ?_
  refine G_ialdV (pc := 19) (Q 4 r5 0) dX7_seek_19 pg_213 ⟨by omega, by omega, by omega, by omega⟩ (hVV1_5.of (by first | assumption | omega | exact ⟨by omega, by omega⟩ | exact ⟨⟨by omega, by omega⟩, by omega⟩ | exact zWV.R (by assumption) _ _)) ?_
  refine G_aldA (pc := 20) (t := 7) rfl dX7_seek_20 pg_201 ⟨by omega, by omega, by omega, by omega⟩ rfl ?_
  refine G_alenV (pc := 21) (t := 6) (Q 1 (Q 4 r5 0) 0) rfl dX7_seek_21 (pg_202 (by first | assumption | omega | exact ⟨by omega, by omega⟩ | exact ⟨⟨by omega, by omega⟩, by omega⟩ | exact zWV.R (by assumption) _ _)) (by omega) ?_
  refine G_callV (pc := 22) gk_X7_94 dX7_seek_22 pg_200 rfl (c_X7_draw (n := (Q 1 (Q 4 r5 0) 0)) hVV1_5 (by assumption) ⟨by omega, by omega⟩) rfl rfl (Nat.le_of_ble_eq_true rfl) ⟨⟨Nat.le_of_ble_eq_true rfl, Nat.le_of_ble_eq_true rfl⟩, Nat.le_of_ble_eq_true rfl, Nat.le_of_ble_eq_true rfl⟩ (fun vx adx Mx hpo => ?_)
  obtain ⟨r22, hr22, rfl, hadx, rfl⟩ := hpo
  rw [hadx]
  show G Γ _ _ _ _ _ _ (0) (0) 25 [(1, .int (zI r5)), (0, .ref (ad (200, 0, 0, 0)))] [.int (zI r22)]
  refine G_nameV (fun V2_22 hV2_22 => ?_)
  have hVV2_22 : zWV Q V2_22 := by rw [hV2_22]; exact hVV1_5.s200_2 ⟨by omega, by omega⟩
  have hdV2_22 : V2_22 (200, 0, 0, 0) 2 = V1_5 (200, 0, 0, 0) 2 + 1 := by rw [hV2_22, zst_s]
  have hfV2_22 : ∀ k f, k ≠ (200, 0, 0, 0) → V2_22 k f = V1_5 k f := fun k f hk => by rw [hV2_22, zst_k _ _ _ _ hk]
  have hJV2_22 : zJ Q V2_22 := by rw [hV2_22]; exact zJ_dr hJV1_5 ⟨by omega, by omega⟩
  have hXV2_22 : X = mm (z_d Γ) ad Q V2_22 z00 := by rw [hV2_22, mm_st (by decide)]; exact hXV1_5
  refine G_istore_n (pc := 25) 2 [(2, .int (zI r22)), (1, .int (zI r5)), (0, .ref (ad (200, 0, 0, 0)))] dX7_seek_25 rfl (by decide) rfl ?_
  have hp : inQ Q r5 r22 := ⟨by omega, by omega⟩
  have hM := hP.m hG hp
  have hW2 := hJV2_22.wv.W.s hG hp
  refine G_aload_n (pc := 26) 0 2 dX7_seek_26 rfl rfl ?_
  refine G_getf (pc := 27) fl_X7_25 dX7_seek_27 pg_200 rfl ?_
  refine G_aload_n (pc := 30) 0 2 dX7_seek_30 rfl rfl ?_
  refine G_getf (pc := 31) fl_X7_51 dX7_seek_31 pg_200 rfl ?_
  refine G_iload_n (pc := 34) 1 1 dX7_seek_34 rfl rfl ?_
  refine G_ialdV (pc := 35) (Q 4 r5 0) dX7_seek_35 pg_213 ⟨by omega, by omega, by omega, by omega⟩ (hVV2_22.of (by first | assumption | omega | exact ⟨by omega, by omega⟩ | exact ⟨⟨by omega, by omega⟩, by omega⟩ | exact zWV.R (by assumption) _ _)) ?_
  refine G_aldA (pc := 36) (t := 7) rfl dX7_seek_36 pg_201 ⟨by omega, by omega, by omega, by omega⟩ rfl ?_
  refine G_iload_n (pc := 37) 2 0 dX7_seek_37 rfl rfl ?_
  refine G_aldA (pc := 38) (t := 6) rfl dX7_seek_38 (pg_202 (by first | assumption | omega | exact ⟨by omega, by omega⟩ | exact ⟨⟨by omega, by omega⟩, by omega⟩ | exact zWV.R (by assumption) _ _)) ⟨by omega, by omega, by omega, by omega⟩ rfl ?_
  refine G_astore_n (pc := 39) 3 [(3, .ref (ad (203, Q 4 r5 0, r22, 0))), (2, .int (zI r22)), (1, .int (zI r5)), (0, .ref (ad (200, 0, 0, 0)))] dX7_seek_39 rfl (by decide) rfl ?_
  refine G_aload_n (pc := 40) 0 3 dX7_seek_40 rfl rfl ?_
  refine G_getf (pc := 41) fl_X7_39 dX7_seek_41 pg_200 rfl ?_
  refine G_aload_n (pc := 44) 0 3 dX7_seek_44 rfl rfl ?_
  refine G_getf (pc := 45) fl_X7_51 dX7_seek_45 pg_200 rfl ?_
  refine G_iload_n (pc := 48) 1 2 dX7_seek_48 rfl rfl ?_
  refine G_ialdV (pc := 49) (Q 4 r5 0) dX7_seek_49 pg_213 ⟨by omega, by omega, by omega, by omega⟩ (hVV2_22.of (by first | assumption | omega | exact ⟨by omega, by omega⟩ | exact ⟨⟨by omega, by omega⟩, by omega⟩ | exact zWV.R (by assumption) _ _)) ?_
  refine G_aldA (pc := 50) (t := 5) rfl dX7_seek_50 pg_207 ⟨by omega, by omega, by omega, by omega⟩ rfl ?_
  refine G_iload_n (pc := 51) 2 1 dX7_seek_51 rfl rfl ?_
  refine G_ialdV (pc := 52) (V2_22 (11, (Q 4 r5 0), r22, 0) 1) dX7_seek_52 (pg_208 (by first | assumption | omega | exact ⟨by omega, by omega⟩ | exact ⟨⟨by omega, by omega⟩, by omega⟩ | exact zWV.R (by assumption) _ _)) ⟨by omega, by omega, by omega, by omega⟩ rfl ?_
  refine G_istore_e (pc := 53) (fun zw => [(4, .int (zI zw)), (3, .ref (ad (203, Q 4 r5 0, r22, 0))), (2, .int (zI r22)), (1, .int (zI r5)), (0, .ref (ad (200, 0, 0, 0)))]) dX7_seek_53 (by decide) (fun _ => rfl) (fun v53 e53 => ?_)
  refine G_iload (pc := 55) 0 dX7_seek_55 rfl ?_
  refine G_aload_n (pc := 57) 0 4 dX7_seek_57 rfl rfl ?_
  refine G_aload_n (pc := 58) 3 1 dX7_seek_58 rfl rfl ?_
  refine G_alenV (pc := 59) (t := 5) (Q 2 (Q 4 r5 0) r22) rfl dX7_seek_59 (pg_203 (by first | assumption | omega | exact ⟨by omega, by omega⟩ | exact ⟨⟨by omega, by omega⟩, by omega⟩ | exact zWV.R (by assumption) _ _)) (by omega) ?_
  refine G_iload (pc := 60) 0 dX7_seek_60 rfl ?_
  refine G_isub (pc := 62) dX7_seek_62 ?_
  refine G_iconst (pc := 63) dX7_seek_63 ?_
  refine G_iadd (pc := 64) dX7_seek_64 ?_
  refine G_callV (pc := 65) gk_X7_94 dX7_seek_65 pg_200 rfl (c_X7_draw (n := (((Q 2 (Q 4 r5 0) r22) - v53) + 1)) hVV2_22 (by assumption) ⟨by omega, by omega⟩) rfl rfl (Nat.le_of_ble_eq_true rfl) ⟨⟨Nat.le_of_ble_eq_true rfl, Nat.le_of_ble_eq_true rfl⟩, Nat.le_of_ble_eq_true rfl, Nat.le_of_ble_eq_true rfl⟩ (fun vx adx Mx hpo => ?_)
  obtain ⟨r65, hr65, rfl, hadx, rfl⟩ := hpo
  rw [hadx]
  show G Γ _ _ _ _ _ _ (0) (0) 68 [(4, .int (zI v53)), (3, .ref (ad (203, Q 4 r5 0, r22, 0))), (2, .int (zI r22)), (1, .int (zI r5)), (0, .ref (ad (200, 0, 0, 0)))] [.int (zI r65), .int (zI v53)]
  refine G_nameV (fun V3_65 hV3_65 => ?_)
  have hVV3_65 : zWV Q V3_65 := by rw [hV3_65]; exact hVV2_22.s200_2 ⟨by omega, by omega⟩
  have hdV3_65 : V3_65 (200, 0, 0, 0) 2 = V2_22 (200, 0, 0, 0) 2 + 1 := by rw [hV3_65, zst_s]
  have hfV3_65 : ∀ k f, k ≠ (200, 0, 0, 0) → V3_65 k f = V2_22 k f := fun k f hk => by rw [hV3_65, zst_k _ _ _ _ hk]
  have hJV3_65 : zJ Q V3_65 := by rw [hV3_65]; exact zJ_dr hJV2_22 ⟨by omega, by omega⟩
  have hXV3_65 : X = mm (z_d Γ) ad Q V3_65 z00 := by rw [hV3_65, mm_st (by decide)]; exact hXV2_22
  refine G_iadd (pc := 68) dX7_seek_68 ?_
  refine G_istore_e (pc := 69) (fun zw => [(5, .int (zI zw)), (4, .int (zI v53)), (3, .ref (ad (203, Q 4 r5 0, r22, 0))), (2, .int (zI r22)), (1, .int (zI r5)), (0, .ref (ad (200, 0, 0, 0)))]) dX7_seek_69 (by decide) (fun _ => rfl) (fun v69 e69 => ?_)
  obtain ⟨D, hD0⟩ : ∃ D, D = V3_65 := ⟨_, rfl⟩
  have hJD : zJ Q D := by rw [hD0]; exact hJV3_65
  have hXD : X = mm (z_d Γ) ad Q D z00 := by rw [hD0]; exact hXV3_65
  have hVD := hJD.wv
  have hDd : D (200, 0, 0, 0) 2 ≤ V (200, 0, 0, 0) 2 + 3 := by rw [hD0]; omega
  have hD4 : D (0, 0, 0, 0) 4 = V (0, 0, 0, 0) 4 := by rw [hD0, hfV3_65 _ _ (by decide), hfV2_22 _ _ (by decide), hfV1_5 _ _ (by decide)]
  have hD6 : D (0, 0, 0, 0) 6 = V (0, 0, 0, 0) 6 := by rw [hD0, hfV3_65 _ _ (by decide), hfV2_22 _ _ (by decide), hfV1_5 _ _ (by decide)]
  have hD1 : D (1, 0, 0, 0) 1 = V (1, 0, 0, 0) 1 := by rw [hD0, hfV3_65 _ _ (by decide), hfV2_22 _ _ (by decide), hfV1_5 _ _ (by decide)]
  have hx : D (11, Q 4 r5 0, r22, 0) 1 ≤ v69 ∧ v69 ≤ Q 2 (Q 4 r5 0) r22 := by rw [hD0, hfV3_65 _ _ (by simp), e69]; omega
  have hx0 : 0 ≤ v69 := by omega
  refine G_aload_n (pc := 71) 0 5 dX7_seek_71 rfl rfl ?_
  refine G_getf (pc := 72) fl_X7_54 dX7_seek_72 pg_200 rfl ?_
  refine G_iload_n (pc := 75) 1 4 dX7_seek_75 rfl rfl ?_
  refine G_aldA (pc := 76) (t := 5) rfl dX7_seek_76 pg_214 ⟨by omega, by omega, by omega, by omega⟩ rfl ?_
  refine G_iload_n (pc := 77) 2 3 dX7_seek_77 rfl rfl ?_
  refine G_ialdV (pc := 78) (V3_65 (18, r5, r22, 0) 5) dX7_seek_78 (pg_215 (by first | assumption | omega | exact ⟨by omega, by omega⟩ | exact ⟨⟨by omega, by omega⟩, by omega⟩ | exact zWV.R (by assumption) _ _)) ⟨by omega, by omega, by omega, by omega⟩ rfl ?_
  refine G_istore_e (pc := 79) (fun zw => [(6, .int (zI zw)), (5, .int (zI v69)), (4, .int (zI v53)), (3, .ref (ad (203, Q 4 r5 0, r22, 0))), (2, .int (zI r22)), (1, .int (zI r5)), (0, .ref (ad (200, 0, 0, 0)))]) dX7_seek_79 (by decide) (fun _ => rfl) (fun v79 e79 => ?_)
  have hD79 : v79 = D (18, r5, r22, 0) 5 := by rw [e79, hD0]
  refine G_iconst (pc := 81) dX7_seek_81 ?_
  refine G_istore_e (pc := 82) (fun zw => [(7, .int (zI zw)), (6, .int (zI v79)), (5, .int (zI v69)), (4, .int (zI v53)), (3, .ref (ad (203, Q 4 r5 0, r22, 0))), (2, .int (zI r22)), (1, .int (zI r5)), (0, .ref (ad (200, 0, 0, 0)))]) dX7_seek_82 (by decide) (fun _ => rfl) (fun v82 e82 => ?_)
  have L84 : ∀ (n : Nat) (o : Int) (T : zS), ((0 ≤ o ∧ o ≤ Q 2 (Q 4 r5 0) r22) ∧ lp (zsk r5 r22 v69) o (Q 2 (Q 4 r5 0) r22) T = lp (zsk r5 r22 v69) 0 (Q 2 (Q 4 r5 0) r22) D ∧ zWV Q T) → (Q 2 (Q 4 r5 0) r22 - o).toNat < n → G Γ (zRm 10 0 0) cX7_seek 8 RX7 ad (pm (z_d Γ) ad Q T X) 0 0 84 [(0, .ref (ad (200, 0, 0, 0))), (1, .int (zI r5)), (2, .int (zI r22)), (3, .ref (ad (203, Q 4 r5 0, r22, 0))), (4, .int (zI v53)), (5, .int (zI v69)), (6, .int (zI v79)), (7, .int (zI o))] [] := by
    intro n
    induction n with
    | zero => intro o T _ hn; omega
    | succ n ih84 =>
      intro o T hi84 hn84
      obtain ⟨ho0, hlo, hVT⟩ := hi84
      have hsT := hVT.st4 r5 r22 o
      refine G_iload (pc := 84) 7 dX7_seek_84 rfl ?_
      refine G_aload_n (pc := 86) 3 3 dX7_seek_86 rfl rfl ?_
      refine G_alenV (pc := 87) (t := 5) (Q 2 (Q 4 r5 0) r22) rfl dX7_seek_87 (pg_203 (by first | assumption | omega | exact ⟨by omega, by omega⟩ | exact ⟨⟨by omega, by omega⟩, by omega⟩ | exact zWV.R (by assumption) _ _)) (by omega) ?_
      refine G_icmp_ge (pc := 88) 141 dX7_seek_88 (by decide) (by first | exact zWV.R (by assumption) _ _ | exact ⟨by omega, by omega⟩ | assumption | (subst_vars; first | exact zWV.R (by assumption) _ _ | exact ⟨by omega, by omega⟩)) (by first | exact zWV.R (by assumption) _ _ | exact ⟨by omega, by omega⟩ | assumption | (subst_vars; first | exact zWV.R (by assumption) _ _ | exact ⟨by omega, by omega⟩)) (fun c88 => ?_) (fun c88 => ?_)
      · have hzz : T = lp (zm2 r5 r22) v69 (Q 2 (Q 4 r5 0) r22) (lp (zm1 r5 r22) 0 v69 D) := by rw [← zsk_eq hx0 hx.2, ← hlo, lp_end (by omega)]
        refine G_aload_n (pc := 141) 0 0 dX7_seek_141 rfl rfl ?_
        refine G_getf (pc := 142) fl_X7_54 dX7_seek_142 pg_200 rfl ?_
        refine G_iload_n (pc := 145) 1 1 dX7_seek_145 rfl rfl ?_
        refine G_aldA (pc := 146) (t := 5) rfl dX7_seek_146 pg_214 ⟨by omega, by omega, by omega, by omega⟩ rfl ?_
        refine G_iload_n (pc := 147) 2 2 dX7_seek_147 rfl rfl ?_
        refine G_iload (pc := 148) 5 dX7_seek_148 rfl ?_
        refine G_iast (pc := 150) dX7_seek_150 (pg_215 (by first | assumption | omega | exact ⟨by omega, by omega⟩ | exact ⟨⟨by omega, by omega⟩, by omega⟩ | exact zWV.R (by assumption) _ _)) ⟨by omega, by omega, by omega, by omega⟩ (pp_215 (by first | assumption | omega | exact ⟨by omega, by omega⟩ | exact ⟨⟨by omega, by omega⟩, by omega⟩ | exact zWV.R (by assumption) _ _)) ?_
        refine G_nameV (fun V4_150 hV4_150 => ?_)
        have hVV4_150 : zWV Q V4_150 := by rw [hV4_150]; exact hVT.s18 ⟨by omega, by omega⟩ (fun _ _ _ => by omega)
        refine G_aload_n (pc := 151) 0 0 dX7_seek_151 rfl rfl ?_
        refine G_getf (pc := 152) fl_X7_57 dX7_seek_152 pg_200 rfl ?_
        refine G_iload_n (pc := 155) 1 1 dX7_seek_155 rfl rfl ?_
        refine G_aldA (pc := 156) (t := 5) rfl dX7_seek_156 pg_216 ⟨by omega, by omega, by omega, by omega⟩ rfl ?_
        refine G_iload_n (pc := 157) 2 2 dX7_seek_157 rfl rfl ?_
        refine G_iload (pc := 158) 5 dX7_seek_158 rfl ?_
        refine G_iast (pc := 160) dX7_seek_160 (pg_217 (by first | assumption | omega | exact ⟨by omega, by omega⟩ | exact ⟨⟨by omega, by omega⟩, by omega⟩ | exact zWV.R (by assumption) _ _)) ⟨by omega, by omega, by omega, by omega⟩ (pp_217 (by first | assumption | omega | exact ⟨by omega, by omega⟩ | exact ⟨⟨by omega, by omega⟩, by omega⟩ | exact zWV.R (by assumption) _ _)) ?_
        refine G_nameV (fun V5_160 hV5_160 => ?_)
        have hVV5_160 : zWV Q V5_160 := by rw [hV5_160]; exact hVV4_150.s18 ⟨by omega, by omega⟩ (fun _ _ _ => by omega)
        have hmv : V5_160 = zmv Q D r5 r22 v69 := by rw [hV5_160, hV4_150, hzz]; rfl
        obtain ⟨hn1, hn2, hn3⟩ := zJ_seek hJD hg hp hx
        have hsn : zSet Q V5_160 := by rw [hmv]; exact hn3
        refine G_aload_n (pc := 161) 0 0 dX7_seek_161 rfl rfl ?_
        refine G_callVv (pc := 162) gk_X7_126 dX7_seek_162 pg_200 rfl (c_X7_settle (by first | assumption | omega | exact ⟨by omega, by omega⟩ | exact ⟨⟨by omega, by omega⟩, by omega⟩ | exact zWV.R (by assumption) _ _) (by first | assumption | omega | exact ⟨by omega, by omega⟩ | exact ⟨⟨by omega, by omega⟩, by omega⟩ | exact zWV.R (by assumption) _ _) hsn) rfl rfl (Nat.le_of_ble_eq_true rfl) ⟨⟨Nat.le_of_ble_eq_true rfl, Nat.le_of_ble_eq_true rfl⟩, Nat.le_of_ble_eq_true rfl, Nat.le_of_ble_eq_true rfl⟩ ?_
        refine G_nameV (fun V6_162 hV6_162 => ?_)
        have hVV6_162 : zWV Q V6_162 := by rw [hV6_162]; exact zkA_V hP hVV5_160
        have hSa : V6_162 = zku Q (zmv Q D r5 r22 v69) r5 r22 := by rw [hV6_162, hmv]; exact hn1
        refine G_aload_n (pc := 165) 0 0 dX7_seek_165 rfl rfl ?_
        refine G_getf (pc := 166) fl_X7_10 dX7_seek_166 pg_200 rfl ?_
        refine G_iload_n (pc := 169) 1 1 dX7_seek_169 rfl rfl ?_
        refine G_iload_n (pc := 170) 2 2 dX7_seek_170 rfl rfl ?_
        refine G_iload (pc := 171) 5 dX7_seek_171 rfl ?_
        rw [hXD, pm_mm]
        refine G_callV (pc := 173) gk_X7_212 dX7_seek_173 mg_0 rfl (c_X6_seek (g := r5) (p := r22) (o := v69) hP hg hp hJD.wv.W hx) rfl rfl (Nat.le_of_ble_eq_true rfl) ⟨⟨Nat.le_of_ble_eq_true rfl, Nat.le_of_ble_eq_true rfl⟩, Nat.le_of_ble_eq_true rfl, Nat.le_of_ble_eq_true rfl⟩ (fun vx adx Mx hpo => ?_)
        obtain ⟨rfl, hadx, rfl⟩ := hpo
        rw [hadx]
        rw [← hD79]
        show G Γ _ _ _ _ _ _ (0) (0) 176 [(0, .ref (ad (200, 0, 0, 0))), (1, .int (zI r5)), (2, .int (zI r22)), (3, .ref (ad (203, Q 4 r5 0, r22, 0))), (4, .int (zI v53)), (5, .int (zI v69)), (6, .int (zI v79)), (7, .int (zI o))] [.int (zI v79)]
        rw [← pm_mm]
        refine G_iload (pc := 176) 6 dX7_seek_176 rfl ?_
        refine G_icmp_ne (pc := 178) 185 dX7_seek_178 (by decide) (by first | exact zWV.R (by assumption) _ _ | exact ⟨by omega, by omega⟩ | assumption | (subst_vars; first | exact zWV.R (by assumption) _ _ | exact ⟨by omega, by omega⟩)) (by first | exact zWV.R (by assumption) _ _ | exact ⟨by omega, by omega⟩ | assumption | (subst_vars; first | exact zWV.R (by assumption) _ _ | exact ⟨by omega, by omega⟩)) (fun c178 => ?_) (fun c178 => ?_)
        · exfalso
          exact c178 rfl
        · refine G_iconst (pc := 181) dX7_seek_181 ?_
          refine G_goto (pc := 182) 186 dX7_seek_182 (by decide) ?_
          exact G_zret (pc := 186) hF dX7_seek_186 ⟨Nat.le_of_ble_eq_true rfl, Nat.le_of_ble_eq_true rfl⟩ (by first | exact zb_ite | omega) ⟨rfl, Q, V6_162, ⟨rfl, rfl⟩, by rw [hSa]; rfl, by rw [hSa]; exact hn2, by rw [hSa, zku_k rfl, zmv_k rfl]; omega, by rw [hSa, zku_k rfl, zmv_k rfl]; omega, by rw [hSa, zku_k rfl, zmv_k rfl]; omega, by rw [hSa, zku_k rfl, zmv_k rfl]; omega, by omega, by omega⟩
      · refine G_iload (pc := 91) 7 dX7_seek_91 rfl ?_
        refine G_iload (pc := 93) 5 dX7_seek_93 rfl ?_
        refine G_icmp_ge (pc := 95) 126 dX7_seek_95 (by decide) (by first | exact zWV.R (by assumption) _ _ | exact ⟨by omega, by omega⟩ | assumption | (subst_vars; first | exact zWV.R (by assumption) _ _ | exact ⟨by omega, by omega⟩)) (by first | exact zWV.R (by assumption) _ _ | exact ⟨by omega, by omega⟩ | assumption | (subst_vars; first | exact zWV.R (by assumption) _ _ | exact ⟨by omega, by omega⟩)) (fun c95 => ?_) (fun c95 => ?_)
        · refine G_aload_n (pc := 126) 0 0 dX7_seek_126 rfl rfl ?_
          refine G_aload_n (pc := 127) 3 3 dX7_seek_127 rfl rfl ?_
          refine G_iload (pc := 128) 7 dX7_seek_128 rfl ?_
          refine G_aldA (pc := 130) (t := 5) rfl dX7_seek_130 (pg_203 (by first | assumption | omega | exact ⟨by omega, by omega⟩ | exact ⟨⟨by omega, by omega⟩, by omega⟩ | exact zWV.R (by assumption) _ _)) ⟨by omega, by omega, by omega, by omega⟩ rfl ?_
          refine G_iload_n (pc := 131) 1 1 dX7_seek_131 rfl rfl ?_
          refine G_callVv (pc := 132) gk_X7_145 dX7_seek_132 pg_200 rfl (c_X7_forget (by first | assumption | omega | exact ⟨by omega, by omega⟩ | exact ⟨⟨by omega, by omega⟩, by omega⟩ | exact zWV.R (by assumption) _ _) (by first | assumption | omega | exact ⟨by omega, by omega⟩ | exact ⟨⟨by omega, by omega⟩, by omega⟩ | exact zWV.R (by assumption) _ _) (by first | assumption | omega | exact ⟨by omega, by omega⟩ | exact ⟨⟨by omega, by omega⟩, by omega⟩ | exact zWV.R (by assumption) _ _) (by first | assumption | omega | exact ⟨by omega, by omega⟩ | exact ⟨⟨by omega, by omega⟩, by omega⟩ | exact zWV.R (by assumption) _ _) (by first | assumption | omega | exact ⟨by omega, by omega⟩ | exact ⟨⟨by omega, by omega⟩, by omega⟩ | exact zWV.R (by assumption) _ _) (by first | assumption | omega | exact ⟨by omega, by omega⟩ | exact ⟨⟨by omega, by omega⟩, by omega⟩ | exact zWV.R (by assumption) _ _) rfl) rfl rfl (Nat.le_of_ble_eq_true rfl) ⟨⟨Nat.le_of_ble_eq_true rfl, Nat.le_of_ble_eq_true rfl⟩, Nat.le_of_ble_eq_true rfl, Nat.le_of_ble_eq_true rfl⟩ ?_
          refine G_nameV (fun V7_132 hV7_132 => ?_)
          have hVV7_132 : zWV Q V7_132 := by rw [hV7_132]; exact zfg_V hVT
          refine G_iinc_e (pc := 135) 7 (fun zw => [(7, .int (zI zw)), (0, .ref (ad (200, 0, 0, 0))), (1, .int (zI r5)), (2, .int (zI r22)), (3, .ref (ad (203, Q 4 r5 0, r22, 0))), (4, .int (zI v53)), (5, .int (zI v69)), (6, .int (zI v79))]) dX7_seek_135 rfl (by decide) (fun _ => rfl) (fun v135 e135 => ?_)
          refine G_goto (pc := 138) 84 dX7_seek_138 (by decide) ?_
          refine G_perm (lv' := [(0, .ref (ad (200, 0, 0, 0))), (1, .int (zI r5)), (2, .int (zI r22)), (3, .ref (ad (203, Q 4 r5 0, r22, 0))), (4, .int (zI v53)), (5, .int (zI v69)), (6, .int (zI v79)), (7, .int (zI v135))]) [1, 2, 3, 4, 5, 6, 7, 0] rfl ?_
          exact ih84 v135 V7_132 ⟨by omega, by rw [e135, ← hlo, lp_step (a := o) (n := Q 2 (Q 4 r5 0) r22) (by omega)]; rw [show zsk r5 r22 v69 o T = V7_132 from by first | (rw [hV7_132]; exact if_pos (by omega)) | exact if_neg (fun q => by have q2 : v69 ≤ o ∨ (T (19, r5, r22, 0) o = 1 ∨ T (19, r5, r22, 0) o = 2) := q; omega)], by assumption⟩ (by omega)
        · refine G_aload_n (pc := 98) 3 3 dX7_seek_98 rfl rfl ?_
          refine G_iload (pc := 99) 7 dX7_seek_99 rfl ?_
          refine G_aldA (pc := 101) (t := 5) rfl dX7_seek_101 (pg_203 (by first | assumption | omega | exact ⟨by omega, by omega⟩ | exact ⟨⟨by omega, by omega⟩, by omega⟩ | exact zWV.R (by assumption) _ _)) ⟨by omega, by omega, by omega, by omega⟩ rfl ?_
          refine G_iconst (pc := 102) dX7_seek_102 ?_
          refine G_iconst (pc := 103) dX7_seek_103 ?_
          refine G_iload_n (pc := 104) 1 1 dX7_seek_104 rfl rfl ?_
          refine G_imul (pc := 105) dX7_seek_105 ?_
          refine G_iadd (pc := 106) dX7_seek_106 ?_
          refine G_ialdV (pc := 107) (T (19, r5, r22, 0) o) dX7_seek_107 (pg_204 (by first | assumption | omega | exact ⟨by omega, by omega⟩ | exact ⟨⟨by omega, by omega⟩, by omega⟩ | exact zWV.R (by assumption) _ _)) ⟨by omega, by omega, by omega, by omega⟩ (zpr_5 (by first | assumption | omega | exact ⟨by omega, by omega⟩ | exact ⟨⟨by omega, by omega⟩, by omega⟩ | exact zWV.R (by assumption) _ _) rfl) ?_
          refine G_iconst (pc := 108) dX7_seek_108 ?_
          refine G_icmp_eq (pc := 109) 126 dX7_seek_109 (by decide) (by first | exact zWV.R (by assumption) _ _ | exact ⟨by omega, by omega⟩ | assumption | (subst_vars; first | exact zWV.R (by assumption) _ _ | exact ⟨by omega, by omega⟩)) (by first | exact zWV.R (by assumption) _ _ | exact ⟨by omega, by omega⟩ | assumption | (subst_vars; first | exact zWV.R (by assumption) _ _ | exact ⟨by omega, by omega⟩)) (fun c109 => ?_) (fun c109 => ?_)
          · refine G_aload_n (pc := 126) 0 0 dX7_seek_126 rfl rfl ?_
            refine G_aload_n (pc := 127) 3 3 dX7_seek_127 rfl rfl ?_
            refine G_iload (pc := 128) 7 dX7_seek_128 rfl ?_
            refine G_aldA (pc := 130) (t := 5) rfl dX7_seek_130 (pg_203 (by first | assumption | omega | exact ⟨by omega, by omega⟩ | exact ⟨⟨by omega, by omega⟩, by omega⟩ | exact zWV.R (by assumption) _ _)) ⟨by omega, by omega, by omega, by omega⟩ rfl ?_
            refine G_iload_n (pc := 131) 1 1 dX7_seek_131 rfl rfl ?_
            refine G_callVv (pc := 132) gk_X7_145 dX7_seek_132 pg_200 rfl (c_X7_forget (by first | assumption | omega | exact ⟨by omega, by omega⟩ | exact ⟨⟨by omega, by omega⟩, by omega⟩ | exact zWV.R (by assumption) _ _) (by first | assumption | omega | exact ⟨by omega, by omega⟩ | exact ⟨⟨by omega, by omega⟩, by omega⟩ | exact zWV.R (by assumption) _ _) (by first | assumption | omega | exact ⟨by omega, by omega⟩ | exact ⟨⟨by omega, by omega⟩, by omega⟩ | exact zWV.R (by assumption) _ _) (by first | assumption | omega | exact ⟨by omega, by omega⟩ | exact ⟨⟨by omega, by omega⟩, by omega⟩ | exact zWV.R (by assumption) _ _) (by first | assumption | omega | exact ⟨by omega, by omega⟩ | exact ⟨⟨by omega, by omega⟩, by omega⟩ | exact zWV.R (by assumption) _ _) (by first | assumption | omega | exact ⟨by omega, by omega⟩ | exact ⟨⟨by omega, by omega⟩, by omega⟩ | exact zWV.R (by assumption) _ _) rfl) rfl rfl (Nat.le_of_ble_eq_true rfl) ⟨⟨Nat.le_of_ble_eq_true rfl, Nat.le_of_ble_eq_true rfl⟩, Nat.le_of_ble_eq_true rfl, Nat.le_of_ble_eq_true rfl⟩ ?_
            refine G_nameV (fun V8_132 hV8_132 => ?_)
            have hVV8_132 : zWV Q V8_132 := by rw [hV8_132]; exact zfg_V hVT
            refine G_iinc_e (pc := 135) 7 (fun zw => [(7, .int (zI zw)), (0, .ref (ad (200, 0, 0, 0))), (1, .int (zI r5)), (2, .int (zI r22)), (3, .ref (ad (203, Q 4 r5 0, r22, 0))), (4, .int (zI v53)), (5, .int (zI v69)), (6, .int (zI v79))]) dX7_seek_135 rfl (by decide) (fun _ => rfl) (fun v135 e135 => ?_)
            refine G_goto (pc := 138) 84 dX7_seek_138 (by decide) ?_
            refine G_perm (lv' := [(0, .ref (ad (200, 0, 0, 0))), (1, .int (zI r5)), (2, .int (zI r22)), (3, .ref (ad (203, Q 4 r5 0, r22, 0))), (4, .int (zI v53)), (5, .int (zI v69)), (6, .int (zI v79)), (7, .int (zI v135))]) [1, 2, 3, 4, 5, 6, 7, 0] rfl ?_
            exact ih84 v135 V8_132 ⟨by omega, by rw [e135, ← hlo, lp_step (a := o) (n := Q 2 (Q 4 r5 0) r22) (by omega)]; rw [show zsk r5 r22 v69 o T = V8_132 from by first | (rw [hV8_132]; exact if_pos (by omega)) | exact if_neg (fun q => by have q2 : v69 ≤ o ∨ (T (19, r5, r22, 0) o = 1 ∨ T (19, r5, r22, 0) o = 2) := q; omega)], by assumption⟩ (by omega)
          · refine G_aload_n (pc := 112) 3 3 dX7_seek_112 rfl rfl ?_
            refine G_iload (pc := 113) 7 dX7_seek_113 rfl ?_
            refine G_aldA (pc := 115) (t := 5) rfl dX7_seek_115 (pg_203 (by first | assumption | omega | exact ⟨by omega, by omega⟩ | exact ⟨⟨by omega, by omega⟩, by omega⟩ | exact zWV.R (by assumption) _ _)) ⟨by omega, by omega, by omega, by omega⟩ rfl ?_
            refine G_iconst (pc := 116) dX7_seek_116 ?_
            refine G_iconst (pc := 117) dX7_seek_117 ?_
            refine G_iload_n (pc := 118) 1 1 dX7_seek_118 rfl rfl ?_
            refine G_imul (pc := 119) dX7_seek_119 ?_
            refine G_iadd (pc := 120) dX7_seek_120 ?_
            refine G_ialdV (pc := 121) (T (19, r5, r22, 0) o) dX7_seek_121 (pg_204 (by first | assumption | omega | exact ⟨by omega, by omega⟩ | exact ⟨⟨by omega, by omega⟩, by omega⟩ | exact zWV.R (by assumption) _ _)) ⟨by omega, by omega, by omega, by omega⟩ (zpr_5 (by first | assumption | omega | exact ⟨by omega, by omega⟩ | exact ⟨⟨by omega, by omega⟩, by omega⟩ | exact zWV.R (by assumption) _ _) rfl) ?_
            refine G_iconst (pc := 122) dX7_seek_122 ?_
            refine G_icmp_ne (pc := 123) 135 dX7_seek_123 (by decide) (by first | exact zWV.R (by assumption) _ _ | exact ⟨by omega, by omega⟩ | assumption | (subst_vars; first | exact zWV.R (by assumption) _ _ | exact ⟨by omega, by omega⟩)) (by first | exact zWV.R (by assumption) _ _ | exact ⟨by omega, by omega⟩ | assumption | (subst_vars; first | exact zWV.R (by assumption) _ _ | exact ⟨by omega, by omega⟩)) (fun c123 => ?_) (fun c123 => ?_)
            · refine G_iinc_e (pc := 135) 7 (fun zw => [(7, .int (zI zw)), (0, .ref (ad (200, 0, 0, 0))), (1, .int (zI r5)), (2, .int (zI r22)), (3, .ref (ad (203, Q 4 r5 0, r22, 0))), (4, .int (zI v53)), (5, .int (zI v69)), (6, .int (zI v79))]) dX7_seek_135 rfl (by decide) (fun _ => rfl) (fun v135 e135 => ?_)
              refine G_goto (pc := 138) 84 dX7_seek_138 (by decide) ?_
              refine G_perm (lv' := [(0, .ref (ad (200, 0, 0, 0))), (1, .int (zI r5)), (2, .int (zI r22)), (3, .ref (ad (203, Q 4 r5 0, r22, 0))), (4, .int (zI v53)), (5, .int (zI v69)), (6, .int (zI v79)), (7, .int (zI v135))]) [1, 2, 3, 4, 5, 6, 7, 0] rfl ?_
              exact ih84 v135 T ⟨by omega, by rw [e135, ← hlo, lp_step (a := o) (n := Q 2 (Q 4 r5 0) r22) (by omega)]; rw [show zsk r5 r22 v69 o T = T from by first | (rw [hT]; exact if_pos (by omega)) | exact if_neg (fun q => by have q2 : v69 ≤ o ∨ (T (19, r5, r22, 0) o = 1 ∨ T (19, r5, r22, 0) o = 2) := q; omega)], by assumption⟩ (by omega)
            · refine G_aload_n (pc := 126) 0 0 dX7_seek_126 rfl rfl ?_
              refine G_aload_n (pc := 127) 3 3 dX7_seek_127 rfl rfl ?_
              refine G_iload (pc := 128) 7 dX7_seek_128 rfl ?_
              refine G_aldA (pc := 130) (t := 5) rfl dX7_seek_130 (pg_203 (by first | assumption | omega | exact ⟨by omega, by omega⟩ | exact ⟨⟨by omega, by omega⟩, by omega⟩ | exact zWV.R (by assumption) _ _)) ⟨by omega, by omega, by omega, by omega⟩ rfl ?_
              refine G_iload_n (pc := 131) 1 1 dX7_seek_131 rfl rfl ?_
              refine G_callVv (pc := 132) gk_X7_145 dX7_seek_132 pg_200 rfl (c_X7_forget (by first | assumption | omega | exact ⟨by omega, by omega⟩ | exact ⟨⟨by omega, by omega⟩, by omega⟩ | exact zWV.R (by assumption) _ _) (by first | assumption | omega | exact ⟨by omega, by omega⟩ | exact ⟨⟨by omega, by omega⟩, by omega⟩ | exact zWV.R (by assumption) _ _) (by first | assumption | omega | exact ⟨by omega, by omega⟩ | exact ⟨⟨by omega, by omega⟩, by omega⟩ | exact zWV.R (by assumption) _ _) (by first | assumption | omega | exact ⟨by omega, by omega⟩ | exact ⟨⟨by omega, by omega⟩, by omega⟩ | exact zWV.R (by assumption) _ _) (by first | assumption | omega | exact ⟨by omega, by omega⟩ | exact ⟨⟨by omega, by omega⟩, by omega⟩ | exact zWV.R (by assumption) _ _) (by first | assumption | omega | exact ⟨by omega, by omega⟩ | exact ⟨⟨by omega, by omega⟩, by omega⟩ | exact zWV.R (by assumption) _ _) rfl) rfl rfl (Nat.le_of_ble_eq_true rfl) ⟨⟨Nat.le_of_ble_eq_true rfl, Nat.le_of_ble_eq_true rfl⟩, Nat.le_of_ble_eq_true rfl, Nat.le_of_ble_eq_true rfl⟩ ?_
              refine G_nameV (fun V9_132 hV9_132 => ?_)
              have hVV9_132 : zWV Q V9_132 := by rw [hV9_132]; exact zfg_V hVT
              refine G_iinc_e (pc := 135) 7 (fun zw => [(7, .int (zI zw)), (0, .ref (ad (200, 0, 0, 0))), (1, .int (zI r5)), (2, .int (zI r22)), (3, .ref (ad (203, Q 4 r5 0, r22, 0))), (4, .int (zI v53)), (5, .int (zI v69)), (6, .int (zI v79))]) dX7_seek_135 rfl (by decide) (fun _ => rfl) (fun v135 e135 => ?_)
              refine G_goto (pc := 138) 84 dX7_seek_138 (by decide) ?_
              refine G_perm (lv' := [(0, .ref (ad (200, 0, 0, 0))), (1, .int (zI r5)), (2, .int (zI r22)), (3, .ref (ad (203, Q 4 r5 0, r22, 0))), (4, .int (zI v53)), (5, .int (zI v69)), (6, .int (zI v79)), (7, .int (zI v135))]) [1, 2, 3, 4, 5, 6, 7, 0] rfl ?_
              exact ih84 v135 V9_132 ⟨by omega, by rw [e135, ← hlo, lp_step (a := o) (n := Q 2 (Q 4 r5 0) r22) (by omega)]; rw [show zsk r5 r22 v69 o T = V9_132 from by first | (rw [hV9_132]; exact if_pos (by omega)) | exact if_neg (fun q => by have q2 : v69 ≤ o ∨ (T (19, r5, r22, 0) o = 1 ∨ T (19, r5, r22, 0) o = 2) := q; omega)], by assumption⟩ (by omega)
  refine G_perm (lv' := [(0, .ref (ad (200, 0, 0, 0))), (1, .int (zI r5)), (2, .int (zI r22)), (3, .ref (ad (203, Q 4 r5 0, r22, 0))), (4, .int (zI v53)), (5, .int (zI v69)), (6, .int (zI v79)), (7, .int (zI v82))]) [7, 6, 5, 4, 3, 2, 1, 0] rfl ?_
  exact L84 _ v82 V3_65 ⟨by omega, by rw [e82, hD0], by rw [← hD0]; exact hVD⟩ (Nat.lt_succ_self _)
