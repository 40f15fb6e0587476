/-! ===== send, from the new row on ===== -/
section ZSW
variable {Q : zP} {D : zS} {t q x k v z c : Int}
/-- the new row -/
theorem zpr_new (hJ : zJ Q D) (hq : inP Q t q) (h80 : Q 2 t q < 80) {j : Int} (h0 : 0 ≤ j) (h17 : j < 17) : zup (zup (zup (zup (fun _ => 0) 0 k) 1 v) 2 (D (0, 0, 0, 0) 6)) 3 (D (212, 0, 0, 0) x) j = zpr (zPsd Q t q c) (zSn Q D t q x k v z) t q (Q 2 t q) j := by
  obtain ⟨-, ⟨M, hM⟩, -⟩ := hJ
  have hrK : ∀ g p o, inG Q g → inQ Q g p → Q 2 (Q 4 g 0) p ≤ o → o < 80 → D (19, g, p, 0) o = 0 ∧ D (20, g, p, 0) o = 0 ∧ D (21, g, p, 0) o = 0 := hM.1.2.2.2.2.2.1
  unfold zpr
  rw [zSn_14 (f := 0) (by decide), zSn_14 (f := 1) (by decide), zSn_14 (f := 2) (by decide), zSn_14 (f := 5) (by decide), zSn_146, zSn_k (by simp), zSn_k (by simp), zSn_k (by simp), zPsd_m (by decide), zPsd_m (by decide)]
  show (if j = 3 then D (212, 0, 0, 0) x else if j = 2 then D (0, 0, 0, 0) 6 else if j = 1 then v else if j = 0 then k else 0) = _
  by_cases j0 : j = 0
  · subst j0
    rfl
  by_cases j1 : j = 1
  · subst j1
    rfl
  by_cases j2 : j = 2
  · subst j2
    rfl
  by_cases j3 : j = 3
  · subst j3
    rfl
  rw [if_neg j3, if_neg j2, if_neg j1, if_neg j0, if_neg j0, if_neg j1, if_neg j2, if_neg j3]
  by_cases j4 : j = 4
  · subst j4
    rfl
  rw [if_neg j4]
  split
  · next w =>
    have hr := hrK ((j - 5) / 3) q (Q 2 t q) ⟨w.1, w.2.1⟩ (by show 0 ≤ q ∧ q < Q 1 (Q 4 ((j - 5) / 3) 0) 0; rw [w.2.2]; exact hq) (by rw [w.2.2]; exact Int.le_refl _) h80
    rw [hr.1, hr.2.1, hr.2.2]
    split
    · rfl
    · split <;> rfl
  · rfl
end ZSW
set_option maxHeartbeats 4000000 in
set_option maxRecDepth 100000 in
theorem w_X7_send {Γ : zCx} {ad0 ad : zK → Nat} {Q : zP} {V D : zS} {X : zMem} {t q x n k v z c e6 : Int} (hF : zFn Γ yX7_send.name (some .boolean) (zAct (z_d Γ) ad0 Q V 1000) 4 260) (hJ : zJ Q D) (hJ2 : zJ (zPsd Q t q c) (zSn Q D t q x k v z)) (hX : X = mm (z_d Γ) ad (zPsd Q t q c) (zSn Q D t q x k v z) z00) (ha : ad (0, 0, 0, 0) = ad0 (0, 0, 0, 0) ∧ ad (200, 0, 0, 0) = ad0 (200, 0, 0, 0)) (ht : inT Q t) (hx : 0 ≤ x ∧ x < 4) (hq : inP Q t q) (hq80 : Q 2 t q < 80) (hDd : D (200, 0, 0, 0) 2 ≤ V (200, 0, 0, 0) 2 + 1000) (hD4 : D (0, 0, 0, 0) 4 = V (0, 0, 0, 0) 4) (hD6 : D (0, 0, 0, 0) 6 = V (0, 0, 0, 0) 6) (hD1 : D (1, 0, 0, 0) 1 = V (1, 0, 0, 0) 1) :
    G Γ (zRm 11 4 260) cX7_send 11 RX7 ad (pm (z_d Γ) ad Q D X) 2 160 256 [(0, .ref (ad (200, 0, 0, 0))), (1, .int (zI t)), (2, .int (zI x)), (3, .int (zI n)), (4, .int (zI k)), (5, .int (zI v)), (6, .int (zI e6)), (7, .int (zI 1)), (8, .int (zI (Q 2 t q))), (9, .int (zI q))] [] := by
  have hP := hJ.wp
  have hqn := hP.n
  have hM := hP.m ht hq
  have hN1 := hP.t ht
  have hV := hJ.wv
  have hnx := hV.nx t x
  have hf0 := hV.f0
  have htb : 0 ≤ t ∧ t < 4 := ⟨ht.1, by have := ht.2; omega⟩
  have hqb : 0 ≤ q ∧ q < 4 := ⟨hq.1, by have := hq.2; omega⟩
  have ht1 := ht.1
  have ht2 := ht.2
  have hq1 := hq.1
  have hq2 := hq.2
  have x230 : ∀ (m : Nat) (i j l : Int), 224 ≤ m → X (m, i, j, l) = none := fun m i j l hm => by rw [hX, mm_ge _ (by show ¬ m < 80; omega)]; rfl
  refine G_bipush (pc := 256) dX7_send_256 (by decide) ?_
  refine G_rI (pc := 258) (N := 17) (230, 0, 0, 0) dX7_send_258 ((pm_out _ (by decide)).trans (x230 _ _ _ _ (by decide))) rfl ⟨by omega, by omega⟩ ⟨Nat.le_of_ble_eq_true rfl, Nat.le_of_ble_eq_true rfl⟩ (fun ad1 had1 => ?_)
  show G Γ _ _ _ _ _ _ 3 177 _ _ _
  have h1lt : ∀ k : zK, k.1 < 224 → ad1 k = ad k := fun k hk => had1 k (fun q => by rw [q] at hk; exact absurd hk (by decide))
  rw [← h1lt (200, 0, 0, 0) (by decide), ← pm_ad h1lt, pm_up (by decide)]
  have tg : ∀ F : Int → Int, pm (z_d Γ) ad1 Q D (zup1 X (230, 0, 0, 0) (some (.inl ((z_d Γ).2.1 0, 17, .inl (zAi F))))) (230, 0, 0, 0) = some (.inl ((z_d Γ).2.1 0, 17, .inl (zAi F))) := fun F => (pm_out _ (by decide)).trans (zup1_s _ _ _)
  have tp : ∀ F F' : Int → Int, zup1 (pm (z_d Γ) ad1 Q D (zup1 X (230, 0, 0, 0) (some (.inl ((z_d Γ).2.1 0, 17, .inl (zAi F)))))) (230, 0, 0, 0) (some (.inl ((z_d Γ).2.1 0, 17, .inl (zAi F')))) = pm (z_d Γ) ad1 Q D (zup1 X (230, 0, 0, 0) (some (.inl ((z_d Γ).2.1 0, 17, .inl (zAi F'))))) := fun F F' => by rw [pm_up (by decide), zup1_2]
  refine G_astore (pc := 260) [(10, .ref (ad1 (230, 0, 0, 0))), (0, .ref (ad1 (200, 0, 0, 0))), (1, .int (zI t)), (2, .int (zI x)), (3, .int (zI n)), (4, .int (zI k)), (5, .int (zI v)), (6, .int (zI e6)), (7, .int (zI 1)), (8, .int (zI (Q 2 t q))), (9, .int (zI q))] dX7_send_260 (by decide) rfl ?_
  refine G_aload (pc := 262) 0 dX7_send_262 rfl ?_
  refine G_iconst (pc := 264) dX7_send_264 ?_
  refine G_iload (pc := 265) 5 dX7_send_265 rfl ?_
  refine G_iast (pc := 267) dX7_send_267 (tg _) ⟨by omega, by omega, by omega, by omega⟩ (tp _ _) ?_
  refine G_aload (pc := 268) 0 dX7_send_268 rfl ?_
  refine G_iconst (pc := 270) dX7_send_270 ?_
  refine G_iload (pc := 271) 6 dX7_send_271 rfl ?_
  refine G_iast (pc := 273) dX7_send_273 (tg _) ⟨by omega, by omega, by omega, by omega⟩ (tp _ _) ?_
  refine G_aload (pc := 274) 0 dX7_send_274 rfl ?_
  refine G_iconst (pc := 276) dX7_send_276 ?_
  refine G_aload_n (pc := 277) 0 1 dX7_send_277 rfl rfl ?_
  refine G_getf (pc := 278) fl_X7_119 dX7_send_278 pg_200 rfl ?_
  refine G_iast (pc := 281) dX7_send_281 (tg _) ⟨by omega, by omega, by omega, by omega⟩ (tp _ _) ?_
  refine G_aload (pc := 282) 0 dX7_send_282 rfl ?_
  refine G_iconst (pc := 284) dX7_send_284 ?_
  refine G_aload_n (pc := 285) 0 1 dX7_send_285 rfl rfl ?_
  refine G_getf (pc := 286) fl_X7_48 dX7_send_286 pg_200 rfl ?_
  refine G_iload_n (pc := 289) 2 3 dX7_send_289 rfl rfl ?_
  refine G_ialdV (pc := 290) (D (212, 0, 0, 0) x) dX7_send_290 pg_212 ⟨by omega, by omega, by omega, by omega⟩ rfl ?_
  refine G_iast (pc := 291) dX7_send_291 (tg _) ⟨by omega, by omega, by omega, by omega⟩ (tp _ _) ?_
  refine G_aload_n (pc := 292) 0 1 dX7_send_292 rfl rfl ?_
  refine G_getf (pc := 293) fl_X7_25 dX7_send_293 pg_200 rfl ?_
  refine G_iload_n (pc := 296) 1 2 dX7_send_296 rfl rfl ?_
  refine G_aldA (pc := 297) (t := 7) rfl dX7_send_297 pg_201 ⟨by omega, by omega, by omega, by omega⟩ rfl ?_
  refine G_iload (pc := 298) 10 dX7_send_298 rfl ?_
  refine G_aload_n (pc := 300) 0 1 dX7_send_300 rfl rfl ?_
  refine G_getf (pc := 301) fl_X7_25 dX7_send_301 pg_200 rfl ?_
  refine G_iload_n (pc := 304) 1 2 dX7_send_304 rfl rfl ?_
  refine G_aldA (pc := 305) (t := 7) rfl dX7_send_305 pg_201 ⟨by omega, by omega, by omega, by omega⟩ rfl ?_
  refine G_iload (pc := 306) 10 dX7_send_306 rfl ?_
  refine G_aldA (pc := 308) (t := 6) rfl dX7_send_308 (pg_202 ht) ⟨by omega, by omega, by omega, by omega⟩ rfl ?_
  refine G_aload (pc := 309) 0 dX7_send_309 rfl ?_
  have hFR : ∀ j : Int, 0 ≤ j → j < 17 → zup (zup (zup (zup (fun _ => 0) 0 k) 1 v) 2 (D (0, 0, 0, 0) 6)) 3 (D (212, 0, 0, 0) x) j = zpr (zPsd Q t q c) (zSn Q D t q x k v z) t q (Q 2 t q) j := fun j j0 j1 => zpr_new hJ hq hq80 j0 j1
  generalize zup (zup (zup (zup (fun _ => 0) 0 k) 1 v) 2 (D (0, 0, 0, 0) 6)) 3 (D (212, 0, 0, 0) x) = F5 at hFR
  refine G_nm (fun M1 hM1 => ?_)
  have f1 : ∀ k, k ≠ (230, 0, 0, 0) → M1 k = pm (z_d Γ) ad1 Q D X k := fun k hk => by rw [hM1, ← pm_up (by decide), zup1_n _ _ hk]
  have k230 : M1 (230, 0, 0, 0) = some (.inl ((z_d Γ).2.1 0, 17, .inl (zAi F5))) := by rw [hM1]; exact tg F5
  have k203 : M1 (203, t, q, 0) = some (.inl ((z_d Γ).2.1 5, (Q 2 t q).toNat, .inr (.inr (.inr (.inr (zAq (fun x => some (ad1 (204, t, q, x))))))))) := (f1 _ (by simp)).trans (pg_203 ⟨ht, hq⟩)
  have k231 : M1 (231, 0, 0, 0) = none := (f1 _ (by simp)).trans ((pm_out _ (by decide)).trans (x230 _ _ _ _ (by decide)))
  refine G_callS (pc := 311) gk_X7_122 dX7_send_311 (c_X7_with (n1 := 17) (231, 0, 0, 0) ⟨by omega, by omega⟩ k203 k230 k231 (fun i hi1 hi2 => ⟨(204, t, q, i), 17, _, rfl, (f1 _ (by simp)).trans (pg_204 ⟨⟨ht, hq⟩, ⟨hi1, hi2⟩⟩)⟩)) rfl rfl (Nat.le_of_ble_eq_true rfl) ⟨⟨Nat.le_of_ble_eq_true rfl, Nat.le_of_ble_eq_true rfl⟩, Nat.le_of_ble_eq_true rfl, by show 177 + (Q 2 t q + 1).toNat ≤ 260; omega⟩ (fun w ad2 M2 hpo => ?_)
  obtain ⟨rfl, hfr, h231⟩ := hpo
  show G Γ _ _ _ _ _ _ 4 (177 + (Q 2 t q + 1).toNat) 314 [(10, .ref (ad1 (230, 0, 0, 0))), (0, .ref (ad1 (200, 0, 0, 0))), (1, .int (zI t)), (2, .int (zI x)), (3, .int (zI n)), (4, .int (zI k)), (5, .int (zI v)), (6, .int (zI e6)), (7, .int (zI 1)), (8, .int (zI (Q 2 t q))), (9, .int (zI q))] [.ref (ad2 (231, 0, 0, 0)), .int (zI q), .ref (ad1 (202, t, 0, 0))]
  have h2 : ∀ k, k ≠ (231, 0, 0, 0) → ad2 k = ad1 k := fun k hk => (hfr k hk).1
  have h2lt : ∀ k : zK, k.1 < 224 → ad2 k = ad1 k := fun k hk => h2 k (fun q => by rw [q] at hk; exact absurd hk (by decide))
  have hpm2 : pm (z_d Γ) ad2 Q D X = pm (z_d Γ) ad1 Q D X := pm_ad h2lt
  have f2 : ∀ k, k ≠ (231, 0, 0, 0) → k ≠ (230, 0, 0, 0) → M2 k = pm (z_d Γ) ad2 Q D X k := fun k h1 h3 => by rw [(hfr k h1).2, f1 k h3, hpm2]
  have k230' : M2 (230, 0, 0, 0) = some (.inl ((z_d Γ).2.1 0, 17, .inl (zAi F5))) := (hfr _ (by simp)).2.trans k230
  rw [← h2 (202, t, 0, 0) (by simp), ← h2 (200, 0, 0, 0) (by simp)]
  refine G_astA (pc := 314) (t := 6) (tv := 5) (te := .array .int) rfl (by decide) rfl dX7_send_314 ((f2 (202, t, 0, 0) (by simp) (by simp)).trans (pg_202 ht)) h231 ⟨by omega, by omega, by omega, by omega⟩ rfl ?_
  refine G_nm (fun M3 hM3 => ?_)
  have f3 : ∀ k, k ≠ (231, 0, 0, 0) → k ≠ (230, 0, 0, 0) → k ≠ (202, t, 0, 0) → M3 k = pm (z_d Γ) ad2 Q D X k := fun k a b c => by rw [hM3, zup1_n _ _ c]; exact f2 k a b
  refine G_aload_n (pc := 315) 0 1 dX7_send_315 rfl rfl ?_
  refine G_getf (pc := 316) fl_X7_42 dX7_send_316 ((f3 (200, 0, 0, 0) (by simp) (by simp) (by simp)).trans pg_200) rfl ?_
  refine G_iload_n (pc := 319) 1 2 dX7_send_319 rfl rfl ?_
  refine G_aldA (pc := 320) (t := 5) rfl dX7_send_320 ((f3 (209, 0, 0, 0) (by simp) (by simp) (by simp)).trans pg_209) ⟨by omega, by omega, by omega, by omega⟩ rfl ?_
  refine G_iload_n (pc := 321) 2 3 dX7_send_321 rfl rfl ?_
  refine G_dup2 (pc := 322) dX7_send_322 rfl rfl ?_
  refine G_ialdV (pc := 323) (D (10, t, 0, 0) x) dX7_send_323 ((f3 (210, t, 0, 0) (by simp) (by simp) (by simp)).trans (pg_210 htb)) ⟨by omega, by omega, by omega, by omega⟩ rfl ?_
  refine G_iconst (pc := 324) dX7_send_324 ?_
  refine G_iadd (pc := 325) dX7_send_325 ?_
  refine G_iast (pc := 326) dX7_send_326 ((f3 (210, t, 0, 0) (by simp) (by simp) (by simp)).trans (pg_210 htb)) ⟨by omega, by omega, by omega, by omega⟩ rfl ?_
  refine G_nm (fun M4 hM4 => ?_)
  have f4 : ∀ k, k ≠ (231, 0, 0, 0) → k ≠ (230, 0, 0, 0) → k ≠ (202, t, 0, 0) → k ≠ (210, t, 0, 0) → M4 k = pm (z_d Γ) ad2 Q D X k := fun k a b c d => by rw [hM4, zup1_n _ _ d]; exact f3 k a b c
  have k200 := (f4 (200, 0, 0, 0) (by simp) (by simp) (by simp) (by simp)).trans pg_200
  refine G_aload_n (pc := 327) 0 1 dX7_send_327 rfl rfl ?_
  refine G_dup (pc := 328) dX7_send_328 rfl ?_
  refine G_getf (pc := 329) fl_X7_112 dX7_send_329 k200 rfl ?_
  refine G_iconst (pc := 332) dX7_send_332 ?_
  refine G_iadd (pc := 333) dX7_send_333 ?_
  refine G_putf (pc := 334) fl_X7_112 fp_X7_6 dX7_send_334 k200 (Nat.le_of_ble_eq_true rfl) rfl rfl rfl ?_
  refine G_nm (fun M5 hM5 => ?_)
  let ad3 : zK → Nat := fun k => ad2 (zrS t q (Q 2 t q) k)
  have a3 : ∀ k : zK, k ≠ (203, t, q, 0) → k ≠ (204, t, q, Q 2 t q) → ad3 k = ad2 k := fun k a b => by show ad2 (zrS t q _ k) = _; rw [zrS_o a b]
  have a203 : ad3 (203, t, q, 0) = ad2 (231, 0, 0, 0) := by show ad2 (zrS t q _ _) = _; rw [zrS_3]
  have a204 : ad3 (204, t, q, Q 2 t q) = ad2 (230, 0, 0, 0) := by show ad2 (zrS t q _ _) = _; rw [zrS_4]
  refine G_rneq (ad' := ad3) (M' := pm (z_d Γ) ad3 (zPsd Q t q c) (zSn Q D t q x k v z) X) (zrS t q (Q 2 t q)) (fun K e' hk => ⟨rfl, ?_⟩) (fun K K' hk hk' hq2 => ?_) ?_
  · by_cases k0 : K = (200, 0, 0, 0)
    · subst k0
      rw [zrS_o (by simp) (by simp), hM5, zup1_s]
      refine ⟨_, rfl, ?_⟩
      rw [pg_200] at hk
      cases hk
      rw [zSn_k (K := (200, 0, 0, 0)) (by simp), zSn_k (K := (200, 0, 0, 0)) (by simp), zSn_0 (f := 6) (by decide), zSn_0 (f := 7) (by decide), zSn_0 (f := 8) (by decide), zSn_0 (f := 4) (by decide), zSn_5]
      simp only [a3 (0, 0, 0, 0) (by simp) (by simp), a3 (201, 0, 0, 0) (by simp) (by simp), a3 (205, 0, 0, 0) (by simp) (by simp), a3 (206, 0, 0, 0) (by simp) (by simp), a3 (207, 0, 0, 0) (by simp) (by simp), a3 (209, 0, 0, 0) (by simp) (by simp), a3 (211, 0, 0, 0) (by simp) (by simp), a3 (212, 0, 0, 0) (by simp) (by simp), a3 (213, 0, 0, 0) (by simp) (by simp), a3 (214, 0, 0, 0) (by simp) (by simp), a3 (216, 0, 0, 0) (by simp) (by simp), a3 (218, 0, 0, 0) (by simp) (by simp), a3 (220, 0, 0, 0) (by simp) (by simp), a3 (222, 0, 0, 0) (by simp) (by simp)]
      exact fun H h => h
    · by_cases k2 : K = (202, t, 0, 0)
      · subst k2
        rw [zrS_o (by simp) (by simp), hM5, zup1_n _ _ (by simp), hM4, zup1_n _ _ (by simp), hM3, zup1_s]
        refine ⟨_, rfl, ?_⟩
        rw [pg_202 (by show 0 ≤ t ∧ t < zPsd Q t q c 0 0 0; rw [zPsd_m (by decide)]; exact ht), zPsd_m (by decide)] at hk
        cases hk
        refine fun H => va_eqF (fun y y0 y1 => ?_) H
        show (if y = q then some (ad2 (231, 0, 0, 0)) else some (ad2 (203, t, y, 0))) = some (ad3 (203, t, y, 0))
        by_cases hy : y = q
        · rw [if_pos hy, hy, a203]
        · rw [if_neg hy, a3 _ (by simpa using hy) (by simp)]
      · by_cases k3 : K = (203, t, q, 0)
        · subst k3
          rw [zrS_3, hM5, zup1_n _ _ (by simp), hM4, zup1_n _ _ (by simp), hM3, zup1_n _ _ (by simp), h231]
          refine ⟨_, rfl, ?_⟩
          rw [pg_203 (by rw [zPsd_m (by decide), zPsd_m (by decide)]; exact ⟨ht, hq⟩), zPsd_2, if_pos ⟨rfl, rfl⟩] at hk
          cases hk
          refine fun H => va_eqF (fun y y0 y1 => ?_) H
          show (if y = Q 2 t q then some (ad1 (230, 0, 0, 0)) else if 0 ≤ y ∧ y < Q 2 t q then some (ad1 (204, t, q, y)) else none) = some (ad3 (204, t, q, y))
          by_cases hy : y = Q 2 t q
          · rw [if_pos hy, hy, a204, h2 _ (by simp)]
          · rw [if_neg hy, if_pos ⟨y0, by omega⟩, a3 _ (by simp) (by simpa using hy), h2 _ (by simp)]
        · by_cases k4 : K = (204, t, q, Q 2 t q)
          · subst k4
            rw [zrS_4, hM5, zup1_n _ _ (by simp), hM4, zup1_n _ _ (by simp), hM3, zup1_n _ _ (by simp), k230']
            refine ⟨_, rfl, ?_⟩
            rw [pg_204 (by rw [zPsd_m (by decide), zPsd_m (by decide), zPsd_2, if_pos ⟨rfl, rfl⟩]; exact ⟨⟨ht, hq⟩, by omega, by omega⟩)] at hk
            cases hk
            exact fun H => va_eqIi (fun y y0 y1 => hFR y y0 (by omega)) H
          · by_cases k5 : K = (210, t, 0, 0)
            · subst k5
              rw [zrS_o (by simp) (by simp), hM5, zup1_n _ _ (by simp), hM4, zup1_s]
              refine ⟨_, rfl, ?_⟩
              rw [pg_210 htb] at hk
              cases hk
              refine fun H => va_eqIi (fun y y0 y1 => ?_) H
              show (if y = x then D (10, t, 0, 0) x + 1 else D (10, t, 0, 0) y) = zSn Q D t q x k v z (10, t, 0, 0) y
              by_cases hy : y = x
              · rw [if_pos hy, hy, zSn_10]
              · rw [if_neg hy, zSn_n (by simp) (by simp) (fun e => hy e.2) (by simp)]
            · rw [zrS_o k3 k4]
              have hk' := pm_snd (ad := ad2) (ad' := ad3) (fun k a b _ => a3 k a b) k0 k2 k3 k4 k5 hk
              have hlt : K.1 < 224 := Nat.lt_of_not_le fun q => by
                obtain ⟨m, i, j, l⟩ := K
                have h230 : 224 ≤ m := q
                rw [pm_out _ (by simp; omega), x230 _ _ _ _ h230] at hk'
                cases hk'
              refine ⟨e', ?_, fun H h => h⟩
              rw [hM5, zup1_n _ _ k0, f4 K (fun q => by rw [q] at hlt; exact absurd hlt (by decide)) (fun q => by rw [q] at hlt; exact absurd hlt (by decide)) k2 k5]
              exact hk'
  · have dm : ∀ k' : zK, pm (z_d Γ) ad3 (zPsd Q t q c) (zSn Q D t q x k v z) X k' ≠ none → k'.1 < 224 := fun k' hk => Nat.lt_of_not_le fun q => by
      obtain ⟨m, i, j, l⟩ := k'
      exact hk (by rw [pm_out _ (by simp; omega)]; exact x230 _ _ _ _ q)
    have d1 := dm K hk
    have d2 := dm K' hk'
    have im : ∀ k : zK, k.1 < 224 → (zrS t q (Q 2 t q) k = k ∧ k ≠ (203, t, q, 0) ∧ k ≠ (204, t, q, Q 2 t q)) ∨ (k = (203, t, q, 0) ∧ zrS t q (Q 2 t q) k = (231, 0, 0, 0)) ∨ (k = (204, t, q, Q 2 t q) ∧ zrS t q (Q 2 t q) k = (230, 0, 0, 0)) := fun k hk => by
      by_cases a : k = (203, t, q, 0)
      · exact Or.inr (Or.inl ⟨a, by rw [a, zrS_3]⟩)
      · by_cases b : k = (204, t, q, Q 2 t q)
        · exact Or.inr (Or.inr ⟨b, by rw [b, zrS_4]⟩)
        · exact Or.inl ⟨zrS_o a b, a, b⟩
    have lt1 : ∀ (k : zK) (m : Nat) (p l : Int), k.1 < 224 → 230 ≤ m → k ≠ (m, p, l, 0) := fun k m p l h1 h2 q => by rw [q] at h1; exact absurd h1 (by show ¬ m < 224; omega)
    rcases im K d1 with ⟨q1, -⟩ | ⟨q1, q2⟩ | ⟨q1, q2⟩ <;> rcases im K' d2 with ⟨r1, -⟩ | ⟨r1, r2⟩ | ⟨r1, r2⟩
    · rw [q1, r1] at hq2; exact hq2
    · rw [q1, r2] at hq2; exact absurd hq2 (lt1 _ _ _ _ d1 (by decide))
    · rw [q1, r2] at hq2; exact absurd hq2 (lt1 _ _ _ _ d1 (by decide))
    · rw [q2, r1] at hq2; exact absurd hq2.symm (lt1 _ _ _ _ d2 (by decide))
    · rw [q1, r1]
    · rw [q2, r2] at hq2; simp at hq2
    · rw [q2, r1] at hq2; exact absurd hq2.symm (lt1 _ _ _ _ d2 (by decide))
    · rw [q2, r2] at hq2; simp at hq2
    · rw [q1, r1]
  · have b200 : ad2 (200, 0, 0, 0) = ad3 (200, 0, 0, 0) := (a3 _ (by simp) (by simp)).symm
    rw [b200]
    have hlo : ∀ k : zK, k.1 < 80 → ad3 k = ad k := fun k hk => by
      rw [a3 k (fun q => by rw [q] at hk; exact absurd hk (by show ¬ 203 < 80; decide)) (fun q => by rw [q] at hk; exact absurd hk (by show ¬ 204 < 80; decide)), h2lt k (by omega), h1lt k (by omega)]
    have hX3 : X = mm (z_d Γ) ad3 (zPsd Q t q c) (zSn Q D t q x k v z) z00 := by rw [hX]; exact (mm_ad hlo).symm
    have hA : ad3 (0, 0, 0, 0) = ad0 (0, 0, 0, 0) ∧ ad3 (200, 0, 0, 0) = ad0 (200, 0, 0, 0) := ⟨(hlo _ (by decide)).trans ha.1, by rw [← b200, h2lt _ (by decide), h1lt _ (by decide)]; exact ha.2⟩
    generalize ad3 = ad4 at hlo hX3 hA ⊢
    clear a3 a203 a204 b200 hM5 hM4 hM3 f4 f3 k200
    have e0 : zPsd Q t q c 0 0 0 = Q 0 0 0 := zPsd_m (by decide)
    have e1 : zPsd Q t q c 1 t 0 = Q 1 t 0 := zPsd_m (by decide)
    have e3 : zPsd Q t q c 3 0 0 = Q 3 0 0 := zPsd_m (by decide)
    have ht' : 0 ≤ t ∧ t < zPsd Q t q c 0 0 0 := by rw [e0]; exact ht
    have hq' : 0 ≤ q ∧ q < zPsd Q t q c 1 t 0 := by rw [e1]; exact hq
    refine G_aload_n (pc := 337) 0 1 dX7_send_337 rfl rfl ?_
    refine G_callVv (pc := 338) gk_X7_126 dX7_send_338 pg_200 rfl (c_X7_settle hJ2.wp hJ2.wv hJ2.st) rfl rfl (Nat.le_of_ble_eq_true rfl) ⟨⟨Nat.le_of_ble_eq_true rfl, Nat.le_of_ble_eq_true rfl⟩, Nat.le_of_ble_eq_true rfl, by show 177 + (Q 2 t q + 1).toNat + 0 ≤ 260; omega⟩ ?_
    rw [zkA_id hJ2.xz]
    refine G_iload (pc := 341) 8 dX7_send_341 rfl ?_
    refine G_if_eq (pc := 343) 367 dX7_send_343 (by decide) ⟨by omega, by omega⟩ (fun c343 => absurd c343 (by decide)) (fun _ => ?_)
    refine G_iload (pc := 346) 9 dX7_send_346 rfl ?_
    refine G_aload_n (pc := 348) 0 1 dX7_send_348 rfl rfl ?_
    refine G_getf (pc := 349) fl_X7_25 dX7_send_349 pg_200 rfl ?_
    refine G_iload_n (pc := 352) 1 2 dX7_send_352 rfl rfl ?_
    refine G_aldA (pc := 353) (t := 7) rfl dX7_send_353 pg_201 ⟨by omega, by omega, by omega, by omega⟩ rfl ?_
    refine G_iload (pc := 354) 10 dX7_send_354 rfl ?_
    refine G_aldA (pc := 356) (t := 6) rfl dX7_send_356 (pg_202 ht') ⟨by omega, by omega, by omega, by omega⟩ rfl ?_
    refine G_alenV (pc := 357) (t := 5) (Q 2 t q + 1) rfl dX7_send_357 (pg_203 ⟨ht', hq'⟩) (by rw [zPsd_2, if_pos ⟨rfl, rfl⟩]; omega) ?_
    refine G_iconst (pc := 358) dX7_send_358 ?_
    refine G_isub (pc := 359) dX7_send_359 ?_
    refine G_icmp_ne (pc := 360) 367 dX7_send_360 (by decide) ⟨by omega, by omega⟩ ⟨by omega, by omega⟩ (fun c360 => absurd (show Q 2 t q = Q 2 t q + 1 - 1 by omega) c360) (fun _ => ?_)
    refine G_iconst (pc := 363) dX7_send_363 ?_
    refine G_goto (pc := 364) 368 dX7_send_364 (by decide) ?_
    exact G_zret (pc := 368) hF dX7_send_368 ⟨by omega, by omega⟩ (Or.inr rfl) ⟨rfl, zPsd Q t q c, zSn Q D t q x k v z, hA, by rw [hX3]; rfl, hJ2, by rw [zSn_k (by simp)]; omega, by rw [zSn_0 (by decide)]; omega, by rw [zSn_0 (by decide)]; omega, by rw [zSn_k (by simp)]; omega, by rw [e0]; exact Int.le_refl _, by rw [e3]; exact Int.le_refl _⟩
