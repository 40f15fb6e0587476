/-! ===== the law's cases, walked ===== -/
set_option maxHeartbeats 1000000 in
set_option maxRecDepth 100000 in
theorem w_0 {Γ : zCx} {b L : Nat} {xs : Nat → Int32} {P : zP} {T : zS} {i j : Int} {w : Int64} {wd : UInt64} {ad : zK → Nat} {nc ns : Nat} (hst : (z_l Γ).stackTraces = false) (hNc : zNc (z_s Γ)) (hX : zSc Γ b L xs) (hi : 0 ≤ i ∧ i + 6 ≤ L ∧ L ≤ 3072) (hc : nc + 700 ≤ 601024 ∧ ns + 7300 ≤ 7293034) {p1 : Int} (hp1 : zR p1) (hx1 : xs (i + 1).toNat = zI p1) {p2 : Int} (hp2 : zR p2) (hx2 : xs (i + 2).toNat = zI p2) (hJ : xJ P T T) (hj : T (0, 0, 0, 0) 4 ≤ j) (hj2 : j ≤ 512) (kk : zKn Γ b i j nc ns ad) : G Γ zRL cL_law 9 RL ad (mm (z_d Γ) ad P T (zXl (z_d Γ) w wd)) nc ns 208 (zLv ad b i) [] := by
  show G Γ zRL cL_law 9 RL ad (mm (z_d Γ) ad P T (zXl (z_d Γ) w wd)) nc ns 208 [(5, .int (zI i)), (0, .ref b), (1, .ref (ad (0, 0, 0, 0))), (2, .ref (ad (40, 0, 0, 0))), (3, .ref (ad (82, 0, 0, 0))), (4, .ref (ad (83, 0, 0, 0)))] []
  refine G_aload_n (pc := 208) 1 2 dL_law_208 rfl rfl ?_
  refine G_aload_n (pc := 209) 0 1 dL_law_209 rfl rfl ?_
  refine G_iload (pc := 210) 0 dL_law_210 rfl ?_
  refine G_iconst (pc := 212) dL_law_212 ?_
  refine G_iadd (pc := 213) dL_law_213 ?_
  refine G_sld (pc := 214) (v := p1) hX dL_law_214 ⟨by omega, by omega, by omega, by omega⟩ hx1 ?_
  refine G_aload_n (pc := 215) 0 1 dL_law_215 rfl rfl ?_
  refine G_iload (pc := 216) 0 dL_law_216 rfl ?_
  refine G_iconst (pc := 218) dL_law_218 ?_
  refine G_iadd (pc := 219) dL_law_219 ?_
  refine G_sld (pc := 220) (v := p2) hX dL_law_220 ⟨by omega, by omega, by omega, by omega⟩ hx2 ?_
  refine G_nz (pc := 221) dL_law_221 dL_law_224 dL_law_225 dL_law_228 hp2 ?_
  refine G_aload_n (pc := 229) 3 4 dL_law_229 rfl rfl ?_
  obtain ⟨d1, mc1, ms1, hr1, hm1⟩ := s_topic (l := z_l Γ) (Δ := z_d Γ) (n := p1) (b := (if p2 = 0 then 0 else 1)) hst hp1 (by by_cases q : p2 = 0 <;> simp [q]) P T j w wd ad hJ hj hj2
  have hr1' : d1 ≤ 11 ∧ mc1 ≤ 50 ∧ ms1 ≤ 1300 := hr1
  refine G_callH (pc := 230) hNc hk_topic dL_law_230 hm1 rfl rfl (Nat.le_of_ble_eq_true rfl) ⟨⟨by show d1 + 1 ≤ 12; omega, by show 8 + (5 + 11) + 38 * d1 ≤ 462; omega⟩, by show nc + mc1 ≤ 601024; omega, by show ns + ms1 ≤ 7293034; omega⟩ (fun v1 ad1 M1 hpo => ?_)
  obtain ⟨k, P1, T1, w1, rfl, hk, rfl, ⟨a0, a40, a82, a83⟩, d2, mc2, ms2, hr2, hm2⟩ := hpo
  have hr2' : d2 ≤ 11 ∧ mc2 ≤ 650 ∧ ms2 ≤ 6000 := hr2
  rw [← a0, ← a40, ← a82, ← a83]
  refine G_istore (pc := 233) [(6, .int (zI k)), (5, .int (zI i)), (0, .ref b), (1, .ref (ad1 (0, 0, 0, 0))), (2, .ref (ad1 (40, 0, 0, 0))), (3, .ref (ad1 (82, 0, 0, 0))), (4, .ref (ad1 (83, 0, 0, 0)))] dL_law_233 (by decide) rfl ?_
  refine G_aload_n (pc := 235) 2 4 dL_law_235 rfl rfl ?_
  refine G_aload_n (pc := 236) 0 2 dL_law_236 rfl rfl ?_
  refine G_iload (pc := 237) 1 dL_law_237 rfl ?_
  refine G_iconst (pc := 239) dL_law_239 ?_
  refine G_iadd (pc := 240) dL_law_240 ?_
  refine G_sld (pc := 241) (v := p1) hX dL_law_241 ⟨by omega, by omega, by omega, by omega⟩ hx1 ?_
  refine G_aload_n (pc := 242) 0 2 dL_law_242 rfl rfl ?_
  refine G_iload (pc := 243) 1 dL_law_243 rfl ?_
  refine G_iconst (pc := 245) dL_law_245 ?_
  refine G_iadd (pc := 246) dL_law_246 ?_
  refine G_sld (pc := 247) (v := p2) hX dL_law_247 ⟨by omega, by omega, by omega, by omega⟩ hx2 ?_
  refine G_nz (pc := 248) dL_law_248 dL_law_251 dL_law_252 dL_law_255 hp2 ?_
  refine G_callV (pc := 256) gk_L_128 dL_law_256 mg_40 rfl hm2 rfl rfl (Nat.le_of_ble_eq_true rfl) ⟨⟨by show d2 + 1 ≤ 12; omega, by show 8 + (3 + 11) + 38 * d2 ≤ 462; omega⟩, by show nc + mc1 + mc2 ≤ 601024; omega, by show ns + ms1 + ms2 ≤ 7293034; omega⟩ (fun v2 ad2 M2 hpo => ?_)
  obtain ⟨b', P2, T2, rfl, hb', rfl, ⟨c0, c40, c82, c83⟩, ek, ew, hJ2, hj3⟩ := hpo
  rw [← c0, ← c40, ← c82, ← c83]
  have hk2 : zKp ad ad2 := ⟨c0.trans a0, c40.trans a40, c82.trans a82, c83.trans a83⟩
  refine G_istore (pc := 259) [(7, .int (zI b')), (6, .int (zI k)), (5, .int (zI i)), (0, .ref b), (1, .ref (ad2 (0, 0, 0, 0))), (2, .ref (ad2 (40, 0, 0, 0))), (3, .ref (ad2 (82, 0, 0, 0))), (4, .ref (ad2 (83, 0, 0, 0)))] dL_law_259 (by decide) rfl ?_
  refine G_aload_n (pc := 261) 2 5 dL_law_261 rfl rfl ?_
  refine G_callVd (pc := 262) gk_L_129 dL_law_262 mg_40 rfl (c_X7_thrown (Q := P2) hJ2.2.2.2.2.2.1) rfl rfl (Nat.le_of_ble_eq_true rfl) ⟨⟨Nat.le_of_ble_eq_true rfl, Nat.le_of_ble_eq_true rfl⟩, by show nc + mc1 + mc2 + 0 ≤ 601024; omega, by show ns + ms1 + ms2 + 0 ≤ 7293034; omega⟩ ?_
  rw [ek]
  refine G_iload (pc := 265) 1 dL_law_265 rfl ?_
  refine G_icmp_eq (pc := 267) 272 dL_law_267 (by decide) ⟨by omega, by omega⟩ ⟨by omega, by omega⟩ (fun _ => ?_) (fun q => absurd rfl q)
  refine G_iload (pc := 272) 1 dL_law_272 rfl ?_
  have hfin : ∀ X9 : zK → Nat, X9 = ad2 → G Γ zRL cL_law 9 RL X9 (mm (z_d Γ) X9 P2 T2 (zXl (z_d Γ) w1 wd)) (nc + mc1 + mc2) (ns + ms1 + ms2) 289 [(7, .int (zI b')), (6, .int (zI k)), (5, .int (zI i)), (0, .ref b), (1, .ref (X9 (0, 0, 0, 0))), (2, .ref (X9 (40, 0, 0, 0))), (3, .ref (X9 (82, 0, 0, 0))), (4, .ref (X9 (83, 0, 0, 0)))] [] := by
    intro X9 e9
    subst e9
    refine G_goto (pc := 289) 2562 dL_law_289 (by decide) ?_
    refine G_perm (lv' := zLv X9 b i) [2, 3, 4, 5, 6, 7] rfl ?_
    exact G_more (by omega) (by omega) (kk P2 T2 _ _ X9 hJ2 hj3 hk2)
  refine G_if_ne (pc := 274) 289 dL_law_274 (by decide) ⟨by omega, by omega⟩ (fun _ => hfin ad2 rfl) (fun e0 => ?_)
  refine G_aload_n (pc := 277) 3 6 dL_law_277 rfl rfl ?_
  refine G_iconst (pc := 278) dL_law_278 ?_
  refine G_lald (pc := 279) dL_law_279 zXl_82 ?_
  refine G_iload (pc := 280) 0 dL_law_280 rfl ?_
  refine G_i2l (pc := 282) dL_law_282 hb' ?_
  rw [ew e0]
  refine G_lcmpE (pc := 283) dL_law_283 ?_
  refine G_if_eq (pc := 284) 289 dL_law_284 (by decide) zR_0 (fun _ => ?_) (fun q => absurd rfl q)
  have h9 := hfin ad2 rfl
  rw [ew e0] at h9
  exact h9
set_option maxHeartbeats 1000000 in
set_option maxRecDepth 100000 in
theorem w_1 {Γ : zCx} {b L : Nat} {xs : Nat → Int32} {P : zP} {T : zS} {i j : Int} {w : Int64} {wd : UInt64} {ad : zK → Nat} {nc ns : Nat} (hst : (z_l Γ).stackTraces = false) (hNc : zNc (z_s Γ)) (hX : zSc Γ b L xs) (hi : 0 ≤ i ∧ i + 6 ≤ L ∧ L ≤ 3072) (hc : nc + 700 ≤ 601024 ∧ ns + 7300 ≤ 7293034) {p1 : Int} (hp1 : zR p1) (hx1 : xs (i + 1).toNat = zI p1) {p2 : Int} (hp2 : zR p2) (hx2 : xs (i + 2).toNat = zI p2) {p3 : Int} (hp3 : zR p3) (hx3 : xs (i + 3).toNat = zI p3) {p4 : Int} (hp4 : zR p4) (hx4 : xs (i + 4).toNat = zI p4) {p5 : Int} (hp5 : zR p5) (hx5 : xs (i + 5).toNat = zI p5) (hJ : xJ P T T) (hj : T (0, 0, 0, 0) 4 ≤ j) (hj2 : j ≤ 512) (kk : zKn Γ b i j nc ns ad) : G Γ zRL cL_law 9 RL ad (mm (z_d Γ) ad P T (zXl (z_d Γ) w wd)) nc ns 292 (zLv ad b i) [] := by
  show G Γ zRL cL_law 9 RL ad (mm (z_d Γ) ad P T (zXl (z_d Γ) w wd)) nc ns 292 [(5, .int (zI i)), (0, .ref b), (1, .ref (ad (0, 0, 0, 0))), (2, .ref (ad (40, 0, 0, 0))), (3, .ref (ad (82, 0, 0, 0))), (4, .ref (ad (83, 0, 0, 0)))] []
  refine G_aload_n (pc := 292) 1 2 dL_law_292 rfl rfl ?_
  refine G_aload_n (pc := 293) 0 1 dL_law_293 rfl rfl ?_
  refine G_iload (pc := 294) 0 dL_law_294 rfl ?_
  refine G_iconst (pc := 296) dL_law_296 ?_
  refine G_iadd (pc := 297) dL_law_297 ?_
  refine G_sld (pc := 298) (v := p1) hX dL_law_298 ⟨by omega, by omega, by omega, by omega⟩ hx1 ?_
  refine G_aload_n (pc := 299) 0 1 dL_law_299 rfl rfl ?_
  refine G_iload (pc := 300) 0 dL_law_300 rfl ?_
  refine G_iconst (pc := 302) dL_law_302 ?_
  refine G_iadd (pc := 303) dL_law_303 ?_
  refine G_sld (pc := 304) (v := p2) hX dL_law_304 ⟨by omega, by omega, by omega, by omega⟩ hx2 ?_
  refine G_aload_n (pc := 305) 0 1 dL_law_305 rfl rfl ?_
  refine G_iload (pc := 306) 0 dL_law_306 rfl ?_
  refine G_iconst (pc := 308) dL_law_308 ?_
  refine G_iadd (pc := 309) dL_law_309 ?_
  refine G_sld (pc := 310) (v := p3) hX dL_law_310 ⟨by omega, by omega, by omega, by omega⟩ hx3 ?_
  refine G_aload_n (pc := 311) 0 1 dL_law_311 rfl rfl ?_
  refine G_iload (pc := 312) 0 dL_law_312 rfl ?_
  refine G_iconst (pc := 314) dL_law_314 ?_
  refine G_iadd (pc := 315) dL_law_315 ?_
  refine G_sld (pc := 316) (v := p4) hX dL_law_316 ⟨by omega, by omega, by omega, by omega⟩ hx4 ?_
  refine G_aload_n (pc := 317) 0 1 dL_law_317 rfl rfl ?_
  refine G_iload (pc := 318) 0 dL_law_318 rfl ?_
  refine G_iconst (pc := 320) dL_law_320 ?_
  refine G_iadd (pc := 321) dL_law_321 ?_
  refine G_sld (pc := 322) (v := p5) hX dL_law_322 ⟨by omega, by omega, by omega, by omega⟩ hx5 ?_
  refine G_aload_n (pc := 323) 3 4 dL_law_323 rfl rfl ?_
  obtain ⟨d1, mc1, ms1, hr1, hm1⟩ := s_send (l := z_l Γ) (Δ := z_d Γ) (t := p1) (x := p2) (n := p3) (k := p4) (v := p5) hst hp1 hp2 hp3 hp4 hp5 P T j w wd ad hJ hj hj2
  have hr1' : d1 ≤ 11 ∧ mc1 ≤ 50 ∧ ms1 ≤ 1300 := hr1
  refine G_callH (pc := 324) hNc hk_send dL_law_324 hm1 rfl rfl (Nat.le_of_ble_eq_true rfl) ⟨⟨by show d1 + 1 ≤ 12; omega, by show 8 + (8 + 11) + 38 * d1 ≤ 462; omega⟩, by show nc + mc1 ≤ 601024; omega, by show ns + ms1 ≤ 7293034; omega⟩ (fun v1 ad1 M1 hpo => ?_)
  obtain ⟨k, P1, T1, w1, rfl, hk, rfl, ⟨a0, a40, a82, a83⟩, d2, mc2, ms2, hr2, hm2⟩ := hpo
  have hr2' : d2 ≤ 11 ∧ mc2 ≤ 650 ∧ ms2 ≤ 6000 := hr2
  rw [← a0, ← a40, ← a82, ← a83]
  refine G_istore (pc := 327) [(6, .int (zI k)), (5, .int (zI i)), (0, .ref b), (1, .ref (ad1 (0, 0, 0, 0))), (2, .ref (ad1 (40, 0, 0, 0))), (3, .ref (ad1 (82, 0, 0, 0))), (4, .ref (ad1 (83, 0, 0, 0)))] dL_law_327 (by decide) rfl ?_
  refine G_aload_n (pc := 329) 2 4 dL_law_329 rfl rfl ?_
  refine G_aload_n (pc := 330) 0 2 dL_law_330 rfl rfl ?_
  refine G_iload (pc := 331) 1 dL_law_331 rfl ?_
  refine G_iconst (pc := 333) dL_law_333 ?_
  refine G_iadd (pc := 334) dL_law_334 ?_
  refine G_sld (pc := 335) (v := p1) hX dL_law_335 ⟨by omega, by omega, by omega, by omega⟩ hx1 ?_
  refine G_aload_n (pc := 336) 0 2 dL_law_336 rfl rfl ?_
  refine G_iload (pc := 337) 1 dL_law_337 rfl ?_
  refine G_iconst (pc := 339) dL_law_339 ?_
  refine G_iadd (pc := 340) dL_law_340 ?_
  refine G_sld (pc := 341) (v := p2) hX dL_law_341 ⟨by omega, by omega, by omega, by omega⟩ hx2 ?_
  refine G_aload_n (pc := 342) 0 2 dL_law_342 rfl rfl ?_
  refine G_iload (pc := 343) 1 dL_law_343 rfl ?_
  refine G_iconst (pc := 345) dL_law_345 ?_
  refine G_iadd (pc := 346) dL_law_346 ?_
  refine G_sld (pc := 347) (v := p3) hX dL_law_347 ⟨by omega, by omega, by omega, by omega⟩ hx3 ?_
  refine G_aload_n (pc := 348) 0 2 dL_law_348 rfl rfl ?_
  refine G_iload (pc := 349) 1 dL_law_349 rfl ?_
  refine G_iconst (pc := 351) dL_law_351 ?_
  refine G_iadd (pc := 352) dL_law_352 ?_
  refine G_sld (pc := 353) (v := p4) hX dL_law_353 ⟨by omega, by omega, by omega, by omega⟩ hx4 ?_
  refine G_aload_n (pc := 354) 0 2 dL_law_354 rfl rfl ?_
  refine G_iload (pc := 355) 1 dL_law_355 rfl ?_
  refine G_iconst (pc := 357) dL_law_357 ?_
  refine G_iadd (pc := 358) dL_law_358 ?_
  refine G_sld (pc := 359) (v := p5) hX dL_law_359 ⟨by omega, by omega, by omega, by omega⟩ hx5 ?_
  refine G_callV (pc := 360) gk_L_136 dL_law_360 mg_40 rfl hm2 rfl rfl (Nat.le_of_ble_eq_true rfl) ⟨⟨by show d2 + 1 ≤ 12; omega, by show 8 + (9 + 11) + 38 * d2 ≤ 462; omega⟩, by show nc + mc1 + mc2 ≤ 601024; omega, by show ns + ms1 + ms2 ≤ 7293034; omega⟩ (fun v2 ad2 M2 hpo => ?_)
  obtain ⟨b', P2, T2, rfl, hb', rfl, ⟨c0, c40, c82, c83⟩, ek, ew, hJ2, hj3⟩ := hpo
  rw [← c0, ← c40, ← c82, ← c83]
  have hk2 : zKp ad ad2 := ⟨c0.trans a0, c40.trans a40, c82.trans a82, c83.trans a83⟩
  refine G_istore (pc := 363) [(7, .int (zI b')), (6, .int (zI k)), (5, .int (zI i)), (0, .ref b), (1, .ref (ad2 (0, 0, 0, 0))), (2, .ref (ad2 (40, 0, 0, 0))), (3, .ref (ad2 (82, 0, 0, 0))), (4, .ref (ad2 (83, 0, 0, 0)))] dL_law_363 (by decide) rfl ?_
  refine G_aload_n (pc := 365) 2 5 dL_law_365 rfl rfl ?_
  refine G_callVd (pc := 366) gk_L_129 dL_law_366 mg_40 rfl (c_X7_thrown (Q := P2) hJ2.2.2.2.2.2.1) rfl rfl (Nat.le_of_ble_eq_true rfl) ⟨⟨Nat.le_of_ble_eq_true rfl, Nat.le_of_ble_eq_true rfl⟩, by show nc + mc1 + mc2 + 0 ≤ 601024; omega, by show ns + ms1 + ms2 + 0 ≤ 7293034; omega⟩ ?_
  rw [ek]
  refine G_iload (pc := 369) 1 dL_law_369 rfl ?_
  refine G_icmp_eq (pc := 371) 376 dL_law_371 (by decide) ⟨by omega, by omega⟩ ⟨by omega, by omega⟩ (fun _ => ?_) (fun q => absurd rfl q)
  refine G_iload (pc := 376) 1 dL_law_376 rfl ?_
  have hfin : ∀ X9 : zK → Nat, X9 = ad2 → G Γ zRL cL_law 9 RL X9 (mm (z_d Γ) X9 P2 T2 (zXl (z_d Γ) w1 wd)) (nc + mc1 + mc2) (ns + ms1 + ms2) 393 [(7, .int (zI b')), (6, .int (zI k)), (5, .int (zI i)), (0, .ref b), (1, .ref (X9 (0, 0, 0, 0))), (2, .ref (X9 (40, 0, 0, 0))), (3, .ref (X9 (82, 0, 0, 0))), (4, .ref (X9 (83, 0, 0, 0)))] [] := by
    intro X9 e9
    subst e9
    refine G_goto (pc := 393) 2562 dL_law_393 (by decide) ?_
    refine G_perm (lv' := zLv X9 b i) [2, 3, 4, 5, 6, 7] rfl ?_
    exact G_more (by omega) (by omega) (kk P2 T2 _ _ X9 hJ2 hj3 hk2)
  refine G_if_ne (pc := 378) 393 dL_law_378 (by decide) ⟨by omega, by omega⟩ (fun _ => hfin ad2 rfl) (fun e0 => ?_)
  refine G_aload_n (pc := 381) 3 6 dL_law_381 rfl rfl ?_
  refine G_iconst (pc := 382) dL_law_382 ?_
  refine G_lald (pc := 383) dL_law_383 zXl_82 ?_
  refine G_iload (pc := 384) 0 dL_law_384 rfl ?_
  refine G_i2l (pc := 386) dL_law_386 hb' ?_
  rw [ew e0]
  refine G_lcmpE (pc := 387) dL_law_387 ?_
  refine G_if_eq (pc := 388) 393 dL_law_388 (by decide) zR_0 (fun _ => ?_) (fun q => absurd rfl q)
  have h9 := hfin ad2 rfl
  rw [ew e0] at h9
  exact h9
set_option maxHeartbeats 1000000 in
set_option maxRecDepth 100000 in
theorem w_2 {Γ : zCx} {b L : Nat} {xs : Nat → Int32} {P : zP} {T : zS} {i j : Int} {w : Int64} {wd : UInt64} {ad : zK → Nat} {nc ns : Nat} (hst : (z_l Γ).stackTraces = false) (hNc : zNc (z_s Γ)) (hX : zSc Γ b L xs) (hi : 0 ≤ i ∧ i + 6 ≤ L ∧ L ≤ 3072) (hc : nc + 700 ≤ 601024 ∧ ns + 7300 ≤ 7293034) {p1 : Int} (hp1 : zR p1) (hx1 : xs (i + 1).toNat = zI p1) (hJ : xJ P T T) (hj : T (0, 0, 0, 0) 4 ≤ j) (hj2 : j ≤ 512) (kk : zKn Γ b i j nc ns ad) : G Γ zRL cL_law 9 RL ad (mm (z_d Γ) ad P T (zXl (z_d Γ) w wd)) nc ns 396 (zLv ad b i) [] := by
  show G Γ zRL cL_law 9 RL ad (mm (z_d Γ) ad P T (zXl (z_d Γ) w wd)) nc ns 396 [(5, .int (zI i)), (0, .ref b), (1, .ref (ad (0, 0, 0, 0))), (2, .ref (ad (40, 0, 0, 0))), (3, .ref (ad (82, 0, 0, 0))), (4, .ref (ad (83, 0, 0, 0)))] []
  refine G_aload_n (pc := 396) 1 2 dL_law_396 rfl rfl ?_
  refine G_aload_n (pc := 397) 0 1 dL_law_397 rfl rfl ?_
  refine G_iload (pc := 398) 0 dL_law_398 rfl ?_
  refine G_iconst (pc := 400) dL_law_400 ?_
  refine G_iadd (pc := 401) dL_law_401 ?_
  refine G_sld (pc := 402) (v := p1) hX dL_law_402 ⟨by omega, by omega, by omega, by omega⟩ hx1 ?_
  refine G_aload_n (pc := 403) 3 4 dL_law_403 rfl rfl ?_
  obtain ⟨d1, mc1, ms1, hr1, hm1⟩ := s_begin (l := z_l Γ) (Δ := z_d Γ) (x := p1) hst hp1 P T j w wd ad hJ hj hj2
  have hr1' : d1 ≤ 11 ∧ mc1 ≤ 50 ∧ ms1 ≤ 1300 := hr1
  refine G_callH (pc := 404) hNc hk_begin dL_law_404 hm1 rfl rfl (Nat.le_of_ble_eq_true rfl) ⟨⟨by show d1 + 1 ≤ 12; omega, by show 8 + (4 + 11) + 38 * d1 ≤ 462; omega⟩, by show nc + mc1 ≤ 601024; omega, by show ns + ms1 ≤ 7293034; omega⟩ (fun v1 ad1 M1 hpo => ?_)
  obtain ⟨k, P1, T1, w1, rfl, hk, rfl, ⟨a0, a40, a82, a83⟩, d2, mc2, ms2, hr2, hm2⟩ := hpo
  have hr2' : d2 ≤ 11 ∧ mc2 ≤ 650 ∧ ms2 ≤ 6000 := hr2
  rw [← a0, ← a40, ← a82, ← a83]
  refine G_istore (pc := 407) [(6, .int (zI k)), (5, .int (zI i)), (0, .ref b), (1, .ref (ad1 (0, 0, 0, 0))), (2, .ref (ad1 (40, 0, 0, 0))), (3, .ref (ad1 (82, 0, 0, 0))), (4, .ref (ad1 (83, 0, 0, 0)))] dL_law_407 (by decide) rfl ?_
  refine G_aload_n (pc := 409) 2 4 dL_law_409 rfl rfl ?_
  refine G_aload_n (pc := 410) 0 2 dL_law_410 rfl rfl ?_
  refine G_iload (pc := 411) 1 dL_law_411 rfl ?_
  refine G_iconst (pc := 413) dL_law_413 ?_
  refine G_iadd (pc := 414) dL_law_414 ?_
  refine G_sld (pc := 415) (v := p1) hX dL_law_415 ⟨by omega, by omega, by omega, by omega⟩ hx1 ?_
  refine G_callV (pc := 416) gk_L_140 dL_law_416 mg_40 rfl hm2 rfl rfl (Nat.le_of_ble_eq_true rfl) ⟨⟨by show d2 + 1 ≤ 12; omega, by show 8 + (3 + 11) + 38 * d2 ≤ 462; omega⟩, by show nc + mc1 + mc2 ≤ 601024; omega, by show ns + ms1 + ms2 ≤ 7293034; omega⟩ (fun v2 ad2 M2 hpo => ?_)
  obtain ⟨b', P2, T2, rfl, hb', rfl, ⟨c0, c40, c82, c83⟩, ek, ew, hJ2, hj3⟩ := hpo
  rw [← c0, ← c40, ← c82, ← c83]
  have hk2 : zKp ad ad2 := ⟨c0.trans a0, c40.trans a40, c82.trans a82, c83.trans a83⟩
  refine G_istore (pc := 419) [(7, .int (zI b')), (6, .int (zI k)), (5, .int (zI i)), (0, .ref b), (1, .ref (ad2 (0, 0, 0, 0))), (2, .ref (ad2 (40, 0, 0, 0))), (3, .ref (ad2 (82, 0, 0, 0))), (4, .ref (ad2 (83, 0, 0, 0)))] dL_law_419 (by decide) rfl ?_
  refine G_aload_n (pc := 421) 2 5 dL_law_421 rfl rfl ?_
  refine G_callVd (pc := 422) gk_L_129 dL_law_422 mg_40 rfl (c_X7_thrown (Q := P2) hJ2.2.2.2.2.2.1) rfl rfl (Nat.le_of_ble_eq_true rfl) ⟨⟨Nat.le_of_ble_eq_true rfl, Nat.le_of_ble_eq_true rfl⟩, by show nc + mc1 + mc2 + 0 ≤ 601024; omega, by show ns + ms1 + ms2 + 0 ≤ 7293034; omega⟩ ?_
  rw [ek]
  refine G_iload (pc := 425) 1 dL_law_425 rfl ?_
  refine G_icmp_eq (pc := 427) 432 dL_law_427 (by decide) ⟨by omega, by omega⟩ ⟨by omega, by omega⟩ (fun _ => ?_) (fun q => absurd rfl q)
  refine G_iload (pc := 432) 1 dL_law_432 rfl ?_
  have hfin : ∀ X9 : zK → Nat, X9 = ad2 → G Γ zRL cL_law 9 RL X9 (mm (z_d Γ) X9 P2 T2 (zXl (z_d Γ) w1 wd)) (nc + mc1 + mc2) (ns + ms1 + ms2) 449 [(7, .int (zI b')), (6, .int (zI k)), (5, .int (zI i)), (0, .ref b), (1, .ref (X9 (0, 0, 0, 0))), (2, .ref (X9 (40, 0, 0, 0))), (3, .ref (X9 (82, 0, 0, 0))), (4, .ref (X9 (83, 0, 0, 0)))] [] := by
    intro X9 e9
    subst e9
    refine G_goto (pc := 449) 2562 dL_law_449 (by decide) ?_
    refine G_perm (lv' := zLv X9 b i) [2, 3, 4, 5, 6, 7] rfl ?_
    exact G_more (by omega) (by omega) (kk P2 T2 _ _ X9 hJ2 hj3 hk2)
  refine G_if_ne (pc := 434) 449 dL_law_434 (by decide) ⟨by omega, by omega⟩ (fun _ => hfin ad2 rfl) (fun e0 => ?_)
  refine G_aload_n (pc := 437) 3 6 dL_law_437 rfl rfl ?_
  refine G_iconst (pc := 438) dL_law_438 ?_
  refine G_lald (pc := 439) dL_law_439 zXl_82 ?_
  refine G_iload (pc := 440) 0 dL_law_440 rfl ?_
  refine G_i2l (pc := 442) dL_law_442 hb' ?_
  rw [ew e0]
  refine G_lcmpE (pc := 443) dL_law_443 ?_
  refine G_if_eq (pc := 444) 449 dL_law_444 (by decide) zR_0 (fun _ => ?_) (fun q => absurd rfl q)
  have h9 := hfin ad2 rfl
  rw [ew e0] at h9
  exact h9
set_option maxHeartbeats 1000000 in
set_option maxRecDepth 100000 in
theorem w_3 {Γ : zCx} {b L : Nat} {xs : Nat → Int32} {P : zP} {T : zS} {i j : Int} {w : Int64} {wd : UInt64} {ad : zK → Nat} {nc ns : Nat} (hst : (z_l Γ).stackTraces = false) (hNc : zNc (z_s Γ)) (hX : zSc Γ b L xs) (hi : 0 ≤ i ∧ i + 6 ≤ L ∧ L ≤ 3072) (hc : nc + 700 ≤ 601024 ∧ ns + 7300 ≤ 7293034) {p1 : Int} (hp1 : zR p1) (hx1 : xs (i + 1).toNat = zI p1) {p2 : Int} (hp2 : zR p2) (hx2 : xs (i + 2).toNat = zI p2) (hJ : xJ P T T) (hj : T (0, 0, 0, 0) 4 ≤ j) (hj2 : j ≤ 512) (kk : zKn Γ b i j nc ns ad) : G Γ zRL cL_law 9 RL ad (mm (z_d Γ) ad P T (zXl (z_d Γ) w wd)) nc ns 452 (zLv ad b i) [] := by
  show G Γ zRL cL_law 9 RL ad (mm (z_d Γ) ad P T (zXl (z_d Γ) w wd)) nc ns 452 [(5, .int (zI i)), (0, .ref b), (1, .ref (ad (0, 0, 0, 0))), (2, .ref (ad (40, 0, 0, 0))), (3, .ref (ad (82, 0, 0, 0))), (4, .ref (ad (83, 0, 0, 0)))] []
  refine G_aload_n (pc := 452) 1 2 dL_law_452 rfl rfl ?_
  refine G_aload_n (pc := 453) 0 1 dL_law_453 rfl rfl ?_
  refine G_iload (pc := 454) 0 dL_law_454 rfl ?_
  refine G_iconst (pc := 456) dL_law_456 ?_
  refine G_iadd (pc := 457) dL_law_457 ?_
  refine G_sld (pc := 458) (v := p1) hX dL_law_458 ⟨by omega, by omega, by omega, by omega⟩ hx1 ?_
  refine G_aload_n (pc := 459) 0 1 dL_law_459 rfl rfl ?_
  refine G_iload (pc := 460) 0 dL_law_460 rfl ?_
  refine G_iconst (pc := 462) dL_law_462 ?_
  refine G_iadd (pc := 463) dL_law_463 ?_
  refine G_sld (pc := 464) (v := p2) hX dL_law_464 ⟨by omega, by omega, by omega, by omega⟩ hx2 ?_
  refine G_nz (pc := 465) dL_law_465 dL_law_468 dL_law_469 dL_law_472 hp2 ?_
  refine G_aload_n (pc := 473) 3 4 dL_law_473 rfl rfl ?_
  obtain ⟨d1, mc1, ms1, hr1, hm1⟩ := s_end (l := z_l Γ) (Δ := z_d Γ) (x := p1) (b := (if p2 = 0 then 0 else 1)) hst hp1 (by by_cases q : p2 = 0 <;> simp [q]) P T j w wd ad hJ hj hj2
  have hr1' : d1 ≤ 11 ∧ mc1 ≤ 50 ∧ ms1 ≤ 1300 := hr1
  refine G_callH (pc := 474) hNc hk_end dL_law_474 hm1 rfl rfl (Nat.le_of_ble_eq_true rfl) ⟨⟨by show d1 + 1 ≤ 12; omega, by show 8 + (5 + 11) + 38 * d1 ≤ 462; omega⟩, by show nc + mc1 ≤ 601024; omega, by show ns + ms1 ≤ 7293034; omega⟩ (fun v1 ad1 M1 hpo => ?_)
  obtain ⟨k, P1, T1, w1, rfl, hk, rfl, ⟨a0, a40, a82, a83⟩, d2, mc2, ms2, hr2, hm2⟩ := hpo
  have hr2' : d2 ≤ 11 ∧ mc2 ≤ 650 ∧ ms2 ≤ 6000 := hr2
  rw [← a0, ← a40, ← a82, ← a83]
  refine G_istore (pc := 477) [(6, .int (zI k)), (5, .int (zI i)), (0, .ref b), (1, .ref (ad1 (0, 0, 0, 0))), (2, .ref (ad1 (40, 0, 0, 0))), (3, .ref (ad1 (82, 0, 0, 0))), (4, .ref (ad1 (83, 0, 0, 0)))] dL_law_477 (by decide) rfl ?_
  refine G_aload_n (pc := 479) 2 4 dL_law_479 rfl rfl ?_
  refine G_aload_n (pc := 480) 0 2 dL_law_480 rfl rfl ?_
  refine G_iload (pc := 481) 1 dL_law_481 rfl ?_
  refine G_iconst (pc := 483) dL_law_483 ?_
  refine G_iadd (pc := 484) dL_law_484 ?_
  refine G_sld (pc := 485) (v := p1) hX dL_law_485 ⟨by omega, by omega, by omega, by omega⟩ hx1 ?_
  refine G_aload_n (pc := 486) 0 2 dL_law_486 rfl rfl ?_
  refine G_iload (pc := 487) 1 dL_law_487 rfl ?_
  refine G_iconst (pc := 489) dL_law_489 ?_
  refine G_iadd (pc := 490) dL_law_490 ?_
  refine G_sld (pc := 491) (v := p2) hX dL_law_491 ⟨by omega, by omega, by omega, by omega⟩ hx2 ?_
  refine G_nz (pc := 492) dL_law_492 dL_law_495 dL_law_496 dL_law_499 hp2 ?_
  refine G_callV (pc := 500) gk_L_143 dL_law_500 mg_40 rfl hm2 rfl rfl (Nat.le_of_ble_eq_true rfl) ⟨⟨by show d2 + 1 ≤ 12; omega, by show 8 + (6 + 11) + 38 * d2 ≤ 462; omega⟩, by show nc + mc1 + mc2 ≤ 601024; omega, by show ns + ms1 + ms2 ≤ 7293034; omega⟩ (fun v2 ad2 M2 hpo => ?_)
  obtain ⟨b', P2, T2, rfl, hb', rfl, ⟨c0, c40, c82, c83⟩, ek, ew, hJ2, hj3⟩ := hpo
  rw [← c0, ← c40, ← c82, ← c83]
  have hk2 : zKp ad ad2 := ⟨c0.trans a0, c40.trans a40, c82.trans a82, c83.trans a83⟩
  refine G_istore (pc := 503) [(7, .int (zI b')), (6, .int (zI k)), (5, .int (zI i)), (0, .ref b), (1, .ref (ad2 (0, 0, 0, 0))), (2, .ref (ad2 (40, 0, 0, 0))), (3, .ref (ad2 (82, 0, 0, 0))), (4, .ref (ad2 (83, 0, 0, 0)))] dL_law_503 (by decide) rfl ?_
  refine G_aload_n (pc := 505) 2 5 dL_law_505 rfl rfl ?_
  refine G_callVd (pc := 506) gk_L_129 dL_law_506 mg_40 rfl (c_X7_thrown (Q := P2) hJ2.2.2.2.2.2.1) rfl rfl (Nat.le_of_ble_eq_true rfl) ⟨⟨Nat.le_of_ble_eq_true rfl, Nat.le_of_ble_eq_true rfl⟩, by show nc + mc1 + mc2 + 0 ≤ 601024; omega, by show ns + ms1 + ms2 + 0 ≤ 7293034; omega⟩ ?_
  rw [ek]
  refine G_iload (pc := 509) 1 dL_law_509 rfl ?_
  refine G_icmp_eq (pc := 511) 516 dL_law_511 (by decide) ⟨by omega, by omega⟩ ⟨by omega, by omega⟩ (fun _ => ?_) (fun q => absurd rfl q)
  refine G_iload (pc := 516) 1 dL_law_516 rfl ?_
  have hfin : ∀ X9 : zK → Nat, X9 = ad2 → G Γ zRL cL_law 9 RL X9 (mm (z_d Γ) X9 P2 T2 (zXl (z_d Γ) w1 wd)) (nc + mc1 + mc2) (ns + ms1 + ms2) 533 [(7, .int (zI b')), (6, .int (zI k)), (5, .int (zI i)), (0, .ref b), (1, .ref (X9 (0, 0, 0, 0))), (2, .ref (X9 (40, 0, 0, 0))), (3, .ref (X9 (82, 0, 0, 0))), (4, .ref (X9 (83, 0, 0, 0)))] [] := by
    intro X9 e9
    subst e9
    refine G_goto (pc := 533) 2562 dL_law_533 (by decide) ?_
    refine G_perm (lv' := zLv X9 b i) [2, 3, 4, 5, 6, 7] rfl ?_
    exact G_more (by omega) (by omega) (kk P2 T2 _ _ X9 hJ2 hj3 hk2)
  refine G_if_ne (pc := 518) 533 dL_law_518 (by decide) ⟨by omega, by omega⟩ (fun _ => hfin ad2 rfl) (fun e0 => ?_)
  refine G_aload_n (pc := 521) 3 6 dL_law_521 rfl rfl ?_
  refine G_iconst (pc := 522) dL_law_522 ?_
  refine G_lald (pc := 523) dL_law_523 zXl_82 ?_
  refine G_iload (pc := 524) 0 dL_law_524 rfl ?_
  refine G_i2l (pc := 526) dL_law_526 hb' ?_
  rw [ew e0]
  refine G_lcmpE (pc := 527) dL_law_527 ?_
  refine G_if_eq (pc := 528) 533 dL_law_528 (by decide) zR_0 (fun _ => ?_) (fun q => absurd rfl q)
  have h9 := hfin ad2 rfl
  rw [ew e0] at h9
  exact h9
set_option maxHeartbeats 1000000 in
set_option maxRecDepth 100000 in
theorem w_4 {Γ : zCx} {b L : Nat} {xs : Nat → Int32} {P : zP} {T : zS} {i j : Int} {w : Int64} {wd : UInt64} {ad : zK → Nat} {nc ns : Nat} (hst : (z_l Γ).stackTraces = false) (hNc : zNc (z_s Γ)) (hX : zSc Γ b L xs) (hi : 0 ≤ i ∧ i + 6 ≤ L ∧ L ≤ 3072) (hc : nc + 700 ≤ 601024 ∧ ns + 7300 ≤ 7293034) {p1 : Int} (hp1 : zR p1) (hx1 : xs (i + 1).toNat = zI p1) {p2 : Int} (hp2 : zR p2) (hx2 : xs (i + 2).toNat = zI p2) (hJ : xJ P T T) (hj : T (0, 0, 0, 0) 4 ≤ j) (hj2 : j ≤ 512) (kk : zKn Γ b i j nc ns ad) : G Γ zRL cL_law 9 RL ad (mm (z_d Γ) ad P T (zXl (z_d Γ) w wd)) nc ns 536 (zLv ad b i) [] := by
  show G Γ zRL cL_law 9 RL ad (mm (z_d Γ) ad P T (zXl (z_d Γ) w wd)) nc ns 536 [(5, .int (zI i)), (0, .ref b), (1, .ref (ad (0, 0, 0, 0))), (2, .ref (ad (40, 0, 0, 0))), (3, .ref (ad (82, 0, 0, 0))), (4, .ref (ad (83, 0, 0, 0)))] []
  refine G_aload_n (pc := 536) 1 2 dL_law_536 rfl rfl ?_
  refine G_aload_n (pc := 537) 0 1 dL_law_537 rfl rfl ?_
  refine G_iload (pc := 538) 0 dL_law_538 rfl ?_
  refine G_iconst (pc := 540) dL_law_540 ?_
  refine G_iadd (pc := 541) dL_law_541 ?_
  refine G_sld (pc := 542) (v := p1) hX dL_law_542 ⟨by omega, by omega, by omega, by omega⟩ hx1 ?_
  refine G_aload_n (pc := 543) 0 1 dL_law_543 rfl rfl ?_
  refine G_iload (pc := 544) 0 dL_law_544 rfl ?_
  refine G_iconst (pc := 546) dL_law_546 ?_
  refine G_iadd (pc := 547) dL_law_547 ?_
  refine G_sld (pc := 548) (v := p2) hX dL_law_548 ⟨by omega, by omega, by omega, by omega⟩ hx2 ?_
  refine G_aload_n (pc := 549) 3 4 dL_law_549 rfl rfl ?_
  obtain ⟨d1, mc1, ms1, hr1, hm1⟩ := s_setKeep (l := z_l Γ) (Δ := z_d Γ) (t := p1) (k := p2) hst hp1 hp2 P T j w wd ad hJ hj hj2
  have hr1' : d1 ≤ 11 ∧ mc1 ≤ 50 ∧ ms1 ≤ 1300 := hr1
  refine G_callH (pc := 550) hNc hk_setKeep dL_law_550 hm1 rfl rfl (Nat.le_of_ble_eq_true rfl) ⟨⟨by show d1 + 1 ≤ 12; omega, by show 8 + (5 + 11) + 38 * d1 ≤ 462; omega⟩, by show nc + mc1 ≤ 601024; omega, by show ns + ms1 ≤ 7293034; omega⟩ (fun v1 ad1 M1 hpo => ?_)
  obtain ⟨k, P1, T1, w1, rfl, hk, rfl, ⟨a0, a40, a82, a83⟩, d2, mc2, ms2, hr2, hm2⟩ := hpo
  have hr2' : d2 ≤ 11 ∧ mc2 ≤ 650 ∧ ms2 ≤ 6000 := hr2
  rw [← a0, ← a40, ← a82, ← a83]
  refine G_istore (pc := 553) [(6, .int (zI k)), (5, .int (zI i)), (0, .ref b), (1, .ref (ad1 (0, 0, 0, 0))), (2, .ref (ad1 (40, 0, 0, 0))), (3, .ref (ad1 (82, 0, 0, 0))), (4, .ref (ad1 (83, 0, 0, 0)))] dL_law_553 (by decide) rfl ?_
  refine G_aload_n (pc := 555) 2 4 dL_law_555 rfl rfl ?_
  refine G_aload_n (pc := 556) 0 2 dL_law_556 rfl rfl ?_
  refine G_iload (pc := 557) 1 dL_law_557 rfl ?_
  refine G_iconst (pc := 559) dL_law_559 ?_
  refine G_iadd (pc := 560) dL_law_560 ?_
  refine G_sld (pc := 561) (v := p1) hX dL_law_561 ⟨by omega, by omega, by omega, by omega⟩ hx1 ?_
  refine G_aload_n (pc := 562) 0 2 dL_law_562 rfl rfl ?_
  refine G_iload (pc := 563) 1 dL_law_563 rfl ?_
  refine G_iconst (pc := 565) dL_law_565 ?_
  refine G_iadd (pc := 566) dL_law_566 ?_
  refine G_sld (pc := 567) (v := p2) hX dL_law_567 ⟨by omega, by omega, by omega, by omega⟩ hx2 ?_
  refine G_callV (pc := 568) gk_L_147 dL_law_568 mg_40 rfl hm2 rfl rfl (Nat.le_of_ble_eq_true rfl) ⟨⟨by show d2 + 1 ≤ 12; omega, by show 8 + (4 + 11) + 38 * d2 ≤ 462; omega⟩, by show nc + mc1 + mc2 ≤ 601024; omega, by show ns + ms1 + ms2 ≤ 7293034; omega⟩ (fun v2 ad2 M2 hpo => ?_)
  obtain ⟨b', P2, T2, rfl, hb', rfl, ⟨c0, c40, c82, c83⟩, ek, ew, hJ2, hj3⟩ := hpo
  rw [← c0, ← c40, ← c82, ← c83]
  have hk2 : zKp ad ad2 := ⟨c0.trans a0, c40.trans a40, c82.trans a82, c83.trans a83⟩
  refine G_istore (pc := 571) [(7, .int (zI b')), (6, .int (zI k)), (5, .int (zI i)), (0, .ref b), (1, .ref (ad2 (0, 0, 0, 0))), (2, .ref (ad2 (40, 0, 0, 0))), (3, .ref (ad2 (82, 0, 0, 0))), (4, .ref (ad2 (83, 0, 0, 0)))] dL_law_571 (by decide) rfl ?_
  refine G_aload_n (pc := 573) 2 5 dL_law_573 rfl rfl ?_
  refine G_callVd (pc := 574) gk_L_129 dL_law_574 mg_40 rfl (c_X7_thrown (Q := P2) hJ2.2.2.2.2.2.1) rfl rfl (Nat.le_of_ble_eq_true rfl) ⟨⟨Nat.le_of_ble_eq_true rfl, Nat.le_of_ble_eq_true rfl⟩, by show nc + mc1 + mc2 + 0 ≤ 601024; omega, by show ns + ms1 + ms2 + 0 ≤ 7293034; omega⟩ ?_
  rw [ek]
  refine G_iload (pc := 577) 1 dL_law_577 rfl ?_
  refine G_icmp_eq (pc := 579) 584 dL_law_579 (by decide) ⟨by omega, by omega⟩ ⟨by omega, by omega⟩ (fun _ => ?_) (fun q => absurd rfl q)
  refine G_iload (pc := 584) 1 dL_law_584 rfl ?_
  have hfin : ∀ X9 : zK → Nat, X9 = ad2 → G Γ zRL cL_law 9 RL X9 (mm (z_d Γ) X9 P2 T2 (zXl (z_d Γ) w1 wd)) (nc + mc1 + mc2) (ns + ms1 + ms2) 601 [(7, .int (zI b')), (6, .int (zI k)), (5, .int (zI i)), (0, .ref b), (1, .ref (X9 (0, 0, 0, 0))), (2, .ref (X9 (40, 0, 0, 0))), (3, .ref (X9 (82, 0, 0, 0))), (4, .ref (X9 (83, 0, 0, 0)))] [] := by
    intro X9 e9
    subst e9
    refine G_goto (pc := 601) 2562 dL_law_601 (by decide) ?_
    refine G_perm (lv' := zLv X9 b i) [2, 3, 4, 5, 6, 7] rfl ?_
    exact G_more (by omega) (by omega) (kk P2 T2 _ _ X9 hJ2 hj3 hk2)
  refine G_if_ne (pc := 586) 601 dL_law_586 (by decide) ⟨by omega, by omega⟩ (fun _ => hfin ad2 rfl) (fun e0 => ?_)
  refine G_aload_n (pc := 589) 3 6 dL_law_589 rfl rfl ?_
  refine G_iconst (pc := 590) dL_law_590 ?_
  refine G_lald (pc := 591) dL_law_591 zXl_82 ?_
  refine G_iload (pc := 592) 0 dL_law_592 rfl ?_
  refine G_i2l (pc := 594) dL_law_594 hb' ?_
  rw [ew e0]
  refine G_lcmpE (pc := 595) dL_law_595 ?_
  refine G_if_eq (pc := 596) 601 dL_law_596 (by decide) zR_0 (fun _ => ?_) (fun q => absurd rfl q)
  have h9 := hfin ad2 rfl
  rw [ew e0] at h9
  exact h9
set_option maxHeartbeats 1000000 in
set_option maxRecDepth 100000 in
theorem w_5 {Γ : zCx} {b L : Nat} {xs : Nat → Int32} {P : zP} {T : zS} {i j : Int} {w : Int64} {wd : UInt64} {ad : zK → Nat} {nc ns : Nat} (hst : (z_l Γ).stackTraces = false) (hNc : zNc (z_s Γ)) (hX : zSc Γ b L xs) (hi : 0 ≤ i ∧ i + 6 ≤ L ∧ L ≤ 3072) (hc : nc + 700 ≤ 601024 ∧ ns + 7300 ≤ 7293034) {p1 : Int} (hp1 : zR p1) (hx1 : xs (i + 1).toNat = zI p1) (hJ : xJ P T T) (hj : T (0, 0, 0, 0) 4 ≤ j) (hj2 : j ≤ 512) (kk : zKn Γ b i j nc ns ad) : G Γ zRL cL_law 9 RL ad (mm (z_d Γ) ad P T (zXl (z_d Γ) w wd)) nc ns 604 (zLv ad b i) [] := by
  show G Γ zRL cL_law 9 RL ad (mm (z_d Γ) ad P T (zXl (z_d Γ) w wd)) nc ns 604 [(5, .int (zI i)), (0, .ref b), (1, .ref (ad (0, 0, 0, 0))), (2, .ref (ad (40, 0, 0, 0))), (3, .ref (ad (82, 0, 0, 0))), (4, .ref (ad (83, 0, 0, 0)))] []
  refine G_aload_n (pc := 604) 1 2 dL_law_604 rfl rfl ?_
  refine G_aload_n (pc := 605) 0 1 dL_law_605 rfl rfl ?_
  refine G_iload (pc := 606) 0 dL_law_606 rfl ?_
  refine G_iconst (pc := 608) dL_law_608 ?_
  refine G_iadd (pc := 609) dL_law_609 ?_
  refine G_sld (pc := 610) (v := p1) hX dL_law_610 ⟨by omega, by omega, by omega, by omega⟩ hx1 ?_
  refine G_aload_n (pc := 611) 3 4 dL_law_611 rfl rfl ?_
  obtain ⟨d1, mc1, ms1, hr1, hm1⟩ := s_clean (l := z_l Γ) (Δ := z_d Γ) (t := p1) hst hp1 P T j w wd ad hJ hj hj2
  have hr1' : d1 ≤ 11 ∧ mc1 ≤ 50 ∧ ms1 ≤ 1300 := hr1
  refine G_callH (pc := 612) hNc hk_clean dL_law_612 hm1 rfl rfl (Nat.le_of_ble_eq_true rfl) ⟨⟨by show d1 + 1 ≤ 12; omega, by show 8 + (4 + 11) + 38 * d1 ≤ 462; omega⟩, by show nc + mc1 ≤ 601024; omega, by show ns + ms1 ≤ 7293034; omega⟩ (fun v1 ad1 M1 hpo => ?_)
  obtain ⟨k, P1, T1, w1, rfl, hk, rfl, ⟨a0, a40, a82, a83⟩, d2, mc2, ms2, hr2, hm2⟩ := hpo
  have hr2' : d2 ≤ 11 ∧ mc2 ≤ 650 ∧ ms2 ≤ 6000 := hr2
  rw [← a0, ← a40, ← a82, ← a83]
  refine G_istore (pc := 615) [(6, .int (zI k)), (5, .int (zI i)), (0, .ref b), (1, .ref (ad1 (0, 0, 0, 0))), (2, .ref (ad1 (40, 0, 0, 0))), (3, .ref (ad1 (82, 0, 0, 0))), (4, .ref (ad1 (83, 0, 0, 0)))] dL_law_615 (by decide) rfl ?_
  refine G_aload_n (pc := 617) 2 4 dL_law_617 rfl rfl ?_
  refine G_aload_n (pc := 618) 0 2 dL_law_618 rfl rfl ?_
  refine G_iload (pc := 619) 1 dL_law_619 rfl ?_
  refine G_iconst (pc := 621) dL_law_621 ?_
  refine G_iadd (pc := 622) dL_law_622 ?_
  refine G_sld (pc := 623) (v := p1) hX dL_law_623 ⟨by omega, by omega, by omega, by omega⟩ hx1 ?_
  refine G_callV (pc := 624) gk_L_150 dL_law_624 mg_40 rfl hm2 rfl rfl (Nat.le_of_ble_eq_true rfl) ⟨⟨by show d2 + 1 ≤ 12; omega, by show 8 + (3 + 11) + 38 * d2 ≤ 462; omega⟩, by show nc + mc1 + mc2 ≤ 601024; omega, by show ns + ms1 + ms2 ≤ 7293034; omega⟩ (fun v2 ad2 M2 hpo => ?_)
  obtain ⟨b', P2, T2, rfl, hb', rfl, ⟨c0, c40, c82, c83⟩, ek, ew, hJ2, hj3⟩ := hpo
  rw [← c0, ← c40, ← c82, ← c83]
  have hk2 : zKp ad ad2 := ⟨c0.trans a0, c40.trans a40, c82.trans a82, c83.trans a83⟩
  refine G_istore (pc := 627) [(7, .int (zI b')), (6, .int (zI k)), (5, .int (zI i)), (0, .ref b), (1, .ref (ad2 (0, 0, 0, 0))), (2, .ref (ad2 (40, 0, 0, 0))), (3, .ref (ad2 (82, 0, 0, 0))), (4, .ref (ad2 (83, 0, 0, 0)))] dL_law_627 (by decide) rfl ?_
  refine G_aload_n (pc := 629) 2 5 dL_law_629 rfl rfl ?_
  refine G_callVd (pc := 630) gk_L_129 dL_law_630 mg_40 rfl (c_X7_thrown (Q := P2) hJ2.2.2.2.2.2.1) rfl rfl (Nat.le_of_ble_eq_true rfl) ⟨⟨Nat.le_of_ble_eq_true rfl, Nat.le_of_ble_eq_true rfl⟩, by show nc + mc1 + mc2 + 0 ≤ 601024; omega, by show ns + ms1 + ms2 + 0 ≤ 7293034; omega⟩ ?_
  rw [ek]
  refine G_iload (pc := 633) 1 dL_law_633 rfl ?_
  refine G_icmp_eq (pc := 635) 640 dL_law_635 (by decide) ⟨by omega, by omega⟩ ⟨by omega, by omega⟩ (fun _ => ?_) (fun q => absurd rfl q)
  refine G_iload (pc := 640) 1 dL_law_640 rfl ?_
  have hfin : ∀ X9 : zK → Nat, X9 = ad2 → G Γ zRL cL_law 9 RL X9 (mm (z_d Γ) X9 P2 T2 (zXl (z_d Γ) w1 wd)) (nc + mc1 + mc2) (ns + ms1 + ms2) 657 [(7, .int (zI b')), (6, .int (zI k)), (5, .int (zI i)), (0, .ref b), (1, .ref (X9 (0, 0, 0, 0))), (2, .ref (X9 (40, 0, 0, 0))), (3, .ref (X9 (82, 0, 0, 0))), (4, .ref (X9 (83, 0, 0, 0)))] [] := by
    intro X9 e9
    subst e9
    refine G_goto (pc := 657) 2562 dL_law_657 (by decide) ?_
    refine G_perm (lv' := zLv X9 b i) [2, 3, 4, 5, 6, 7] rfl ?_
    exact G_more (by omega) (by omega) (kk P2 T2 _ _ X9 hJ2 hj3 hk2)
  refine G_if_ne (pc := 642) 657 dL_law_642 (by decide) ⟨by omega, by omega⟩ (fun _ => hfin ad2 rfl) (fun e0 => ?_)
  refine G_aload_n (pc := 645) 3 6 dL_law_645 rfl rfl ?_
  refine G_iconst (pc := 646) dL_law_646 ?_
  refine G_lald (pc := 647) dL_law_647 zXl_82 ?_
  refine G_iload (pc := 648) 0 dL_law_648 rfl ?_
  refine G_i2l (pc := 650) dL_law_650 hb' ?_
  rw [ew e0]
  refine G_lcmpE (pc := 651) dL_law_651 ?_
  refine G_if_eq (pc := 652) 657 dL_law_652 (by decide) zR_0 (fun _ => ?_) (fun q => absurd rfl q)
  have h9 := hfin ad2 rfl
  rw [ew e0] at h9
  exact h9
set_option maxHeartbeats 1000000 in
set_option maxRecDepth 100000 in
theorem w_6 {Γ : zCx} {b L : Nat} {xs : Nat → Int32} {P : zP} {T : zS} {i j : Int} {w : Int64} {wd : UInt64} {ad : zK → Nat} {nc ns : Nat} (hst : (z_l Γ).stackTraces = false) (hNc : zNc (z_s Γ)) (hX : zSc Γ b L xs) (hi : 0 ≤ i ∧ i + 6 ≤ L ∧ L ≤ 3072) (hc : nc + 700 ≤ 601024 ∧ ns + 7300 ≤ 7293034) {p1 : Int} (hp1 : zR p1) (hx1 : xs (i + 1).toNat = zI p1) (hJ : xJ P T T) (hj : T (0, 0, 0, 0) 4 ≤ j) (hj2 : j ≤ 512) (kk : zKn Γ b i j nc ns ad) : G Γ zRL cL_law 9 RL ad (mm (z_d Γ) ad P T (zXl (z_d Γ) w wd)) nc ns 660 (zLv ad b i) [] := by
  show G Γ zRL cL_law 9 RL ad (mm (z_d Γ) ad P T (zXl (z_d Γ) w wd)) nc ns 660 [(5, .int (zI i)), (0, .ref b), (1, .ref (ad (0, 0, 0, 0))), (2, .ref (ad (40, 0, 0, 0))), (3, .ref (ad (82, 0, 0, 0))), (4, .ref (ad (83, 0, 0, 0)))] []
  refine G_aload_n (pc := 660) 1 2 dL_law_660 rfl rfl ?_
  refine G_aload_n (pc := 661) 0 1 dL_law_661 rfl rfl ?_
  refine G_iload (pc := 662) 0 dL_law_662 rfl ?_
  refine G_iconst (pc := 664) dL_law_664 ?_
  refine G_iadd (pc := 665) dL_law_665 ?_
  refine G_sld (pc := 666) (v := p1) hX dL_law_666 ⟨by omega, by omega, by omega, by omega⟩ hx1 ?_
  refine G_aload_n (pc := 667) 3 4 dL_law_667 rfl rfl ?_
  obtain ⟨d1, mc1, ms1, hr1, hm1⟩ := s_setClock (l := z_l Γ) (Δ := z_d Γ) (x := p1) hst hp1 P T j w wd ad hJ hj hj2
  have hr1' : d1 ≤ 11 ∧ mc1 ≤ 50 ∧ ms1 ≤ 1300 := hr1
  refine G_callH (pc := 668) hNc hk_setClock dL_law_668 hm1 rfl rfl (Nat.le_of_ble_eq_true rfl) ⟨⟨by show d1 + 1 ≤ 12; omega, by show 8 + (4 + 11) + 38 * d1 ≤ 462; omega⟩, by show nc + mc1 ≤ 601024; omega, by show ns + ms1 ≤ 7293034; omega⟩ (fun v1 ad1 M1 hpo => ?_)
  obtain ⟨k, P1, T1, w1, rfl, hk, rfl, ⟨a0, a40, a82, a83⟩, d2, mc2, ms2, hr2, hm2⟩ := hpo
  have hr2' : d2 ≤ 11 ∧ mc2 ≤ 650 ∧ ms2 ≤ 6000 := hr2
  rw [← a0, ← a40, ← a82, ← a83]
  refine G_istore (pc := 671) [(6, .int (zI k)), (5, .int (zI i)), (0, .ref b), (1, .ref (ad1 (0, 0, 0, 0))), (2, .ref (ad1 (40, 0, 0, 0))), (3, .ref (ad1 (82, 0, 0, 0))), (4, .ref (ad1 (83, 0, 0, 0)))] dL_law_671 (by decide) rfl ?_
  refine G_aload_n (pc := 673) 2 4 dL_law_673 rfl rfl ?_
  refine G_aload_n (pc := 674) 0 2 dL_law_674 rfl rfl ?_
  refine G_iload (pc := 675) 1 dL_law_675 rfl ?_
  refine G_iconst (pc := 677) dL_law_677 ?_
  refine G_iadd (pc := 678) dL_law_678 ?_
  refine G_sld (pc := 679) (v := p1) hX dL_law_679 ⟨by omega, by omega, by omega, by omega⟩ hx1 ?_
  refine G_callV (pc := 680) gk_L_153 dL_law_680 mg_40 rfl hm2 rfl rfl (Nat.le_of_ble_eq_true rfl) ⟨⟨by show d2 + 1 ≤ 12; omega, by show 8 + (7 + 11) + 38 * d2 ≤ 462; omega⟩, by show nc + mc1 + mc2 ≤ 601024; omega, by show ns + ms1 + ms2 ≤ 7293034; omega⟩ (fun v2 ad2 M2 hpo => ?_)
  obtain ⟨b', P2, T2, rfl, hb', rfl, ⟨c0, c40, c82, c83⟩, ek, ew, hJ2, hj3⟩ := hpo
  rw [← c0, ← c40, ← c82, ← c83]
  have hk2 : zKp ad ad2 := ⟨c0.trans a0, c40.trans a40, c82.trans a82, c83.trans a83⟩
  refine G_istore (pc := 683) [(7, .int (zI b')), (6, .int (zI k)), (5, .int (zI i)), (0, .ref b), (1, .ref (ad2 (0, 0, 0, 0))), (2, .ref (ad2 (40, 0, 0, 0))), (3, .ref (ad2 (82, 0, 0, 0))), (4, .ref (ad2 (83, 0, 0, 0)))] dL_law_683 (by decide) rfl ?_
  refine G_aload_n (pc := 685) 2 5 dL_law_685 rfl rfl ?_
  refine G_callVd (pc := 686) gk_L_129 dL_law_686 mg_40 rfl (c_X7_thrown (Q := P2) hJ2.2.2.2.2.2.1) rfl rfl (Nat.le_of_ble_eq_true rfl) ⟨⟨Nat.le_of_ble_eq_true rfl, Nat.le_of_ble_eq_true rfl⟩, by show nc + mc1 + mc2 + 0 ≤ 601024; omega, by show ns + ms1 + ms2 + 0 ≤ 7293034; omega⟩ ?_
  rw [ek]
  refine G_iload (pc := 689) 1 dL_law_689 rfl ?_
  refine G_icmp_eq (pc := 691) 696 dL_law_691 (by decide) ⟨by omega, by omega⟩ ⟨by omega, by omega⟩ (fun _ => ?_) (fun q => absurd rfl q)
  refine G_iload (pc := 696) 1 dL_law_696 rfl ?_
  have hfin : ∀ X9 : zK → Nat, X9 = ad2 → G Γ zRL cL_law 9 RL X9 (mm (z_d Γ) X9 P2 T2 (zXl (z_d Γ) w1 wd)) (nc + mc1 + mc2) (ns + ms1 + ms2) 713 [(7, .int (zI b')), (6, .int (zI k)), (5, .int (zI i)), (0, .ref b), (1, .ref (X9 (0, 0, 0, 0))), (2, .ref (X9 (40, 0, 0, 0))), (3, .ref (X9 (82, 0, 0, 0))), (4, .ref (X9 (83, 0, 0, 0)))] [] := by
    intro X9 e9
    subst e9
    refine G_goto (pc := 713) 2562 dL_law_713 (by decide) ?_
    refine G_perm (lv' := zLv X9 b i) [2, 3, 4, 5, 6, 7] rfl ?_
    exact G_more (by omega) (by omega) (kk P2 T2 _ _ X9 hJ2 hj3 hk2)
  refine G_if_ne (pc := 698) 713 dL_law_698 (by decide) ⟨by omega, by omega⟩ (fun _ => hfin ad2 rfl) (fun e0 => ?_)
  refine G_aload_n (pc := 701) 3 6 dL_law_701 rfl rfl ?_
  refine G_iconst (pc := 702) dL_law_702 ?_
  refine G_lald (pc := 703) dL_law_703 zXl_82 ?_
  refine G_iload (pc := 704) 0 dL_law_704 rfl ?_
  refine G_i2l (pc := 706) dL_law_706 hb' ?_
  rw [ew e0]
  refine G_lcmpE (pc := 707) dL_law_707 ?_
  refine G_if_eq (pc := 708) 713 dL_law_708 (by decide) zR_0 (fun _ => ?_) (fun q => absurd rfl q)
  have h9 := hfin ad2 rfl
  rw [ew e0] at h9
  exact h9
set_option maxHeartbeats 1000000 in
set_option maxRecDepth 100000 in
theorem w_7 {Γ : zCx} {b L : Nat} {xs : Nat → Int32} {P : zP} {T : zS} {i j : Int} {w : Int64} {wd : UInt64} {ad : zK → Nat} {nc ns : Nat} (hst : (z_l Γ).stackTraces = false) (hNc : zNc (z_s Γ)) (hX : zSc Γ b L xs) (hi : 0 ≤ i ∧ i + 6 ≤ L ∧ L ≤ 3072) (hc : nc + 700 ≤ 601024 ∧ ns + 7300 ≤ 7293034) {p1 : Int} (hp1 : zR p1) (hx1 : xs (i + 1).toNat = zI p1) {p2 : Int} (hp2 : zR p2) (hx2 : xs (i + 2).toNat = zI p2) (hJ : xJ P T T) (hj : T (0, 0, 0, 0) 4 ≤ j) (hj2 : j ≤ 512) (kk : zKn Γ b i j nc ns ad) : G Γ zRL cL_law 9 RL ad (mm (z_d Γ) ad P T (zXl (z_d Γ) w wd)) nc ns 716 (zLv ad b i) [] := by
  show G Γ zRL cL_law 9 RL ad (mm (z_d Γ) ad P T (zXl (z_d Γ) w wd)) nc ns 716 [(5, .int (zI i)), (0, .ref b), (1, .ref (ad (0, 0, 0, 0))), (2, .ref (ad (40, 0, 0, 0))), (3, .ref (ad (82, 0, 0, 0))), (4, .ref (ad (83, 0, 0, 0)))] []
  refine G_aload_n (pc := 716) 1 2 dL_law_716 rfl rfl ?_
  refine G_aload_n (pc := 717) 0 1 dL_law_717 rfl rfl ?_
  refine G_iload (pc := 718) 0 dL_law_718 rfl ?_
  refine G_iconst (pc := 720) dL_law_720 ?_
  refine G_iadd (pc := 721) dL_law_721 ?_
  refine G_sld (pc := 722) (v := p1) hX dL_law_722 ⟨by omega, by omega, by omega, by omega⟩ hx1 ?_
  refine G_aload_n (pc := 723) 0 1 dL_law_723 rfl rfl ?_
  refine G_iload (pc := 724) 0 dL_law_724 rfl ?_
  refine G_iconst (pc := 726) dL_law_726 ?_
  refine G_iadd (pc := 727) dL_law_727 ?_
  refine G_sld (pc := 728) (v := p2) hX dL_law_728 ⟨by omega, by omega, by omega, by omega⟩ hx2 ?_
  refine G_aload_n (pc := 729) 3 4 dL_law_729 rfl rfl ?_
  obtain ⟨d1, mc1, ms1, hr1, hm1⟩ := s_setPatience (l := z_l Γ) (Δ := z_d Γ) (x := p1) (y := p2) hst hp1 hp2 P T j w wd ad hJ hj hj2
  have hr1' : d1 ≤ 11 ∧ mc1 ≤ 50 ∧ ms1 ≤ 1300 := hr1
  refine G_callH (pc := 730) hNc hk_setPatience dL_law_730 hm1 rfl rfl (Nat.le_of_ble_eq_true rfl) ⟨⟨by show d1 + 1 ≤ 12; omega, by show 8 + (5 + 11) + 38 * d1 ≤ 462; omega⟩, by show nc + mc1 ≤ 601024; omega, by show ns + ms1 ≤ 7293034; omega⟩ (fun v1 ad1 M1 hpo => ?_)
  obtain ⟨k, P1, T1, w1, rfl, hk, rfl, ⟨a0, a40, a82, a83⟩, d2, mc2, ms2, hr2, hm2⟩ := hpo
  have hr2' : d2 ≤ 11 ∧ mc2 ≤ 650 ∧ ms2 ≤ 6000 := hr2
  rw [← a0, ← a40, ← a82, ← a83]
  refine G_istore (pc := 733) [(6, .int (zI k)), (5, .int (zI i)), (0, .ref b), (1, .ref (ad1 (0, 0, 0, 0))), (2, .ref (ad1 (40, 0, 0, 0))), (3, .ref (ad1 (82, 0, 0, 0))), (4, .ref (ad1 (83, 0, 0, 0)))] dL_law_733 (by decide) rfl ?_
  refine G_aload_n (pc := 735) 2 4 dL_law_735 rfl rfl ?_
  refine G_aload_n (pc := 736) 0 2 dL_law_736 rfl rfl ?_
  refine G_iload (pc := 737) 1 dL_law_737 rfl ?_
  refine G_iconst (pc := 739) dL_law_739 ?_
  refine G_iadd (pc := 740) dL_law_740 ?_
  refine G_sld (pc := 741) (v := p1) hX dL_law_741 ⟨by omega, by omega, by omega, by omega⟩ hx1 ?_
  refine G_aload_n (pc := 742) 0 2 dL_law_742 rfl rfl ?_
  refine G_iload (pc := 743) 1 dL_law_743 rfl ?_
  refine G_iconst (pc := 745) dL_law_745 ?_
  refine G_iadd (pc := 746) dL_law_746 ?_
  refine G_sld (pc := 747) (v := p2) hX dL_law_747 ⟨by omega, by omega, by omega, by omega⟩ hx2 ?_
  refine G_callV (pc := 748) gk_L_156 dL_law_748 mg_40 rfl hm2 rfl rfl (Nat.le_of_ble_eq_true rfl) ⟨⟨by show d2 + 1 ≤ 12; omega, by show 8 + (4 + 11) + 38 * d2 ≤ 462; omega⟩, by show nc + mc1 + mc2 ≤ 601024; omega, by show ns + ms1 + ms2 ≤ 7293034; omega⟩ (fun v2 ad2 M2 hpo => ?_)
  obtain ⟨b', P2, T2, rfl, hb', rfl, ⟨c0, c40, c82, c83⟩, ek, ew, hJ2, hj3⟩ := hpo
  rw [← c0, ← c40, ← c82, ← c83]
  have hk2 : zKp ad ad2 := ⟨c0.trans a0, c40.trans a40, c82.trans a82, c83.trans a83⟩
  refine G_istore (pc := 751) [(7, .int (zI b')), (6, .int (zI k)), (5, .int (zI i)), (0, .ref b), (1, .ref (ad2 (0, 0, 0, 0))), (2, .ref (ad2 (40, 0, 0, 0))), (3, .ref (ad2 (82, 0, 0, 0))), (4, .ref (ad2 (83, 0, 0, 0)))] dL_law_751 (by decide) rfl ?_
  refine G_aload_n (pc := 753) 2 5 dL_law_753 rfl rfl ?_
  refine G_callVd (pc := 754) gk_L_129 dL_law_754 mg_40 rfl (c_X7_thrown (Q := P2) hJ2.2.2.2.2.2.1) rfl rfl (Nat.le_of_ble_eq_true rfl) ⟨⟨Nat.le_of_ble_eq_true rfl, Nat.le_of_ble_eq_true rfl⟩, by show nc + mc1 + mc2 + 0 ≤ 601024; omega, by show ns + ms1 + ms2 + 0 ≤ 7293034; omega⟩ ?_
  rw [ek]
  refine G_iload (pc := 757) 1 dL_law_757 rfl ?_
  refine G_icmp_eq (pc := 759) 764 dL_law_759 (by decide) ⟨by omega, by omega⟩ ⟨by omega, by omega⟩ (fun _ => ?_) (fun q => absurd rfl q)
  refine G_iload (pc := 764) 1 dL_law_764 rfl ?_
  have hfin : ∀ X9 : zK → Nat, X9 = ad2 → G Γ zRL cL_law 9 RL X9 (mm (z_d Γ) X9 P2 T2 (zXl (z_d Γ) w1 wd)) (nc + mc1 + mc2) (ns + ms1 + ms2) 781 [(7, .int (zI b')), (6, .int (zI k)), (5, .int (zI i)), (0, .ref b), (1, .ref (X9 (0, 0, 0, 0))), (2, .ref (X9 (40, 0, 0, 0))), (3, .ref (X9 (82, 0, 0, 0))), (4, .ref (X9 (83, 0, 0, 0)))] [] := by
    intro X9 e9
    subst e9
    refine G_goto (pc := 781) 2562 dL_law_781 (by decide) ?_
    refine G_perm (lv' := zLv X9 b i) [2, 3, 4, 5, 6, 7] rfl ?_
    exact G_more (by omega) (by omega) (kk P2 T2 _ _ X9 hJ2 hj3 hk2)
  refine G_if_ne (pc := 766) 781 dL_law_766 (by decide) ⟨by omega, by omega⟩ (fun _ => hfin ad2 rfl) (fun e0 => ?_)
  refine G_aload_n (pc := 769) 3 6 dL_law_769 rfl rfl ?_
  refine G_iconst (pc := 770) dL_law_770 ?_
  refine G_lald (pc := 771) dL_law_771 zXl_82 ?_
  refine G_iload (pc := 772) 0 dL_law_772 rfl ?_
  refine G_i2l (pc := 774) dL_law_774 hb' ?_
  rw [ew e0]
  refine G_lcmpE (pc := 775) dL_law_775 ?_
  refine G_if_eq (pc := 776) 781 dL_law_776 (by decide) zR_0 (fun _ => ?_) (fun q => absurd rfl q)
  have h9 := hfin ad2 rfl
  rw [ew e0] at h9
  exact h9
