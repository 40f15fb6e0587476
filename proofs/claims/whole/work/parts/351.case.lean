/-! ===== the law's cases, walked ===== -/
set_option maxHeartbeats 1000000 in
set_option maxRecDepth 100000 in
theorem w_31 {Γ : zCx} {b L : Nat} {xs : Nat → Int32} {P : zP} {T : zS} {i j : Int} {w : Int64} {wd : UInt64} {ad : zK → Nat} {nc ns : Nat} (hst : (z_l Γ).stackTraces = false) (hNc : zNc (z_s Γ)) (hX : zSc Γ b L xs) (hi : 0 ≤ i ∧ i + 6 ≤ L ∧ L ≤ 3072) (hc : nc + 700 ≤ 601024 ∧ ns + 7300 ≤ 7293034) {p1 : Int} (hp1 : zR p1) (hx1 : xs (i + 1).toNat = zI p1) {p2 : Int} (hp2 : zR p2) (hx2 : xs (i + 2).toNat = zI p2) (hJ : xJ P T T) (hj : T (0, 0, 0, 0) 4 ≤ j) (hj2 : j ≤ 512) (kk : zKn Γ b i j nc ns ad) : G Γ zRL cL_law 9 RL ad (mm (z_d Γ) ad P T (zXl (z_d Γ) w wd)) nc ns 2220 (zLv ad b i) [] := by
  show G Γ zRL cL_law 9 RL ad (mm (z_d Γ) ad P T (zXl (z_d Γ) w wd)) nc ns 2220 [(5, .int (zI i)), (0, .ref b), (1, .ref (ad (0, 0, 0, 0))), (2, .ref (ad (40, 0, 0, 0))), (3, .ref (ad (82, 0, 0, 0))), (4, .ref (ad (83, 0, 0, 0)))] []
  refine G_aload_n (pc := 2220) 1 2 dL_law_2220 rfl rfl ?_
  refine G_aload_n (pc := 2221) 0 1 dL_law_2221 rfl rfl ?_
  refine G_iload (pc := 2222) 0 dL_law_2222 rfl ?_
  refine G_iconst (pc := 2224) dL_law_2224 ?_
  refine G_iadd (pc := 2225) dL_law_2225 ?_
  refine G_sld (pc := 2226) (v := p1) hX dL_law_2226 ⟨by omega, by omega, by omega, by omega⟩ hx1 ?_
  refine G_aload_n (pc := 2227) 0 1 dL_law_2227 rfl rfl ?_
  refine G_iload (pc := 2228) 0 dL_law_2228 rfl ?_
  refine G_iconst (pc := 2230) dL_law_2230 ?_
  refine G_iadd (pc := 2231) dL_law_2231 ?_
  refine G_sld (pc := 2232) (v := p2) hX dL_law_2232 ⟨by omega, by omega, by omega, by omega⟩ hx2 ?_
  refine G_aload_n (pc := 2233) 3 4 dL_law_2233 rfl rfl ?_
  obtain ⟨d1, mc1, ms1, hr1, hm1⟩ := s_row (l := z_l Γ) (Δ := z_d Γ) (x := p1) (u := p2) hst hp1 hp2 P T j w wd ad hJ hj hj2
  have hr1' : d1 ≤ 11 ∧ mc1 ≤ 50 ∧ ms1 ≤ 1300 := hr1
  refine G_callH (pc := 2234) hNc hk_row dL_law_2234 hm1 rfl rfl (Nat.le_of_ble_eq_true rfl) ⟨⟨by show d1 + 1 ≤ 12; omega, by show 8 + (5 + 11) + 38 * d1 ≤ 462; omega⟩, by show nc + mc1 ≤ 601024; omega, by show ns + ms1 ≤ 7293034; omega⟩ (fun v1 ad1 M1 hpo => ?_)
  obtain ⟨k, P1, T1, w1, rfl, hk, rfl, ⟨a0, a40, a82, a83⟩, d2, mc2, ms2, hr2, hm2⟩ := hpo
  have hr2' : d2 ≤ 11 ∧ mc2 ≤ 650 ∧ ms2 ≤ 6000 := hr2
  rw [← a0, ← a40, ← a82, ← a83]
  refine G_istore (pc := 2237) [(6, .int (zI k)), (5, .int (zI i)), (0, .ref b), (1, .ref (ad1 (0, 0, 0, 0))), (2, .ref (ad1 (40, 0, 0, 0))), (3, .ref (ad1 (82, 0, 0, 0))), (4, .ref (ad1 (83, 0, 0, 0)))] dL_law_2237 (by decide) rfl ?_
  refine G_aload_n (pc := 2239) 2 4 dL_law_2239 rfl rfl ?_
  refine G_aload_n (pc := 2240) 0 2 dL_law_2240 rfl rfl ?_
  refine G_iload (pc := 2241) 1 dL_law_2241 rfl ?_
  refine G_iconst (pc := 2243) dL_law_2243 ?_
  refine G_iadd (pc := 2244) dL_law_2244 ?_
  refine G_sld (pc := 2245) (v := p1) hX dL_law_2245 ⟨by omega, by omega, by omega, by omega⟩ hx1 ?_
  refine G_aload_n (pc := 2246) 0 2 dL_law_2246 rfl rfl ?_
  refine G_iload (pc := 2247) 1 dL_law_2247 rfl ?_
  refine G_iconst (pc := 2249) dL_law_2249 ?_
  refine G_iadd (pc := 2250) dL_law_2250 ?_
  refine G_sld (pc := 2251) (v := p2) hX dL_law_2251 ⟨by omega, by omega, by omega, by omega⟩ hx2 ?_
  refine G_callV (pc := 2252) gk_L_236 dL_law_2252 mg_40 rfl hm2 rfl rfl (Nat.le_of_ble_eq_true rfl) ⟨⟨by show d2 + 1 ≤ 12; omega, by show 8 + (3 + 11) + 38 * d2 ≤ 462; omega⟩, by show nc + mc1 + mc2 ≤ 601024; omega, by show ns + ms1 + ms2 ≤ 7293034; omega⟩ (fun v2 ad2 M2 hpo => ?_)
  obtain ⟨b', P2, T2, rfl, hb', rfl, ⟨c0, c40, c82, c83⟩, ek, ew, hJ2, hj3⟩ := hpo
  rw [← c0, ← c40, ← c82, ← c83]
  have hk2 : zKp ad ad2 := ⟨c0.trans a0, c40.trans a40, c82.trans a82, c83.trans a83⟩
  refine G_istore (pc := 2255) [(7, .int (zI b')), (6, .int (zI k)), (5, .int (zI i)), (0, .ref b), (1, .ref (ad2 (0, 0, 0, 0))), (2, .ref (ad2 (40, 0, 0, 0))), (3, .ref (ad2 (82, 0, 0, 0))), (4, .ref (ad2 (83, 0, 0, 0)))] dL_law_2255 (by decide) rfl ?_
  refine G_aload_n (pc := 2257) 2 5 dL_law_2257 rfl rfl ?_
  refine G_callVd (pc := 2258) gk_L_129 dL_law_2258 mg_40 rfl (c_X7_thrown (Q := P2) hJ2.2.2.2.2.2.1) rfl rfl (Nat.le_of_ble_eq_true rfl) ⟨⟨Nat.le_of_ble_eq_true rfl, Nat.le_of_ble_eq_true rfl⟩, by show nc + mc1 + mc2 + 0 ≤ 601024; omega, by show ns + ms1 + ms2 + 0 ≤ 7293034; omega⟩ ?_
  rw [ek]
  refine G_iload (pc := 2261) 1 dL_law_2261 rfl ?_
  refine G_icmp_eq (pc := 2263) 2268 dL_law_2263 (by decide) ⟨by omega, by omega⟩ ⟨by omega, by omega⟩ (fun _ => ?_) (fun q => absurd rfl q)
  refine G_iload (pc := 2268) 1 dL_law_2268 rfl ?_
  have hfin : ∀ X9 : zK → Nat, X9 = ad2 → G Γ zRL cL_law 9 RL X9 (mm (z_d Γ) X9 P2 T2 (zXl (z_d Γ) w1 wd)) (nc + mc1 + mc2) (ns + ms1 + ms2) 2285 [(7, .int (zI b')), (6, .int (zI k)), (5, .int (zI i)), (0, .ref b), (1, .ref (X9 (0, 0, 0, 0))), (2, .ref (X9 (40, 0, 0, 0))), (3, .ref (X9 (82, 0, 0, 0))), (4, .ref (X9 (83, 0, 0, 0)))] [] := by
    intro X9 e9
    subst e9
    refine G_goto (pc := 2285) 2562 dL_law_2285 (by decide) ?_
    refine G_perm (lv' := zLv X9 b i) [2, 3, 4, 5, 6, 7] rfl ?_
    exact G_more (by omega) (by omega) (kk P2 T2 _ _ X9 hJ2 hj3 hk2)
  refine G_if_ne (pc := 2270) 2285 dL_law_2270 (by decide) ⟨by omega, by omega⟩ (fun _ => hfin ad2 rfl) (fun e0 => ?_)
  refine G_aload_n (pc := 2273) 3 6 dL_law_2273 rfl rfl ?_
  refine G_iconst (pc := 2274) dL_law_2274 ?_
  refine G_lald (pc := 2275) dL_law_2275 zXl_82 ?_
  refine G_iload (pc := 2276) 0 dL_law_2276 rfl ?_
  refine G_i2l (pc := 2278) dL_law_2278 hb' ?_
  rw [ew e0]
  refine G_lcmpE (pc := 2279) dL_law_2279 ?_
  refine G_if_eq (pc := 2280) 2285 dL_law_2280 (by decide) zR_0 (fun _ => ?_) (fun q => absurd rfl q)
  have h9 := hfin ad2 rfl
  rw [ew e0] at h9
  exact h9
set_option maxHeartbeats 1000000 in
set_option maxRecDepth 100000 in
theorem w_32 {Γ : zCx} {b L : Nat} {xs : Nat → Int32} {P : zP} {T : zS} {i j : Int} {w : Int64} {wd : UInt64} {ad : zK → Nat} {nc ns : Nat} (hst : (z_l Γ).stackTraces = false) (hNc : zNc (z_s Γ)) (hX : zSc Γ b L xs) (hi : 0 ≤ i ∧ i + 6 ≤ L ∧ L ≤ 3072) (hc : nc + 700 ≤ 601024 ∧ ns + 7300 ≤ 7293034) {p1 : Int} (hp1 : zR p1) (hx1 : xs (i + 1).toNat = zI p1) {p2 : Int} (hp2 : zR p2) (hx2 : xs (i + 2).toNat = zI p2) (hJ : xJ P T T) (hj : T (0, 0, 0, 0) 4 ≤ j) (hj2 : j ≤ 512) (kk : zKn Γ b i j nc ns ad) : G Γ zRL cL_law 9 RL ad (mm (z_d Γ) ad P T (zXl (z_d Γ) w wd)) nc ns 2288 (zLv ad b i) [] := by
  show G Γ zRL cL_law 9 RL ad (mm (z_d Γ) ad P T (zXl (z_d Γ) w wd)) nc ns 2288 [(5, .int (zI i)), (0, .ref b), (1, .ref (ad (0, 0, 0, 0))), (2, .ref (ad (40, 0, 0, 0))), (3, .ref (ad (82, 0, 0, 0))), (4, .ref (ad (83, 0, 0, 0)))] []
  refine G_aload_n (pc := 2288) 1 2 dL_law_2288 rfl rfl ?_
  refine G_aload_n (pc := 2289) 0 1 dL_law_2289 rfl rfl ?_
  refine G_iload (pc := 2290) 0 dL_law_2290 rfl ?_
  refine G_iconst (pc := 2292) dL_law_2292 ?_
  refine G_iadd (pc := 2293) dL_law_2293 ?_
  refine G_sld (pc := 2294) (v := p1) hX dL_law_2294 ⟨by omega, by omega, by omega, by omega⟩ hx1 ?_
  refine G_aload_n (pc := 2295) 0 1 dL_law_2295 rfl rfl ?_
  refine G_iload (pc := 2296) 0 dL_law_2296 rfl ?_
  refine G_iconst (pc := 2298) dL_law_2298 ?_
  refine G_iadd (pc := 2299) dL_law_2299 ?_
  refine G_sld (pc := 2300) (v := p2) hX dL_law_2300 ⟨by omega, by omega, by omega, by omega⟩ hx2 ?_
  refine G_aload_n (pc := 2301) 3 4 dL_law_2301 rfl rfl ?_
  obtain ⟨d1, mc1, ms1, hr1, hm1⟩ := s_wouldTake (l := z_l Γ) (Δ := z_d Γ) (g := p1) (r := p2) hst hp1 hp2 P T j w wd ad hJ hj hj2
  have hr1' : d1 ≤ 11 ∧ mc1 ≤ 50 ∧ ms1 ≤ 1300 := hr1
  refine G_callH (pc := 2302) hNc hk_wouldTake dL_law_2302 hm1 rfl rfl (Nat.le_of_ble_eq_true rfl) ⟨⟨by show d1 + 1 ≤ 12; omega, by show 8 + (5 + 11) + 38 * d1 ≤ 462; omega⟩, by show nc + mc1 ≤ 601024; omega, by show ns + ms1 ≤ 7293034; omega⟩ (fun v1 ad1 M1 hpo => ?_)
  obtain ⟨k, P1, T1, w1, rfl, hk, rfl, ⟨a0, a40, a82, a83⟩, d2, mc2, ms2, hr2, hm2⟩ := hpo
  have hr2' : d2 ≤ 11 ∧ mc2 ≤ 650 ∧ ms2 ≤ 6000 := hr2
  rw [← a0, ← a40, ← a82, ← a83]
  refine G_istore (pc := 2305) [(6, .int (zI k)), (5, .int (zI i)), (0, .ref b), (1, .ref (ad1 (0, 0, 0, 0))), (2, .ref (ad1 (40, 0, 0, 0))), (3, .ref (ad1 (82, 0, 0, 0))), (4, .ref (ad1 (83, 0, 0, 0)))] dL_law_2305 (by decide) rfl ?_
  refine G_aload_n (pc := 2307) 2 4 dL_law_2307 rfl rfl ?_
  refine G_aload_n (pc := 2308) 0 2 dL_law_2308 rfl rfl ?_
  refine G_iload (pc := 2309) 1 dL_law_2309 rfl ?_
  refine G_iconst (pc := 2311) dL_law_2311 ?_
  refine G_iadd (pc := 2312) dL_law_2312 ?_
  refine G_sld (pc := 2313) (v := p1) hX dL_law_2313 ⟨by omega, by omega, by omega, by omega⟩ hx1 ?_
  refine G_aload_n (pc := 2314) 0 2 dL_law_2314 rfl rfl ?_
  refine G_iload (pc := 2315) 1 dL_law_2315 rfl ?_
  refine G_iconst (pc := 2317) dL_law_2317 ?_
  refine G_iadd (pc := 2318) dL_law_2318 ?_
  refine G_sld (pc := 2319) (v := p2) hX dL_law_2319 ⟨by omega, by omega, by omega, by omega⟩ hx2 ?_
  refine G_callV (pc := 2320) gk_L_239 dL_law_2320 mg_40 rfl hm2 rfl rfl (Nat.le_of_ble_eq_true rfl) ⟨⟨by show d2 + 1 ≤ 12; omega, by show 8 + (3 + 11) + 38 * d2 ≤ 462; omega⟩, by show nc + mc1 + mc2 ≤ 601024; omega, by show ns + ms1 + ms2 ≤ 7293034; omega⟩ (fun v2 ad2 M2 hpo => ?_)
  obtain ⟨b', P2, T2, rfl, hb', rfl, ⟨c0, c40, c82, c83⟩, ek, ew, hJ2, hj3⟩ := hpo
  rw [← c0, ← c40, ← c82, ← c83]
  have hk2 : zKp ad ad2 := ⟨c0.trans a0, c40.trans a40, c82.trans a82, c83.trans a83⟩
  refine G_istore (pc := 2323) [(7, .int (zI b')), (6, .int (zI k)), (5, .int (zI i)), (0, .ref b), (1, .ref (ad2 (0, 0, 0, 0))), (2, .ref (ad2 (40, 0, 0, 0))), (3, .ref (ad2 (82, 0, 0, 0))), (4, .ref (ad2 (83, 0, 0, 0)))] dL_law_2323 (by decide) rfl ?_
  refine G_aload_n (pc := 2325) 2 5 dL_law_2325 rfl rfl ?_
  refine G_callVd (pc := 2326) gk_L_129 dL_law_2326 mg_40 rfl (c_X7_thrown (Q := P2) hJ2.2.2.2.2.2.1) rfl rfl (Nat.le_of_ble_eq_true rfl) ⟨⟨Nat.le_of_ble_eq_true rfl, Nat.le_of_ble_eq_true rfl⟩, by show nc + mc1 + mc2 + 0 ≤ 601024; omega, by show ns + ms1 + ms2 + 0 ≤ 7293034; omega⟩ ?_
  rw [ek]
  refine G_iload (pc := 2329) 1 dL_law_2329 rfl ?_
  refine G_icmp_eq (pc := 2331) 2336 dL_law_2331 (by decide) ⟨by omega, by omega⟩ ⟨by omega, by omega⟩ (fun _ => ?_) (fun q => absurd rfl q)
  refine G_iload (pc := 2336) 1 dL_law_2336 rfl ?_
  have hfin : ∀ X9 : zK → Nat, X9 = ad2 → G Γ zRL cL_law 9 RL X9 (mm (z_d Γ) X9 P2 T2 (zXl (z_d Γ) w1 wd)) (nc + mc1 + mc2) (ns + ms1 + ms2) 2353 [(7, .int (zI b')), (6, .int (zI k)), (5, .int (zI i)), (0, .ref b), (1, .ref (X9 (0, 0, 0, 0))), (2, .ref (X9 (40, 0, 0, 0))), (3, .ref (X9 (82, 0, 0, 0))), (4, .ref (X9 (83, 0, 0, 0)))] [] := by
    intro X9 e9
    subst e9
    refine G_goto (pc := 2353) 2562 dL_law_2353 (by decide) ?_
    refine G_perm (lv' := zLv X9 b i) [2, 3, 4, 5, 6, 7] rfl ?_
    exact G_more (by omega) (by omega) (kk P2 T2 _ _ X9 hJ2 hj3 hk2)
  refine G_if_ne (pc := 2338) 2353 dL_law_2338 (by decide) ⟨by omega, by omega⟩ (fun _ => hfin ad2 rfl) (fun e0 => ?_)
  refine G_aload_n (pc := 2341) 3 6 dL_law_2341 rfl rfl ?_
  refine G_iconst (pc := 2342) dL_law_2342 ?_
  refine G_lald (pc := 2343) dL_law_2343 zXl_82 ?_
  refine G_iload (pc := 2344) 0 dL_law_2344 rfl ?_
  refine G_i2l (pc := 2346) dL_law_2346 hb' ?_
  rw [ew e0]
  refine G_lcmpE (pc := 2347) dL_law_2347 ?_
  refine G_if_eq (pc := 2348) 2353 dL_law_2348 (by decide) zR_0 (fun _ => ?_) (fun q => absurd rfl q)
  have h9 := hfin ad2 rfl
  rw [ew e0] at h9
  exact h9
set_option maxHeartbeats 1000000 in
set_option maxRecDepth 100000 in
theorem w_33 {Γ : zCx} {b L : Nat} {xs : Nat → Int32} {P : zP} {T : zS} {i j : Int} {w : Int64} {wd : UInt64} {ad : zK → Nat} {nc ns : Nat} (hst : (z_l Γ).stackTraces = false) (hNc : zNc (z_s Γ)) (hX : zSc Γ b L xs) (hi : 0 ≤ i ∧ i + 6 ≤ L ∧ L ≤ 3072) (hc : nc + 700 ≤ 601024 ∧ ns + 7300 ≤ 7293034) {p1 : Int} (hp1 : zR p1) (hx1 : xs (i + 1).toNat = zI p1) {p2 : Int} (hp2 : zR p2) (hx2 : xs (i + 2).toNat = zI p2) {p3 : Int} (hp3 : zR p3) (hx3 : xs (i + 3).toNat = zI p3) (hJ : xJ P T T) (hj : T (0, 0, 0, 0) 4 ≤ j) (hj2 : j ≤ 512) (kk : zKn Γ b i j nc ns ad) : G Γ zRL cL_law 9 RL ad (mm (z_d Γ) ad P T (zXl (z_d Γ) w wd)) nc ns 2356 (zLv ad b i) [] := by
  show G Γ zRL cL_law 9 RL ad (mm (z_d Γ) ad P T (zXl (z_d Γ) w wd)) nc ns 2356 [(5, .int (zI i)), (0, .ref b), (1, .ref (ad (0, 0, 0, 0))), (2, .ref (ad (40, 0, 0, 0))), (3, .ref (ad (82, 0, 0, 0))), (4, .ref (ad (83, 0, 0, 0)))] []
  refine G_aload_n (pc := 2356) 1 2 dL_law_2356 rfl rfl ?_
  refine G_aload_n (pc := 2357) 0 1 dL_law_2357 rfl rfl ?_
  refine G_iload (pc := 2358) 0 dL_law_2358 rfl ?_
  refine G_iconst (pc := 2360) dL_law_2360 ?_
  refine G_iadd (pc := 2361) dL_law_2361 ?_
  refine G_sld (pc := 2362) (v := p1) hX dL_law_2362 ⟨by omega, by omega, by omega, by omega⟩ hx1 ?_
  refine G_aload_n (pc := 2363) 0 1 dL_law_2363 rfl rfl ?_
  refine G_iload (pc := 2364) 0 dL_law_2364 rfl ?_
  refine G_iconst (pc := 2366) dL_law_2366 ?_
  refine G_iadd (pc := 2367) dL_law_2367 ?_
  refine G_sld (pc := 2368) (v := p2) hX dL_law_2368 ⟨by omega, by omega, by omega, by omega⟩ hx2 ?_
  refine G_aload_n (pc := 2369) 0 1 dL_law_2369 rfl rfl ?_
  refine G_iload (pc := 2370) 0 dL_law_2370 rfl ?_
  refine G_iconst (pc := 2372) dL_law_2372 ?_
  refine G_iadd (pc := 2373) dL_law_2373 ?_
  refine G_sld (pc := 2374) (v := p3) hX dL_law_2374 ⟨by omega, by omega, by omega, by omega⟩ hx3 ?_
  refine G_aload_n (pc := 2375) 3 4 dL_law_2375 rfl rfl ?_
  obtain ⟨d1, mc1, ms1, hr1, hm1⟩ := s_wouldRead (l := z_l Γ) (Δ := z_d Γ) (g := p1) (r := p2) (p := p3) hst hp1 hp2 hp3 P T j w wd ad hJ hj hj2
  have hr1' : d1 ≤ 11 ∧ mc1 ≤ 50 ∧ ms1 ≤ 1300 := hr1
  refine G_callH (pc := 2376) hNc hk_wouldRead dL_law_2376 hm1 rfl rfl (Nat.le_of_ble_eq_true rfl) ⟨⟨by show d1 + 1 ≤ 12; omega, by show 8 + (6 + 11) + 38 * d1 ≤ 462; omega⟩, by show nc + mc1 ≤ 601024; omega, by show ns + ms1 ≤ 7293034; omega⟩ (fun v1 ad1 M1 hpo => ?_)
  obtain ⟨k, P1, T1, w1, rfl, hk, rfl, ⟨a0, a40, a82, a83⟩, d2, mc2, ms2, hr2, hm2⟩ := hpo
  have hr2' : d2 ≤ 11 ∧ mc2 ≤ 650 ∧ ms2 ≤ 6000 := hr2
  rw [← a0, ← a40, ← a82, ← a83]
  refine G_istore (pc := 2379) [(6, .int (zI k)), (5, .int (zI i)), (0, .ref b), (1, .ref (ad1 (0, 0, 0, 0))), (2, .ref (ad1 (40, 0, 0, 0))), (3, .ref (ad1 (82, 0, 0, 0))), (4, .ref (ad1 (83, 0, 0, 0)))] dL_law_2379 (by decide) rfl ?_
  refine G_aload_n (pc := 2381) 2 4 dL_law_2381 rfl rfl ?_
  refine G_aload_n (pc := 2382) 0 2 dL_law_2382 rfl rfl ?_
  refine G_iload (pc := 2383) 1 dL_law_2383 rfl ?_
  refine G_iconst (pc := 2385) dL_law_2385 ?_
  refine G_iadd (pc := 2386) dL_law_2386 ?_
  refine G_sld (pc := 2387) (v := p1) hX dL_law_2387 ⟨by omega, by omega, by omega, by omega⟩ hx1 ?_
  refine G_aload_n (pc := 2388) 0 2 dL_law_2388 rfl rfl ?_
  refine G_iload (pc := 2389) 1 dL_law_2389 rfl ?_
  refine G_iconst (pc := 2391) dL_law_2391 ?_
  refine G_iadd (pc := 2392) dL_law_2392 ?_
  refine G_sld (pc := 2393) (v := p2) hX dL_law_2393 ⟨by omega, by omega, by omega, by omega⟩ hx2 ?_
  refine G_aload_n (pc := 2394) 0 2 dL_law_2394 rfl rfl ?_
  refine G_iload (pc := 2395) 1 dL_law_2395 rfl ?_
  refine G_iconst (pc := 2397) dL_law_2397 ?_
  refine G_iadd (pc := 2398) dL_law_2398 ?_
  refine G_sld (pc := 2399) (v := p3) hX dL_law_2399 ⟨by omega, by omega, by omega, by omega⟩ hx3 ?_
  refine G_callV (pc := 2400) gk_L_242 dL_law_2400 mg_40 rfl hm2 rfl rfl (Nat.le_of_ble_eq_true rfl) ⟨⟨by show d2 + 1 ≤ 12; omega, by show 8 + (6 + 11) + 38 * d2 ≤ 462; omega⟩, by show nc + mc1 + mc2 ≤ 601024; omega, by show ns + ms1 + ms2 ≤ 7293034; omega⟩ (fun v2 ad2 M2 hpo => ?_)
  obtain ⟨b', P2, T2, rfl, hb', rfl, ⟨c0, c40, c82, c83⟩, ek, ew, hJ2, hj3⟩ := hpo
  rw [← c0, ← c40, ← c82, ← c83]
  have hk2 : zKp ad ad2 := ⟨c0.trans a0, c40.trans a40, c82.trans a82, c83.trans a83⟩
  refine G_istore (pc := 2403) [(7, .int (zI b')), (6, .int (zI k)), (5, .int (zI i)), (0, .ref b), (1, .ref (ad2 (0, 0, 0, 0))), (2, .ref (ad2 (40, 0, 0, 0))), (3, .ref (ad2 (82, 0, 0, 0))), (4, .ref (ad2 (83, 0, 0, 0)))] dL_law_2403 (by decide) rfl ?_
  refine G_aload_n (pc := 2405) 2 5 dL_law_2405 rfl rfl ?_
  refine G_callVd (pc := 2406) gk_L_129 dL_law_2406 mg_40 rfl (c_X7_thrown (Q := P2) hJ2.2.2.2.2.2.1) rfl rfl (Nat.le_of_ble_eq_true rfl) ⟨⟨Nat.le_of_ble_eq_true rfl, Nat.le_of_ble_eq_true rfl⟩, by show nc + mc1 + mc2 + 0 ≤ 601024; omega, by show ns + ms1 + ms2 + 0 ≤ 7293034; omega⟩ ?_
  rw [ek]
  refine G_iload (pc := 2409) 1 dL_law_2409 rfl ?_
  refine G_icmp_eq (pc := 2411) 2416 dL_law_2411 (by decide) ⟨by omega, by omega⟩ ⟨by omega, by omega⟩ (fun _ => ?_) (fun q => absurd rfl q)
  refine G_iload (pc := 2416) 1 dL_law_2416 rfl ?_
  have hfin : ∀ X9 : zK → Nat, X9 = ad2 → G Γ zRL cL_law 9 RL X9 (mm (z_d Γ) X9 P2 T2 (zXl (z_d Γ) w1 wd)) (nc + mc1 + mc2) (ns + ms1 + ms2) 2433 [(7, .int (zI b')), (6, .int (zI k)), (5, .int (zI i)), (0, .ref b), (1, .ref (X9 (0, 0, 0, 0))), (2, .ref (X9 (40, 0, 0, 0))), (3, .ref (X9 (82, 0, 0, 0))), (4, .ref (X9 (83, 0, 0, 0)))] [] := by
    intro X9 e9
    subst e9
    refine G_goto (pc := 2433) 2562 dL_law_2433 (by decide) ?_
    refine G_perm (lv' := zLv X9 b i) [2, 3, 4, 5, 6, 7] rfl ?_
    exact G_more (by omega) (by omega) (kk P2 T2 _ _ X9 hJ2 hj3 hk2)
  refine G_if_ne (pc := 2418) 2433 dL_law_2418 (by decide) ⟨by omega, by omega⟩ (fun _ => hfin ad2 rfl) (fun e0 => ?_)
  refine G_aload_n (pc := 2421) 3 6 dL_law_2421 rfl rfl ?_
  refine G_iconst (pc := 2422) dL_law_2422 ?_
  refine G_lald (pc := 2423) dL_law_2423 zXl_82 ?_
  refine G_iload (pc := 2424) 0 dL_law_2424 rfl ?_
  refine G_i2l (pc := 2426) dL_law_2426 hb' ?_
  rw [ew e0]
  refine G_lcmpE (pc := 2427) dL_law_2427 ?_
  refine G_if_eq (pc := 2428) 2433 dL_law_2428 (by decide) zR_0 (fun _ => ?_) (fun q => absurd rfl q)
  have h9 := hfin ad2 rfl
  rw [ew e0] at h9
  exact h9
set_option maxHeartbeats 1000000 in
set_option maxRecDepth 100000 in
theorem w_34 {Γ : zCx} {b L : Nat} {xs : Nat → Int32} {P : zP} {T : zS} {i j : Int} {w : Int64} {wd : UInt64} {ad : zK → Nat} {nc ns : Nat} (hst : (z_l Γ).stackTraces = false) (hNc : zNc (z_s Γ)) (hX : zSc Γ b L xs) (hi : 0 ≤ i ∧ i + 6 ≤ L ∧ L ≤ 3072) (hc : nc + 700 ≤ 601024 ∧ ns + 7300 ≤ 7293034) {p1 : Int} (hp1 : zR p1) (hx1 : xs (i + 1).toNat = zI p1) (hJ : xJ P T T) (hj : T (0, 0, 0, 0) 4 ≤ j) (hj2 : j ≤ 512) (kk : zKn Γ b i j nc ns ad) : G Γ zRL cL_law 9 RL ad (mm (z_d Γ) ad P T (zXl (z_d Γ) w wd)) nc ns 2436 (zLv ad b i) [] := by
  show G Γ zRL cL_law 9 RL ad (mm (z_d Γ) ad P T (zXl (z_d Γ) w wd)) nc ns 2436 [(5, .int (zI i)), (0, .ref b), (1, .ref (ad (0, 0, 0, 0))), (2, .ref (ad (40, 0, 0, 0))), (3, .ref (ad (82, 0, 0, 0))), (4, .ref (ad (83, 0, 0, 0)))] []
  refine G_aload_n (pc := 2436) 1 2 dL_law_2436 rfl rfl ?_
  refine G_aload_n (pc := 2437) 0 1 dL_law_2437 rfl rfl ?_
  refine G_iload (pc := 2438) 0 dL_law_2438 rfl ?_
  refine G_iconst (pc := 2440) dL_law_2440 ?_
  refine G_iadd (pc := 2441) dL_law_2441 ?_
  refine G_sld (pc := 2442) (v := p1) hX dL_law_2442 ⟨by omega, by omega, by omega, by omega⟩ hx1 ?_
  refine G_aload_n (pc := 2443) 3 4 dL_law_2443 rfl rfl ?_
  obtain ⟨d1, mc1, ms1, hr1, hm1⟩ := s_nextTime (l := z_l Γ) (Δ := z_d Γ) (g := p1) hst hp1 P T j w wd ad hJ hj hj2
  have hr1' : d1 ≤ 11 ∧ mc1 ≤ 50 ∧ ms1 ≤ 1300 := hr1
  refine G_callH (pc := 2444) hNc hk_nextTime dL_law_2444 hm1 rfl rfl (Nat.le_of_ble_eq_true rfl) ⟨⟨by show d1 + 1 ≤ 12; omega, by show 8 + (4 + 11) + 38 * d1 ≤ 462; omega⟩, by show nc + mc1 ≤ 601024; omega, by show ns + ms1 ≤ 7293034; omega⟩ (fun v1 ad1 M1 hpo => ?_)
  obtain ⟨k, P1, T1, w1, rfl, hk, rfl, ⟨a0, a40, a82, a83⟩, d2, mc2, ms2, hr2, hm2⟩ := hpo
  have hr2' : d2 ≤ 11 ∧ mc2 ≤ 650 ∧ ms2 ≤ 6000 := hr2
  rw [← a0, ← a40, ← a82, ← a83]
  refine G_istore (pc := 2447) [(6, .int (zI k)), (5, .int (zI i)), (0, .ref b), (1, .ref (ad1 (0, 0, 0, 0))), (2, .ref (ad1 (40, 0, 0, 0))), (3, .ref (ad1 (82, 0, 0, 0))), (4, .ref (ad1 (83, 0, 0, 0)))] dL_law_2447 (by decide) rfl ?_
  refine G_aload_n (pc := 2449) 2 4 dL_law_2449 rfl rfl ?_
  refine G_aload_n (pc := 2450) 0 2 dL_law_2450 rfl rfl ?_
  refine G_iload (pc := 2451) 1 dL_law_2451 rfl ?_
  refine G_iconst (pc := 2453) dL_law_2453 ?_
  refine G_iadd (pc := 2454) dL_law_2454 ?_
  refine G_sld (pc := 2455) (v := p1) hX dL_law_2455 ⟨by omega, by omega, by omega, by omega⟩ hx1 ?_
  refine G_callV (pc := 2456) gk_L_245 dL_law_2456 mg_40 rfl hm2 rfl rfl (Nat.le_of_ble_eq_true rfl) ⟨⟨by show d2 + 1 ≤ 12; omega, by show 8 + (2 + 11) + 38 * d2 ≤ 462; omega⟩, by show nc + mc1 + mc2 ≤ 601024; omega, by show ns + ms1 + ms2 ≤ 7293034; omega⟩ (fun v2 ad2 M2 hpo => ?_)
  obtain ⟨b', P2, T2, rfl, hb', rfl, ⟨c0, c40, c82, c83⟩, ek, ew, hJ2, hj3⟩ := hpo
  rw [← c0, ← c40, ← c82, ← c83]
  have hk2 : zKp ad ad2 := ⟨c0.trans a0, c40.trans a40, c82.trans a82, c83.trans a83⟩
  refine G_istore (pc := 2459) [(7, .int (zI b')), (6, .int (zI k)), (5, .int (zI i)), (0, .ref b), (1, .ref (ad2 (0, 0, 0, 0))), (2, .ref (ad2 (40, 0, 0, 0))), (3, .ref (ad2 (82, 0, 0, 0))), (4, .ref (ad2 (83, 0, 0, 0)))] dL_law_2459 (by decide) rfl ?_
  refine G_aload_n (pc := 2461) 2 5 dL_law_2461 rfl rfl ?_
  refine G_callVd (pc := 2462) gk_L_129 dL_law_2462 mg_40 rfl (c_X7_thrown (Q := P2) hJ2.2.2.2.2.2.1) rfl rfl (Nat.le_of_ble_eq_true rfl) ⟨⟨Nat.le_of_ble_eq_true rfl, Nat.le_of_ble_eq_true rfl⟩, by show nc + mc1 + mc2 + 0 ≤ 601024; omega, by show ns + ms1 + ms2 + 0 ≤ 7293034; omega⟩ ?_
  rw [ek]
  refine G_iload (pc := 2465) 1 dL_law_2465 rfl ?_
  refine G_icmp_eq (pc := 2467) 2472 dL_law_2467 (by decide) ⟨by omega, by omega⟩ ⟨by omega, by omega⟩ (fun _ => ?_) (fun q => absurd rfl q)
  refine G_iload (pc := 2472) 1 dL_law_2472 rfl ?_
  have hfin : ∀ X9 : zK → Nat, X9 = ad2 → G Γ zRL cL_law 9 RL X9 (mm (z_d Γ) X9 P2 T2 (zXl (z_d Γ) w1 wd)) (nc + mc1 + mc2) (ns + ms1 + ms2) 2489 [(7, .int (zI b')), (6, .int (zI k)), (5, .int (zI i)), (0, .ref b), (1, .ref (X9 (0, 0, 0, 0))), (2, .ref (X9 (40, 0, 0, 0))), (3, .ref (X9 (82, 0, 0, 0))), (4, .ref (X9 (83, 0, 0, 0)))] [] := by
    intro X9 e9
    subst e9
    refine G_goto (pc := 2489) 2562 dL_law_2489 (by decide) ?_
    refine G_perm (lv' := zLv X9 b i) [2, 3, 4, 5, 6, 7] rfl ?_
    exact G_more (by omega) (by omega) (kk P2 T2 _ _ X9 hJ2 hj3 hk2)
  refine G_if_ne (pc := 2474) 2489 dL_law_2474 (by decide) ⟨by omega, by omega⟩ (fun _ => hfin ad2 rfl) (fun e0 => ?_)
  refine G_aload_n (pc := 2477) 3 6 dL_law_2477 rfl rfl ?_
  refine G_iconst (pc := 2478) dL_law_2478 ?_
  refine G_lald (pc := 2479) dL_law_2479 zXl_82 ?_
  refine G_iload (pc := 2480) 0 dL_law_2480 rfl ?_
  refine G_i2l (pc := 2482) dL_law_2482 hb' ?_
  rw [ew e0]
  refine G_lcmpE (pc := 2483) dL_law_2483 ?_
  refine G_if_eq (pc := 2484) 2489 dL_law_2484 (by decide) zR_0 (fun _ => ?_) (fun q => absurd rfl q)
  have h9 := hfin ad2 rfl
  rw [ew e0] at h9
  exact h9
set_option maxHeartbeats 1000000 in
set_option maxRecDepth 100000 in
theorem w_35 {Γ : zCx} {b L : Nat} {xs : Nat → Int32} {P : zP} {T : zS} {i j : Int} {w : Int64} {wd : UInt64} {ad : zK → Nat} {nc ns : Nat} (hst : (z_l Γ).stackTraces = false) (hNc : zNc (z_s Γ)) (hX : zSc Γ b L xs) (hi : 0 ≤ i ∧ i + 6 ≤ L ∧ L ≤ 3072) (hc : nc + 700 ≤ 601024 ∧ ns + 7300 ≤ 7293034) {p1 : Int} (hp1 : zR p1) (hx1 : xs (i + 1).toNat = zI p1) (hJ : xJ P T T) (hj : T (0, 0, 0, 0) 4 ≤ j) (hj2 : j ≤ 512) (kk : zKn Γ b i j nc ns ad) : G Γ zRL cL_law 9 RL ad (mm (z_d Γ) ad P T (zXl (z_d Γ) w wd)) nc ns 2492 (zLv ad b i) [] := by
  show G Γ zRL cL_law 9 RL ad (mm (z_d Γ) ad P T (zXl (z_d Γ) w wd)) nc ns 2492 [(5, .int (zI i)), (0, .ref b), (1, .ref (ad (0, 0, 0, 0))), (2, .ref (ad (40, 0, 0, 0))), (3, .ref (ad (82, 0, 0, 0))), (4, .ref (ad (83, 0, 0, 0)))] []
  refine G_aload_n (pc := 2492) 1 2 dL_law_2492 rfl rfl ?_
  refine G_aload_n (pc := 2493) 0 1 dL_law_2493 rfl rfl ?_
  refine G_iload (pc := 2494) 0 dL_law_2494 rfl ?_
  refine G_iconst (pc := 2496) dL_law_2496 ?_
  refine G_iadd (pc := 2497) dL_law_2497 ?_
  refine G_sld (pc := 2498) (v := p1) hX dL_law_2498 ⟨by omega, by omega, by omega, by omega⟩ hx1 ?_
  refine G_aload_n (pc := 2499) 3 4 dL_law_2499 rfl rfl ?_
  obtain ⟨d1, mc1, ms1, hr1, hm1⟩ := s_wouldDrop (l := z_l Γ) (Δ := z_d Γ) (t := p1) hst hp1 P T j w wd ad hJ hj hj2
  have hr1' : d1 ≤ 11 ∧ mc1 ≤ 50 ∧ ms1 ≤ 1300 := hr1
  refine G_callH (pc := 2500) hNc hk_wouldDrop dL_law_2500 hm1 rfl rfl (Nat.le_of_ble_eq_true rfl) ⟨⟨by show d1 + 1 ≤ 12; omega, by show 8 + (4 + 11) + 38 * d1 ≤ 462; omega⟩, by show nc + mc1 ≤ 601024; omega, by show ns + ms1 ≤ 7293034; omega⟩ (fun v1 ad1 M1 hpo => ?_)
  obtain ⟨k, P1, T1, w1, rfl, hk, rfl, ⟨a0, a40, a82, a83⟩, d2, mc2, ms2, hr2, hm2⟩ := hpo
  have hr2' : d2 ≤ 11 ∧ mc2 ≤ 650 ∧ ms2 ≤ 6000 := hr2
  rw [← a0, ← a40, ← a82, ← a83]
  refine G_istore (pc := 2503) [(6, .int (zI k)), (5, .int (zI i)), (0, .ref b), (1, .ref (ad1 (0, 0, 0, 0))), (2, .ref (ad1 (40, 0, 0, 0))), (3, .ref (ad1 (82, 0, 0, 0))), (4, .ref (ad1 (83, 0, 0, 0)))] dL_law_2503 (by decide) rfl ?_
  refine G_aload_n (pc := 2505) 2 4 dL_law_2505 rfl rfl ?_
  refine G_aload_n (pc := 2506) 0 2 dL_law_2506 rfl rfl ?_
  refine G_iload (pc := 2507) 1 dL_law_2507 rfl ?_
  refine G_iconst (pc := 2509) dL_law_2509 ?_
  refine G_iadd (pc := 2510) dL_law_2510 ?_
  refine G_sld (pc := 2511) (v := p1) hX dL_law_2511 ⟨by omega, by omega, by omega, by omega⟩ hx1 ?_
  refine G_callV (pc := 2512) gk_L_248 dL_law_2512 mg_40 rfl hm2 rfl rfl (Nat.le_of_ble_eq_true rfl) ⟨⟨by show d2 + 1 ≤ 12; omega, by show 8 + (2 + 11) + 38 * d2 ≤ 462; omega⟩, by show nc + mc1 + mc2 ≤ 601024; omega, by show ns + ms1 + ms2 ≤ 7293034; omega⟩ (fun v2 ad2 M2 hpo => ?_)
  obtain ⟨b', P2, T2, rfl, hb', rfl, ⟨c0, c40, c82, c83⟩, ek, ew, hJ2, hj3⟩ := hpo
  rw [← c0, ← c40, ← c82, ← c83]
  have hk2 : zKp ad ad2 := ⟨c0.trans a0, c40.trans a40, c82.trans a82, c83.trans a83⟩
  refine G_istore (pc := 2515) [(7, .int (zI b')), (6, .int (zI k)), (5, .int (zI i)), (0, .ref b), (1, .ref (ad2 (0, 0, 0, 0))), (2, .ref (ad2 (40, 0, 0, 0))), (3, .ref (ad2 (82, 0, 0, 0))), (4, .ref (ad2 (83, 0, 0, 0)))] dL_law_2515 (by decide) rfl ?_
  refine G_aload_n (pc := 2517) 2 5 dL_law_2517 rfl rfl ?_
  refine G_callVd (pc := 2518) gk_L_129 dL_law_2518 mg_40 rfl (c_X7_thrown (Q := P2) hJ2.2.2.2.2.2.1) rfl rfl (Nat.le_of_ble_eq_true rfl) ⟨⟨Nat.le_of_ble_eq_true rfl, Nat.le_of_ble_eq_true rfl⟩, by show nc + mc1 + mc2 + 0 ≤ 601024; omega, by show ns + ms1 + ms2 + 0 ≤ 7293034; omega⟩ ?_
  rw [ek]
  refine G_iload (pc := 2521) 1 dL_law_2521 rfl ?_
  refine G_icmp_eq (pc := 2523) 2528 dL_law_2523 (by decide) ⟨by omega, by omega⟩ ⟨by omega, by omega⟩ (fun _ => ?_) (fun q => absurd rfl q)
  refine G_iload (pc := 2528) 1 dL_law_2528 rfl ?_
  have hfin : ∀ X9 : zK → Nat, X9 = ad2 → G Γ zRL cL_law 9 RL X9 (mm (z_d Γ) X9 P2 T2 (zXl (z_d Γ) w1 wd)) (nc + mc1 + mc2) (ns + ms1 + ms2) 2545 [(7, .int (zI b')), (6, .int (zI k)), (5, .int (zI i)), (0, .ref b), (1, .ref (X9 (0, 0, 0, 0))), (2, .ref (X9 (40, 0, 0, 0))), (3, .ref (X9 (82, 0, 0, 0))), (4, .ref (X9 (83, 0, 0, 0)))] [] := by
    intro X9 e9
    subst e9
    refine G_goto (pc := 2545) 2562 dL_law_2545 (by decide) ?_
    refine G_perm (lv' := zLv X9 b i) [2, 3, 4, 5, 6, 7] rfl ?_
    exact G_more (by omega) (by omega) (kk P2 T2 _ _ X9 hJ2 hj3 hk2)
  refine G_if_ne (pc := 2530) 2545 dL_law_2530 (by decide) ⟨by omega, by omega⟩ (fun _ => hfin ad2 rfl) (fun e0 => ?_)
  refine G_aload_n (pc := 2533) 3 6 dL_law_2533 rfl rfl ?_
  refine G_iconst (pc := 2534) dL_law_2534 ?_
  refine G_lald (pc := 2535) dL_law_2535 zXl_82 ?_
  refine G_iload (pc := 2536) 0 dL_law_2536 rfl ?_
  refine G_i2l (pc := 2538) dL_law_2538 hb' ?_
  rw [ew e0]
  refine G_lcmpE (pc := 2539) dL_law_2539 ?_
  refine G_if_eq (pc := 2540) 2545 dL_law_2540 (by decide) zR_0 (fun _ => ?_) (fun q => absurd rfl q)
  have h9 := hfin ad2 rfl
  rw [ew e0] at h9
  exact h9
