set_option maxHeartbeats 4000000 in
set_option maxRecDepth 100000 in
theorem c_X7_cleaned0 {l : Launch} {Δ : zDl} {ad : zK → Nat} {P : zP} {S : zS} {X : zMem} {Q : zP} {t : Int} (hV : zWM Q S) (hX0 : X (90, 0, 0, 0) = none) (ht : 0 ≤ t ∧ t < Q 0 0 0) (h61 : Q 61 0 0 = P 61 0 0) : zMn l Δ yX7_cleaned cX7_cleaned 9 (some .int) 4 4 40 [.ref (ad (40, 0, 0, 0)), .int (zI t), .int (zI 0)] ad (mm Δ ad P S X) (zD (some (.int (zI ((mcl Q 0 t (S, 0)).2)))) ad (mm Δ ad P S X)) := by
  have h := c_X7_cleaned (l := l) (Δ := Δ) (ad := ad) (P := P) (X := X) (b := 0) hV hX0 ht h61 ⟨by omega, by omega⟩
  rw [mcl_0] at h
  exact h
set_option maxHeartbeats 4000000 in
set_option maxRecDepth 100000 in
theorem c_X7_digest {l : Launch} {Δ : zDl} {ad : zK → Nat} {P : zP} {S : zS} {X : zMem} {Q : zP}  (hV : zWM Q S) (hX0 : X (90, 0, 0, 0) = none) (h61 : Q 61 0 0 = P 61 0 0) : zMn l Δ yX7_digest cX7_digest 8 (some .long) 9 16 160 [.ref (ad (40, 0, 0, 0))] ad (mm Δ ad P S X) (zD (some (.long (zL (mdg Q (zst S (40, 0, 0, 0) 0 0))))) ad (mm Δ ad P (zst S (40, 0, 0, 0) 0 0) X)) := by
  refine zMn_of (by decide) (Nat.le_of_ble_eq_true rfl) (fun Γ hl hΔ hF => ?_)
  subst hl hΔ
  show G Γ _ _ _ RX7 _ _ _ _ _ [(0, .ref (ad (40, 0, 0, 0)))] []
  have hq := hV.q
  refine G_aload_n (pc := 0) 0 0 dX7_digest_0 rfl rfl ?_
  refine G_iconst (pc := 1) dX7_digest_1 ?_
  refine G_putf (pc := 2) fl_X7_93 fp_X7_0 dX7_digest_2 mg_40 (Nat.le_of_ble_eq_true rfl) rfl rfl (mp_40_0 _) ?_
  refine G_name (fun S1_2 hS1_2 => ?_)
  have hVS1_2 : zWM Q S1_2 := by rw [hS1_2]; exact hV.s40_0 (by first | assumption | exact ⟨by omega, by omega⟩)
  have h4 := hVS1_2.t4
  have h23 := hVS1_2.g23
  have h32 := hVS1_2.f32
  have h11 := hVS1_2.f11
  refine G_ldc2 (pc := 5) cl7_249 dX7_digest_5 ?_
  refine G_aload_n (pc := 8) 0 0 dX7_digest_8 rfl rfl ?_
  refine G_getf (pc := 9) fl_X7_143 dX7_digest_9 mg_40 rfl ?_
  have hb9 := hVS1_2.f1
  refine G_i2l (pc := 12) dX7_digest_12 (by first | exact hS _ _ | exact hT _ _ | exact ⟨by omega, by omega⟩ | assumption | exact zWM.r (by assumption) _ _ (by decide) | exact mom_R (by assumption)) ?_
  refine G_ladd (pc := 13) dX7_digest_13 ?_
  refine G_ldc2 (pc := 14) cl7_251 dX7_digest_14 ?_
  refine G_lmul (pc := 17) dX7_digest_17 ?_
  refine G_aload_n (pc := 18) 0 0 dX7_digest_18 rfl rfl ?_
  refine G_getf (pc := 19) fl_X7_96 dX7_digest_19 mg_40 rfl ?_
  refine G_i2l (pc := 22) dX7_digest_22 (by first | exact hS _ _ | exact hT _ _ | exact ⟨by omega, by omega⟩ | assumption | exact zWM.r (by assumption) _ _ (by decide) | exact mom_R (by assumption)) ?_
  refine G_ladd (pc := 23) dX7_digest_23 ?_
  refine G_ldc2 (pc := 24) cl7_251 dX7_digest_24 ?_
  refine G_lmul (pc := 27) dX7_digest_27 ?_
  refine G_aload_n (pc := 28) 0 0 dX7_digest_28 rfl rfl ?_
  refine G_getf (pc := 29) fl_X7_107 dX7_digest_29 mg_40 rfl ?_
  refine G_i2l (pc := 32) dX7_digest_32 (by first | exact hS _ _ | exact hT _ _ | exact ⟨by omega, by omega⟩ | assumption | exact zWM.r (by assumption) _ _ (by decide) | exact mom_R (by assumption)) ?_
  refine G_ladd (pc := 33) dX7_digest_33 ?_
  refine G_ldc2 (pc := 34) cl7_251 dX7_digest_34 ?_
  refine G_lmul (pc := 37) dX7_digest_37 ?_
  refine G_aload_n (pc := 38) 0 0 dX7_digest_38 rfl rfl ?_
  refine G_getf (pc := 39) fl_X7_207 dX7_digest_39 mg_40 rfl ?_
  have hb39 := hVS1_2.f32
  refine G_i2l (pc := 42) dX7_digest_42 (by first | exact hS _ _ | exact hT _ _ | exact ⟨by omega, by omega⟩ | assumption | exact zWM.r (by assumption) _ _ (by decide) | exact mom_R (by assumption)) ?_
  refine G_ladd (pc := 43) dX7_digest_43 ?_
  refine G_lstore_ne (pc := 44) 1 (fun zw => [(1, .long (zL zw)), (0, .ref (ad (40, 0, 0, 0)))]) dX7_digest_44 rfl (by decide) (fun _ => rfl) (fun v44 e44 => ?_)
  refine G_iconst (pc := 45) dX7_digest_45 ?_
  refine G_istore_ne (pc := 46) 3 (fun zw => [(3, .int (zI zw)), (1, .long (zL v44)), (0, .ref (ad (40, 0, 0, 0)))]) dX7_digest_46 rfl (by decide) (fun _ => rfl) (fun v46 e46 => ?_)
  have L47 : ∀ (n : Nat) (d : Int) (t : Int) (nc ns : Nat), (((0 ≤ t ∧ t ≤ Q 0 0 0) ∧ (nc : Int) + 4 * (Q 0 0 0 - t) ≤ 16 ∧ (ns : Int) + 40 * (Q 0 0 0 - t) ≤ 160) ∧ lp (mxt Q S1_2) t (Q 0 0 0) d = lp (mxt Q S1_2) 0 (Q 0 0 0) (zmx (zmx (zmx (zmx 2683 (S1_2 (40, 0, 0, 0) 1)) (Q 0 0 0)) (Q 3 0 0)) (S1_2 (40, 0, 0, 0) 32))) → (Q 0 0 0 - t).toNat < n → G Γ (zRm 9 16 160) cX7_digest 8 RX7 ad (mm (z_d Γ) ad P S1_2 X) nc ns 47 [(0, .ref (ad (40, 0, 0, 0))), (1, .long (zL d)), (3, .int (zI t))] [] := by
    intro n
    induction n with
    | zero => intro d t nc ns _ hn; omega
    | succ n ih47 =>
      intro d t nc ns hi47 hn47
      refine G_iload_n (pc := 47) 3 2 dX7_digest_47 rfl rfl ?_
      refine G_aload_n (pc := 48) 0 0 dX7_digest_48 rfl rfl ?_
      refine G_getf (pc := 49) fl_X7_96 dX7_digest_49 mg_40 rfl ?_
      refine G_icmp_ge (pc := 52) 210 dX7_digest_52 (by decide) (by first | exact hS _ _ | exact hT _ _ | exact ⟨by omega, by omega⟩ | assumption | exact zWM.r (by assumption) _ _ (by decide) | exact mom_R (by assumption)) (by first | exact hS _ _ | exact hT _ _ | exact ⟨by omega, by omega⟩ | assumption | exact zWM.r (by assumption) _ _ (by decide) | exact mom_R (by assumption)) (fun c52 => ?_) (fun c52 => ?_)
      · have hy1 := hi47.2
        rw [lp_end (a := t) (by omega)] at hy1
        refine G_iconst (pc := 210) dX7_digest_210 ?_
        refine G_istore_ne (pc := 211) 3 (fun zw => [(3, .int (zI zw)), (0, .ref (ad (40, 0, 0, 0))), (1, .long (zL d))]) dX7_digest_211 rfl (by decide) (fun _ => rfl) (fun v211 e211 => ?_)
        have L212 : ∀ (n : Nat) (d5 : Int) (g : Int), ((0 ≤ g ∧ g ≤ Q 3 0 0) ∧ lp (mxg Q S1_2) g (Q 3 0 0) d5 = lp (mxg Q S1_2) 0 (Q 3 0 0) d) → (Q 3 0 0 - g).toNat < n → G Γ (zRm 9 16 160) cX7_digest 8 RX7 ad (mm (z_d Γ) ad P S1_2 X) nc ns 212 [(0, .ref (ad (40, 0, 0, 0))), (1, .long (zL d5)), (3, .int (zI g))] [] := by
          intro n
          induction n with
          | zero => intro d5 g _ hn; omega
          | succ n ih212 =>
            intro d5 g hi212 hn212
            refine G_iload_n (pc := 212) 3 2 dX7_digest_212 rfl rfl ?_
            refine G_aload_n (pc := 213) 0 0 dX7_digest_213 rfl rfl ?_
            refine G_getf (pc := 214) fl_X7_107 dX7_digest_214 mg_40 rfl ?_
            refine G_icmp_ge (pc := 217) 412 dX7_digest_217 (by decide) (by first | exact hS _ _ | exact hT _ _ | exact ⟨by omega, by omega⟩ | assumption | exact zWM.r (by assumption) _ _ (by decide) | exact mom_R (by assumption)) (by first | exact hS _ _ | exact hT _ _ | exact ⟨by omega, by omega⟩ | assumption | exact zWM.r (by assumption) _ _ (by decide) | exact mom_R (by assumption)) (fun c217 => ?_) (fun c217 => ?_)
            · have hy2 := hi212.2
              rw [lp_end (a := g) (by omega)] at hy2
              refine G_iconst (pc := 412) dX7_digest_412 ?_
              refine G_istore_ne (pc := 413) 3 (fun zw => [(3, .int (zI zw)), (0, .ref (ad (40, 0, 0, 0))), (1, .long (zL d5))]) dX7_digest_413 rfl (by decide) (fun _ => rfl) (fun v413 e413 => ?_)
              have L414 : ∀ (n : Nat) (d8 : Int) (g2 : Int), ((0 ≤ g2 ∧ g2 ≤ Q 3 0 0) ∧ lp (mxn Q S1_2) g2 (Q 3 0 0) d8 = lp (mxn Q S1_2) 0 (Q 3 0 0) d5) → (Q 3 0 0 - g2).toNat < n → G Γ (zRm 9 16 160) cX7_digest 8 RX7 ad (mm (z_d Γ) ad P S1_2 X) nc ns 414 [(0, .ref (ad (40, 0, 0, 0))), (1, .long (zL d8)), (3, .int (zI g2))] [] := by
                intro n
                induction n with
                | zero => intro d8 g2 _ hn; omega
                | succ n ih414 =>
                  intro d8 g2 hi414 hn414
                  refine G_iload_n (pc := 414) 3 2 dX7_digest_414 rfl rfl ?_
                  refine G_aload_n (pc := 415) 0 0 dX7_digest_415 rfl rfl ?_
                  refine G_getf (pc := 416) fl_X7_107 dX7_digest_416 mg_40 rfl ?_
                  refine G_icmp_ge (pc := 419) 459 dX7_digest_419 (by decide) (by first | exact hS _ _ | exact hT _ _ | exact ⟨by omega, by omega⟩ | assumption | exact zWM.r (by assumption) _ _ (by decide) | exact mom_R (by assumption)) (by first | exact hS _ _ | exact hT _ _ | exact ⟨by omega, by omega⟩ | assumption | exact zWM.r (by assumption) _ _ (by decide) | exact mom_R (by assumption)) (fun c419 => ?_) (fun c419 => ?_)
                  · have hy3 := hi414.2
                    rw [lp_end (a := g2) (by omega)] at hy3
                    refine G_iconst (pc := 459) dX7_digest_459 ?_
                    refine G_istore_ne (pc := 460) 3 (fun zw => [(3, .int (zI zw)), (0, .ref (ad (40, 0, 0, 0))), (1, .long (zL d8))]) dX7_digest_460 rfl (by decide) (fun _ => rfl) (fun v460 e460 => ?_)
                    have L461 : ∀ (n : Nat) (d10 : Int) (k : Int), ((0 ≤ k ∧ k ≤ 5 * S1_2 (40, 0, 0, 0) 32) ∧ lp (mxl S1_2) k (5 * S1_2 (40, 0, 0, 0) 32) d10 = lp (mxl S1_2) 0 (5 * S1_2 (40, 0, 0, 0) 32) d8) → (5 * S1_2 (40, 0, 0, 0) 32 - k).toNat < n → G Γ (zRm 9 16 160) cX7_digest 8 RX7 ad (mm (z_d Γ) ad P S1_2 X) nc ns 461 [(0, .ref (ad (40, 0, 0, 0))), (1, .long (zL d10)), (3, .int (zI k))] [] := by
                      intro n
                      induction n with
                      | zero => intro d10 k _ hn; omega
                      | succ n ih461 =>
                        intro d10 k hi461 hn461
                        refine G_iload_n (pc := 461) 3 2 dX7_digest_461 rfl rfl ?_
                        refine G_iconst (pc := 462) dX7_digest_462 ?_
                        refine G_aload_n (pc := 463) 0 0 dX7_digest_463 rfl rfl ?_
                        refine G_getf (pc := 464) fl_X7_207 dX7_digest_464 mg_40 rfl ?_
                        have hb464 := hVS1_2.f32
                        refine G_imul (pc := 467) dX7_digest_467 ?_
                        refine G_icmp_ge (pc := 468) 491 dX7_digest_468 (by decide) (by first | exact hS _ _ | exact hT _ _ | exact ⟨by omega, by omega⟩ | assumption | exact zWM.r (by assumption) _ _ (by decide) | exact mom_R (by assumption)) (by first | exact hS _ _ | exact hT _ _ | exact ⟨by omega, by omega⟩ | assumption | exact zWM.r (by assumption) _ _ (by decide) | exact mom_R (by assumption)) (fun c468 => ?_) (fun c468 => ?_)
                        · have hy4 := hi461.2
                          rw [lp_end (a := k) (by omega)] at hy4
                          refine G_lload_n (pc := 491) 1 1 dX7_digest_491 rfl rfl ?_
                          exact G_lret_m (pc := 492) hF dX7_digest_492 ⟨by omega, by omega⟩ (by rw [← hS1_2]; unfold mdg; rw [← hy1, ← hy2, ← hy3, ← hy4]) (by rw [hS1_2])
                        · refine G_lload_n (pc := 471) 1 1 dX7_digest_471 rfl rfl ?_
                          refine G_ldc2 (pc := 472) cl7_251 dX7_digest_472 ?_
                          refine G_lmul (pc := 475) dX7_digest_475 ?_
                          refine G_aload_n (pc := 476) 0 0 dX7_digest_476 rfl rfl ?_
                          refine G_getf (pc := 477) fl_X7_90 dX7_digest_477 mg_40 rfl ?_
                          refine G_iload_n (pc := 480) 3 2 dX7_digest_480 rfl rfl ?_
                          refine G_iald (pc := 481) dX7_digest_481 mg_73 ⟨by omega, by omega, by omega, by omega⟩ ?_
                          refine G_i2l (pc := 482) dX7_digest_482 (by first | exact hS _ _ | exact hT _ _ | exact ⟨by omega, by omega⟩ | assumption | exact zWM.r (by assumption) _ _ (by decide) | exact mom_R (by assumption)) ?_
                          refine G_ladd (pc := 483) dX7_digest_483 ?_
                          refine G_lstore_ne (pc := 484) 1 (fun zw => [(1, .long (zL zw)), (0, .ref (ad (40, 0, 0, 0))), (3, .int (zI k))]) dX7_digest_484 rfl (by decide) (fun _ => rfl) (fun v484 e484 => ?_)
                          refine G_iinc_e (pc := 485) 2 (fun zw => [(3, .int (zI zw)), (1, .long (zL v484)), (0, .ref (ad (40, 0, 0, 0)))]) dX7_digest_485 rfl (by decide) (fun _ => rfl) (fun v485 e485 => ?_)
                          refine G_goto (pc := 488) 461 dX7_digest_488 (by decide) ?_
                          refine G_perm (lv' := [(0, .ref (ad (40, 0, 0, 0))), (1, .long (zL v484)), (3, .int (zI v485))]) [2, 1, 0] rfl ?_
                          exact ih461 v484 v485  ⟨by omega, by rw [e485, e484, ← hi461.2, lp_step (a := k) (n := 5 * S1_2 (40, 0, 0, 0) 32) (by omega)]; rfl⟩ (by omega)
                    refine G_perm (lv' := [(0, .ref (ad (40, 0, 0, 0))), (1, .long (zL d8)), (3, .int (zI v460))]) [1, 2, 0] rfl ?_
                    exact L461 _ d8 v460  ⟨by omega, by rw [e460]⟩ (Nat.lt_succ_self _)
                  · refine G_iconst (pc := 422) dX7_digest_422 ?_
                    refine G_istore_e (pc := 423) (fun zw => [(4, .int (zI zw)), (0, .ref (ad (40, 0, 0, 0))), (1, .long (zL d8)), (3, .int (zI g2))]) dX7_digest_423 (by decide) (fun _ => rfl) (fun v423 e423 => ?_)
                    have L425 : ∀ (n : Nat) (d9 : Int) (r : Int), ((0 ≤ r ∧ r ≤ 6) ∧ lp (mxr Q S1_2 g2) r 6 d9 = mxn Q S1_2 g2 d8) → (6 - r).toNat < n → G Γ (zRm 9 16 160) cX7_digest 8 RX7 ad (mm (z_d Γ) ad P S1_2 X) nc ns 425 [(0, .ref (ad (40, 0, 0, 0))), (1, .long (zL d9)), (3, .int (zI g2)), (4, .int (zI r))] [] := by
                      intro n
                      induction n with
                      | zero => intro d9 r _ hn; omega
                      | succ n ih425 =>
                        intro d9 r hi425 hn425
                        refine G_iload (pc := 425) 3 dX7_digest_425 rfl ?_
                        refine G_bipush (pc := 427) dX7_digest_427 (by decide) ?_
                        refine G_icmp_ge (pc := 429) 453 dX7_digest_429 (by decide) (by first | exact hS _ _ | exact hT _ _ | exact ⟨by omega, by omega⟩ | assumption | exact zWM.r (by assumption) _ _ (by decide) | exact mom_R (by assumption)) (by first | exact hS _ _ | exact hT _ _ | exact ⟨by omega, by omega⟩ | assumption | exact zWM.r (by assumption) _ _ (by decide) | exact mom_R (by assumption)) (fun c429 => ?_) (fun c429 => ?_)
                        · have hx6 : mxn Q S1_2 g2 d8 = d9 := by rw [← hi425.2, lp_end (by omega)]
                          refine G_iinc_e (pc := 453) 2 (fun zw => [(3, .int (zI zw)), (0, .ref (ad (40, 0, 0, 0))), (1, .long (zL d9)), (4, .int (zI r))]) dX7_digest_453 rfl (by decide) (fun _ => rfl) (fun v453 e453 => ?_)
                          refine G_goto (pc := 456) 414 dX7_digest_456 (by decide) ?_
                          refine G_perm (lv' := [(0, .ref (ad (40, 0, 0, 0))), (1, .long (zL d9)), (3, .int (zI v453))]) [1, 2, 0] rfl ?_
                          exact ih414 d9 v453  ⟨by omega, by rw [e453, ← hi414.2, lp_step (a := g2) (n := Q 3 0 0) (by omega), hx6]⟩ (by omega)
                        · have hg : 0 ≤ g2 ∧ g2 < Q 3 0 0 := by omega
                          refine G_lload_n (pc := 432) 1 1 dX7_digest_432 rfl rfl ?_
                          refine G_ldc2 (pc := 433) cl7_251 dX7_digest_433 ?_
                          refine G_lmul (pc := 436) dX7_digest_436 ?_
                          refine G_aload_n (pc := 437) 0 0 dX7_digest_437 rfl rfl ?_
                          refine G_iload_n (pc := 438) 3 2 dX7_digest_438 rfl rfl ?_
                          refine G_iload (pc := 439) 3 dX7_digest_439 rfl ?_
                          refine G_callVd (pc := 441) gk_X7_240 dX7_digest_441 mg_40 rfl (c_X7_wouldNow (Q := Q) (by first | assumption | omega | exact ⟨by omega, by omega⟩ | exact hS _ _ | exact hT _ _) (by first | assumption | omega | exact ⟨by omega, by omega⟩ | exact hS _ _ | exact hT _ _) (by first | assumption | omega | exact ⟨by omega, by omega⟩ | exact hS _ _ | exact hT _ _) (by first | assumption | omega | exact ⟨by omega, by omega⟩ | exact hS _ _ | exact hT _ _)) rfl rfl (Nat.le_of_ble_eq_true rfl) ⟨⟨Nat.le_of_ble_eq_true rfl, Nat.le_of_ble_eq_true rfl⟩, (by show nc + 0 ≤ 16; omega), (by show ns + 0 ≤ 160; omega)⟩ ?_
                          have hb441 := mwn_le (Q := Q) (g := g2) (r := r) hVS1_2
                          refine G_i2l (pc := 444) dX7_digest_444 (by first | exact hS _ _ | exact hT _ _ | exact ⟨by omega, by omega⟩ | assumption | exact zWM.r (by assumption) _ _ (by decide) | exact mom_R (by assumption)) ?_
                          refine G_ladd (pc := 445) dX7_digest_445 ?_
                          refine G_lstore_ne (pc := 446) 1 (fun zw => [(1, .long (zL zw)), (0, .ref (ad (40, 0, 0, 0))), (3, .int (zI g2)), (4, .int (zI r))]) dX7_digest_446 rfl (by decide) (fun _ => rfl) (fun v446 e446 => ?_)
                          refine G_iinc_e (pc := 447) 3 (fun zw => [(4, .int (zI zw)), (1, .long (zL v446)), (0, .ref (ad (40, 0, 0, 0))), (3, .int (zI g2))]) dX7_digest_447 rfl (by decide) (fun _ => rfl) (fun v447 e447 => ?_)
                          refine G_goto (pc := 450) 425 dX7_digest_450 (by decide) ?_
                          refine G_perm (lv' := [(0, .ref (ad (40, 0, 0, 0))), (1, .long (zL v446)), (3, .int (zI g2)), (4, .int (zI v447))]) [2, 1, 3, 0] rfl ?_
                          exact ih425 v446 v447  ⟨by omega, by rw [e447, e446, ← hi425.2, lp_step (a := r) (n := 6) (by omega)]; rfl⟩ (by omega)
                    refine G_perm (lv' := [(0, .ref (ad (40, 0, 0, 0))), (1, .long (zL d8)), (3, .int (zI g2)), (4, .int (zI v423))]) [1, 2, 3, 0] rfl ?_
                    exact L425 _ d8 v423  ⟨by omega, by rw [e423]; rfl⟩ (Nat.lt_succ_self _)
              refine G_perm (lv' := [(0, .ref (ad (40, 0, 0, 0))), (1, .long (zL d5)), (3, .int (zI v413))]) [1, 2, 0] rfl ?_
              exact L414 _ d5 v413  ⟨by omega, by rw [e413]⟩ (Nat.lt_succ_self _)
            · have hg : 0 ≤ g ∧ g < Q 3 0 0 := by omega
              have hqg := hVS1_2.qg hg
              have hqtg := hVS1_2.qt hqg
              have hgn := hVS1_2.gn hg
              have hgt := hVS1_2.gt hg
              refine G_lload_n (pc := 220) 1 1 dX7_digest_220 rfl rfl ?_
              refine G_ldc2 (pc := 221) cl7_251 dX7_digest_221 ?_
              refine G_lmul (pc := 224) dX7_digest_224 ?_
              refine G_aload_n (pc := 225) 0 0 dX7_digest_225 rfl rfl ?_
              refine G_iload_n (pc := 226) 3 2 dX7_digest_226 rfl rfl ?_
              refine G_iconst (pc := 227) dX7_digest_227 ?_
              refine G_callVd (pc := 228) gk_X7_237 dX7_digest_228 mg_40 rfl (c_X7_countOf (Q := Q) (by first | assumption | omega | exact ⟨by omega, by omega⟩ | exact hS _ _ | exact hT _ _) (by first | assumption | omega | exact ⟨by omega, by omega⟩ | exact hS _ _ | exact hT _ _) (by first | assumption | omega | exact ⟨by omega, by omega⟩ | exact hS _ _ | exact hT _ _)) rfl rfl (Nat.le_of_ble_eq_true rfl) ⟨⟨Nat.le_of_ble_eq_true rfl, Nat.le_of_ble_eq_true rfl⟩, (by show nc + 0 ≤ 16; omega), (by show ns + 0 ≤ 160; omega)⟩ ?_
              have hco := mco_le hVS1_2 (g := g) (x := 4)
              refine G_i2l (pc := 231) dX7_digest_231 (by first | exact hS _ _ | exact hT _ _ | exact ⟨by omega, by omega⟩ | assumption | exact zWM.r (by assumption) _ _ (by decide) | exact mom_R (by assumption)) ?_
              refine G_ladd (pc := 232) dX7_digest_232 ?_
              refine G_ldc2 (pc := 233) cl7_251 dX7_digest_233 ?_
              refine G_lmul (pc := 236) dX7_digest_236 ?_
              refine G_aload_n (pc := 237) 0 0 dX7_digest_237 rfl rfl ?_
              refine G_iload_n (pc := 238) 3 2 dX7_digest_238 rfl rfl ?_
              refine G_callVd (pc := 239) gk_X7_246 dX7_digest_239 mg_40 rfl (c_X7_nextNow (Q := Q) (by first | assumption | omega | exact ⟨by omega, by omega⟩ | exact hS _ _ | exact hT _ _) (by first | assumption | omega | exact ⟨by omega, by omega⟩ | exact hS _ _ | exact hT _ _) (by first | assumption | omega | exact ⟨by omega, by omega⟩ | exact hS _ _ | exact hT _ _)) rfl rfl (Nat.le_of_ble_eq_true rfl) ⟨⟨Nat.le_of_ble_eq_true rfl, Nat.le_of_ble_eq_true rfl⟩, (by show nc + 0 ≤ 16; omega), (by show ns + 0 ≤ 160; omega)⟩ ?_
              have hb239 := mnn_le (Q := Q) (g := g) hVS1_2
              refine G_i2l (pc := 242) dX7_digest_242 (by first | exact hS _ _ | exact hT _ _ | exact ⟨by omega, by omega⟩ | assumption | exact zWM.r (by assumption) _ _ (by decide) | exact mom_R (by assumption)) ?_
              refine G_ladd (pc := 243) dX7_digest_243 ?_
              refine G_lstore_ne (pc := 244) 1 (fun zw => [(1, .long (zL zw)), (0, .ref (ad (40, 0, 0, 0))), (3, .int (zI g))]) dX7_digest_244 rfl (by decide) (fun _ => rfl) (fun v244 e244 => ?_)
              refine G_iconst (pc := 245) dX7_digest_245 ?_
              refine G_istore_e (pc := 246) (fun zw => [(4, .int (zI zw)), (1, .long (zL v244)), (0, .ref (ad (40, 0, 0, 0))), (3, .int (zI g))]) dX7_digest_246 (by decide) (fun _ => rfl) (fun v246 e246 => ?_)
              have L248 : ∀ (n : Nat) (d6 : Int) (p : Int), ((0 ≤ p ∧ p ≤ Q 1 (Q 4 g 0) 0) ∧ lp (mxq Q S1_2 g) p (Q 1 (Q 4 g 0) 0) d6 = mxg Q S1_2 g d5) → (Q 1 (Q 4 g 0) 0 - p).toNat < n → G Γ (zRm 9 16 160) cX7_digest 8 RX7 ad (mm (z_d Γ) ad P S1_2 X) nc ns 248 [(0, .ref (ad (40, 0, 0, 0))), (1, .long (zL d6)), (3, .int (zI g)), (4, .int (zI p))] [] := by
                intro n
                induction n with
                | zero => intro d6 p _ hn; omega
                | succ n ih248 =>
                  intro d6 p hi248 hn248
                  refine G_iload (pc := 248) 3 dX7_digest_248 rfl ?_
                  refine G_aload_n (pc := 250) 0 0 dX7_digest_250 rfl rfl ?_
                  refine G_getf (pc := 251) fl_X7_16 dX7_digest_251 mg_40 rfl ?_
                  refine G_aload_n (pc := 254) 0 0 dX7_digest_254 rfl rfl ?_
                  refine G_getf (pc := 255) fl_X7_66 dX7_digest_255 mg_40 rfl ?_
                  refine G_iload_n (pc := 258) 3 2 dX7_digest_258 rfl rfl ?_
                  refine G_iald (pc := 259) dX7_digest_259 mg_64 ⟨by omega, by omega, by omega, by omega⟩ ?_
                  have hb259 := hVS1_2.b64 (g)
                  refine G_iald (pc := 260) dX7_digest_260 mg_45 ⟨by omega, by omega, by omega, by omega⟩ ?_
                  have hb260 := hVS1_2.b45 (S1_2 (64, 0, 0, 0) g)
                  refine G_icmp_ge (pc := 261) 406 dX7_digest_261 (by decide) (by first | exact hS _ _ | exact hT _ _ | exact ⟨by omega, by omega⟩ | assumption | exact zWM.r (by assumption) _ _ (by decide) | exact mom_R (by assumption)) (by first | exact hS _ _ | exact hT _ _ | exact ⟨by omega, by omega⟩ | assumption | exact zWM.r (by assumption) _ _ (by decide) | exact mom_R (by assumption)) (fun c261 => ?_) (fun c261 => ?_)
                  · have hx5 : mxg Q S1_2 g d5 = d6 := by rw [← hi248.2, lp_end (by omega)]
                    refine G_iinc_e (pc := 406) 2 (fun zw => [(3, .int (zI zw)), (0, .ref (ad (40, 0, 0, 0))), (1, .long (zL d6)), (4, .int (zI p))]) dX7_digest_406 rfl (by decide) (fun _ => rfl) (fun v406 e406 => ?_)
                    refine G_goto (pc := 409) 212 dX7_digest_409 (by decide) ?_
                    refine G_perm (lv' := [(0, .ref (ad (40, 0, 0, 0))), (1, .long (zL d6)), (3, .int (zI v406))]) [1, 2, 0] rfl ?_
                    exact ih212 d6 v406  ⟨by omega, by rw [e406, ← hi212.2, lp_step (a := g) (n := Q 3 0 0) (by omega), hx5]⟩ (by omega)
                  · have hp : 0 ≤ p ∧ p < Q 1 (Q 4 g 0) 0 := by omega
                    have hqm := hVS1_2.qm hqg hp
                    have hen := hVS1_2.en hqg hp
                    refine G_iload_n (pc := 264) 3 2 dX7_digest_264 rfl rfl ?_
                    refine G_iconst (pc := 265) dX7_digest_265 ?_
                    refine G_imul (pc := 266) dX7_digest_266 ?_
                    refine G_iload (pc := 267) 3 dX7_digest_267 rfl ?_
                    refine G_iadd (pc := 269) dX7_digest_269 ?_
                    refine G_istore (pc := 270) [(5, .int (zI ((g * 4) + p))), (0, .ref (ad (40, 0, 0, 0))), (1, .long (zL d6)), (3, .int (zI g)), (4, .int (zI p))] dX7_digest_270 (by decide) rfl ?_
                    refine G_lload_n (pc := 272) 1 2 dX7_digest_272 rfl rfl ?_
                    refine G_ldc2 (pc := 273) cl7_251 dX7_digest_273 ?_
                    refine G_lmul (pc := 276) dX7_digest_276 ?_
                    refine G_aload_n (pc := 277) 0 1 dX7_digest_277 rfl rfl ?_
                    refine G_getf (pc := 278) fl_X7_75 dX7_digest_278 mg_40 rfl ?_
                    refine G_iload (pc := 281) 0 dX7_digest_281 rfl ?_
                    refine G_iald (pc := 283) dX7_digest_283 mg_67 ⟨by omega, by omega, by omega, by omega⟩ ?_
                    have hb283 := hVS1_2.b67 ((g * 4) + p)
                    refine G_i2l (pc := 284) dX7_digest_284 (by first | exact hS _ _ | exact hT _ _ | exact ⟨by omega, by omega⟩ | assumption | exact zWM.r (by assumption) _ _ (by decide) | exact mom_R (by assumption)) ?_
                    refine G_ladd (pc := 285) dX7_digest_285 ?_
                    refine G_ldc2 (pc := 286) cl7_251 dX7_digest_286 ?_
                    refine G_lmul (pc := 289) dX7_digest_289 ?_
                    refine G_aload_n (pc := 290) 0 1 dX7_digest_290 rfl rfl ?_
                    refine G_getf (pc := 291) fl_X7_69 dX7_digest_291 mg_40 rfl ?_
                    refine G_iload (pc := 294) 0 dX7_digest_294 rfl ?_
                    refine G_iald (pc := 296) dX7_digest_296 mg_65 ⟨by omega, by omega, by omega, by omega⟩ ?_
                    have hb296 := hVS1_2.b65 ((g * 4) + p)
                    refine G_i2l (pc := 297) dX7_digest_297 (by first | exact hS _ _ | exact hT _ _ | exact ⟨by omega, by omega⟩ | assumption | exact zWM.r (by assumption) _ _ (by decide) | exact mom_R (by assumption)) ?_
                    refine G_ladd (pc := 298) dX7_digest_298 ?_
                    refine G_ldc2 (pc := 299) cl7_251 dX7_digest_299 ?_
                    refine G_lmul (pc := 302) dX7_digest_302 ?_
                    refine G_aload_n (pc := 303) 0 1 dX7_digest_303 rfl rfl ?_
                    refine G_getf (pc := 304) fl_X7_72 dX7_digest_304 mg_40 rfl ?_
                    refine G_iload (pc := 307) 0 dX7_digest_307 rfl ?_
                    refine G_iald (pc := 309) dX7_digest_309 mg_66 ⟨by omega, by omega, by omega, by omega⟩ ?_
                    have hb309 := hVS1_2.b66 ((g * 4) + p)
                    refine G_i2l (pc := 310) dX7_digest_310 (by first | exact hS _ _ | exact hT _ _ | exact ⟨by omega, by omega⟩ | assumption | exact zWM.r (by assumption) _ _ (by decide) | exact mom_R (by assumption)) ?_
                    refine G_ladd (pc := 311) dX7_digest_311 ?_
                    refine G_ldc2 (pc := 312) cl7_251 dX7_digest_312 ?_
                    refine G_lmul (pc := 315) dX7_digest_315 ?_
                    refine G_aload_n (pc := 316) 0 1 dX7_digest_316 rfl rfl ?_
                    refine G_iload_n (pc := 317) 3 3 dX7_digest_317 rfl rfl ?_
                    refine G_iload (pc := 318) 4 dX7_digest_318 rfl ?_
                    refine G_callVd (pc := 320) gk_X7_234 dX7_digest_320 mg_40 rfl (c_X7_lagNow (Q := Q) (by first | assumption | omega | exact ⟨by omega, by omega⟩ | exact hS _ _ | exact hT _ _) (by first | assumption | omega | exact ⟨by omega, by omega⟩ | exact hS _ _ | exact hT _ _) (by first | assumption | omega | exact ⟨by omega, by omega⟩ | exact hS _ _ | exact hT _ _) (by first | assumption | omega | exact ⟨by omega, by omega⟩ | exact hS _ _ | exact hT _ _)) rfl rfl (Nat.le_of_ble_eq_true rfl) ⟨⟨Nat.le_of_ble_eq_true rfl, Nat.le_of_ble_eq_true rfl⟩, (by show nc + 0 ≤ 16; omega), (by show ns + 0 ≤ 160; omega)⟩ ?_
                    have hlg := mlg_le hVS1_2 (g := g) (p := p)
                    refine G_i2l (pc := 323) dX7_digest_323 (by first | exact hS _ _ | exact hT _ _ | exact ⟨by omega, by omega⟩ | assumption | exact zWM.r (by assumption) _ _ (by decide) | exact mom_R (by assumption)) ?_
                    refine G_ladd (pc := 324) dX7_digest_324 ?_
                    refine G_lstore_ne (pc := 325) 1 (fun zw => [(1, .long (zL zw)), (5, .int (zI ((g * 4) + p))), (0, .ref (ad (40, 0, 0, 0))), (3, .int (zI g)), (4, .int (zI p))]) dX7_digest_325 rfl (by decide) (fun _ => rfl) (fun v325 e325 => ?_)
                    refine G_iconst (pc := 326) dX7_digest_326 ?_
                    refine G_istore_e (pc := 327) (fun zw => [(6, .int (zI zw)), (1, .long (zL v325)), (5, .int (zI ((g * 4) + p))), (0, .ref (ad (40, 0, 0, 0))), (3, .int (zI g)), (4, .int (zI p))]) dX7_digest_327 (by decide) (fun _ => rfl) (fun v327 e327 => ?_)
                    have L329 : ∀ (n : Nat) (d7 : Int) (o : Int), ((0 ≤ o ∧ o ≤ Q 2 (Q 4 g 0) p) ∧ lp (mxs Q S1_2 g p) o (Q 2 (Q 4 g 0) p) d7 = mxq Q S1_2 g p d6) → (Q 2 (Q 4 g 0) p - o).toNat < n → G Γ (zRm 9 16 160) cX7_digest 8 RX7 ad (mm (z_d Γ) ad P S1_2 X) nc ns 329 [(0, .ref (ad (40, 0, 0, 0))), (1, .long (zL d7)), (3, .int (zI g)), (4, .int (zI p)), (5, .int (zI ((g * 4) + p))), (6, .int (zI o))] [] := by
                      intro n
                      induction n with
                      | zero => intro d7 o _ hn; omega
                      | succ n ih329 =>
                        intro d7 o hi329 hn329
                        refine G_iload (pc := 329) 5 dX7_digest_329 rfl ?_
                        refine G_aload_n (pc := 331) 0 0 dX7_digest_331 rfl rfl ?_
                        refine G_getf (pc := 332) fl_X7_26 dX7_digest_332 mg_40 rfl ?_
                        refine G_aload_n (pc := 335) 0 0 dX7_digest_335 rfl rfl ?_
                        refine G_iload_n (pc := 336) 3 2 dX7_digest_336 rfl rfl ?_
                        refine G_iload (pc := 337) 3 dX7_digest_337 rfl ?_
                        refine G_callVd (pc := 339) gk_X7_201 dX7_digest_339 mg_40 rfl (c_X7_whereOf (Q := Q) (by first | assumption | omega | exact ⟨by omega, by omega⟩ | exact hS _ _ | exact hT _ _) (by first | assumption | omega | exact ⟨by omega, by omega⟩ | exact hS _ _ | exact hT _ _)) rfl rfl (Nat.le_of_ble_eq_true rfl) ⟨⟨Nat.le_of_ble_eq_true rfl, Nat.le_of_ble_eq_true rfl⟩, (by show nc + 0 ≤ 16; omega), (by show ns + 0 ≤ 160; omega)⟩ ?_
                        refine G_iald (pc := 342) dX7_digest_342 mg_48 ⟨by omega, by omega, by omega, by omega⟩ ?_
                        have hb342 := hVS1_2.b48 (Q 4 g 0 * 4 + p)
                        refine G_icmp_ge (pc := 343) 400 dX7_digest_343 (by decide) (by first | exact hS _ _ | exact hT _ _ | exact ⟨by omega, by omega⟩ | assumption | exact zWM.r (by assumption) _ _ (by decide) | exact mom_R (by assumption)) (by first | exact hS _ _ | exact hT _ _ | exact ⟨by omega, by omega⟩ | assumption | exact zWM.r (by assumption) _ _ (by decide) | exact mom_R (by assumption)) (fun c343 => ?_) (fun c343 => ?_)
                        · have hx4 : mxq Q S1_2 g p d6 = d7 := by rw [← hi329.2, lp_end (by omega)]
                          refine G_iinc_e (pc := 400) 3 (fun zw => [(4, .int (zI zw)), (0, .ref (ad (40, 0, 0, 0))), (1, .long (zL d7)), (3, .int (zI g)), (5, .int (zI ((g * 4) + p))), (6, .int (zI o))]) dX7_digest_400 rfl (by decide) (fun _ => rfl) (fun v400 e400 => ?_)
                          refine G_goto (pc := 403) 248 dX7_digest_403 (by decide) ?_
                          refine G_perm (lv' := [(0, .ref (ad (40, 0, 0, 0))), (1, .long (zL d7)), (3, .int (zI g)), (4, .int (zI v400))]) [1, 2, 3, 0] rfl ?_
                          exact ih248 d7 v400  ⟨by omega, by rw [e400, ← hi248.2, lp_step (a := p) (n := Q 1 (Q 4 g 0) 0) (by omega), hx4]⟩ (by omega)
                        · refine G_iload_n (pc := 346) 3 2 dX7_digest_346 rfl rfl ?_
                          refine G_bipush (pc := 347) dX7_digest_347 (by decide) ?_
                          refine G_imul (pc := 349) dX7_digest_349 ?_
                          refine G_aload_n (pc := 350) 0 0 dX7_digest_350 rfl rfl ?_
                          refine G_aload_n (pc := 351) 0 0 dX7_digest_351 rfl rfl ?_
                          refine G_iload_n (pc := 352) 3 2 dX7_digest_352 rfl rfl ?_
                          refine G_iload (pc := 353) 3 dX7_digest_353 rfl ?_
                          refine G_callVd (pc := 355) gk_X7_201 dX7_digest_355 mg_40 rfl (c_X7_whereOf (Q := Q) (by first | assumption | omega | exact ⟨by omega, by omega⟩ | exact hS _ _ | exact hT _ _) (by first | assumption | omega | exact ⟨by omega, by omega⟩ | exact hS _ _ | exact hT _ _)) rfl rfl (Nat.le_of_ble_eq_true rfl) ⟨⟨Nat.le_of_ble_eq_true rfl, Nat.le_of_ble_eq_true rfl⟩, (by show nc + 0 ≤ 16; omega), (by show ns + 0 ≤ 160; omega)⟩ ?_
                          refine G_iload (pc := 358) 5 dX7_digest_358 rfl ?_
                          refine G_callVd (pc := 360) gk_X7_113 dX7_digest_360 mg_40 rfl (c_X7_messageAt (Q := Q) (by first | assumption | omega | exact ⟨by omega, by omega⟩ | exact hS _ _ | exact hT _ _) (by first | assumption | omega | exact ⟨by omega, by omega⟩ | exact hS _ _ | exact hT _ _) (by first | assumption | omega | exact ⟨by omega, by omega⟩ | exact hS _ _ | exact hT _ _)) rfl rfl (Nat.le_of_ble_eq_true rfl) ⟨⟨Nat.le_of_ble_eq_true rfl, Nat.le_of_ble_eq_true rfl⟩, (by show nc + 0 ≤ 16; omega), (by show ns + 0 ≤ 160; omega)⟩ ?_
                          have hb360 := hVS1_2.b59 ((Q 4 g 0 * 4 + p) * 80 + o)
                          refine G_iadd (pc := 363) dX7_digest_363 ?_
                          refine G_istore (pc := 364) [(7, .int (zI ((g * 80) + (S1_2 (59, 0, 0, 0) ((Q 4 g 0 * 4 + p) * 80 + o))))), (0, .ref (ad (40, 0, 0, 0))), (1, .long (zL d7)), (3, .int (zI g)), (4, .int (zI p)), (5, .int (zI ((g * 4) + p))), (6, .int (zI o))] dX7_digest_364 (by decide) rfl ?_
                          refine G_lload_n (pc := 366) 1 2 dX7_digest_366 rfl rfl ?_
                          refine G_ldc2 (pc := 367) cl7_251 dX7_digest_367 ?_
                          refine G_lmul (pc := 370) dX7_digest_370 ?_
                          refine G_aload_n (pc := 371) 0 1 dX7_digest_371 rfl rfl ?_
                          refine G_getf (pc := 372) fl_X7_81 dX7_digest_372 mg_40 rfl ?_
                          refine G_iload (pc := 375) 0 dX7_digest_375 rfl ?_
                          refine G_iald (pc := 377) dX7_digest_377 mg_69 ⟨by omega, by omega, by omega, by omega⟩ ?_
                          have hb377 := hVS1_2.b69 ((g * 80) + (S1_2 (59, 0, 0, 0) ((Q 4 g 0 * 4 + p) * 80 + o)))
                          refine G_i2l (pc := 378) dX7_digest_378 (by first | exact hS _ _ | exact hT _ _ | exact ⟨by omega, by omega⟩ | assumption | exact zWM.r (by assumption) _ _ (by decide) | exact mom_R (by assumption)) ?_
                          refine G_ladd (pc := 379) dX7_digest_379 ?_
                          refine G_ldc2 (pc := 380) cl7_251 dX7_digest_380 ?_
                          refine G_lmul (pc := 383) dX7_digest_383 ?_
                          refine G_aload_n (pc := 384) 0 1 dX7_digest_384 rfl rfl ?_
                          refine G_getf (pc := 385) fl_X7_84 dX7_digest_385 mg_40 rfl ?_
                          refine G_iload (pc := 388) 0 dX7_digest_388 rfl ?_
                          refine G_iald (pc := 390) dX7_digest_390 mg_70 ⟨by omega, by omega, by omega, by omega⟩ ?_
                          have hb390 := hVS1_2.b70 ((g * 80) + (S1_2 (59, 0, 0, 0) ((Q 4 g 0 * 4 + p) * 80 + o)))
                          refine G_i2l (pc := 391) dX7_digest_391 (by first | exact hS _ _ | exact hT _ _ | exact ⟨by omega, by omega⟩ | assumption | exact zWM.r (by assumption) _ _ (by decide) | exact mom_R (by assumption)) ?_
                          refine G_ladd (pc := 392) dX7_digest_392 ?_
                          refine G_lstore_ne (pc := 393) 1 (fun zw => [(1, .long (zL zw)), (7, .int (zI ((g * 80) + (S1_2 (59, 0, 0, 0) ((Q 4 g 0 * 4 + p) * 80 + o))))), (0, .ref (ad (40, 0, 0, 0))), (3, .int (zI g)), (4, .int (zI p)), (5, .int (zI ((g * 4) + p))), (6, .int (zI o))]) dX7_digest_393 rfl (by decide) (fun _ => rfl) (fun v393 e393 => ?_)
                          refine G_iinc_e (pc := 394) 6 (fun zw => [(6, .int (zI zw)), (1, .long (zL v393)), (7, .int (zI ((g * 80) + (S1_2 (59, 0, 0, 0) ((Q 4 g 0 * 4 + p) * 80 + o))))), (0, .ref (ad (40, 0, 0, 0))), (3, .int (zI g)), (4, .int (zI p)), (5, .int (zI ((g * 4) + p)))]) dX7_digest_394 rfl (by decide) (fun _ => rfl) (fun v394 e394 => ?_)
                          refine G_goto (pc := 397) 329 dX7_digest_397 (by decide) ?_
                          refine G_perm (lv' := [(0, .ref (ad (40, 0, 0, 0))), (1, .long (zL v393)), (3, .int (zI g)), (4, .int (zI p)), (5, .int (zI ((g * 4) + p))), (6, .int (zI v394))]) [3, 1, 4, 5, 6, 0] rfl ?_
                          exact ih329 v393 v394  ⟨by omega, by rw [e394, e393, ← hi329.2, lp_step (a := o) (n := Q 2 (Q 4 g 0) p) (by omega)]; rfl⟩ (by omega)
                    refine G_perm (lv' := [(0, .ref (ad (40, 0, 0, 0))), (1, .long (zL v325)), (3, .int (zI g)), (4, .int (zI p)), (5, .int (zI ((g * 4) + p))), (6, .int (zI v327))]) [3, 1, 4, 5, 2, 0] rfl ?_
                    exact L329 _ v325 v327  ⟨by omega, by rw [e327, e325]; rfl⟩ (Nat.lt_succ_self _)
              refine G_perm (lv' := [(0, .ref (ad (40, 0, 0, 0))), (1, .long (zL v244)), (3, .int (zI g)), (4, .int (zI v246))]) [2, 1, 3, 0] rfl ?_
              exact L248 _ v244 v246  ⟨by omega, by rw [e246, e244]; rfl⟩ (Nat.lt_succ_self _)
        refine G_perm (lv' := [(0, .ref (ad (40, 0, 0, 0))), (1, .long (zL d)), (3, .int (zI v211))]) [1, 2, 0] rfl ?_
        exact L212 _ d v211  ⟨by omega, by rw [e211]⟩ (Nat.lt_succ_self _)
      · have ht : 0 ≤ t ∧ t < Q 0 0 0 := by omega
        have hqt := hVS1_2.qt ht
        have hpn := hVS1_2.pn ht
        refine G_lload_n (pc := 55) 1 1 dX7_digest_55 rfl rfl ?_
        refine G_ldc2 (pc := 56) cl7_251 dX7_digest_56 ?_
        refine G_lmul (pc := 59) dX7_digest_59 ?_
        refine G_aload_n (pc := 60) 0 0 dX7_digest_60 rfl rfl ?_
        refine G_iload_n (pc := 61) 3 2 dX7_digest_61 rfl rfl ?_
        refine G_callVd (pc := 62) gk_X7_188 dX7_digest_62 mg_40 rfl (c_X7_keptNow (Q := Q) (by first | assumption | omega | exact ⟨by omega, by omega⟩ | exact hS _ _ | exact hT _ _) (by first | assumption | omega | exact ⟨by omega, by omega⟩ | exact hS _ _ | exact hT _ _) (by first | assumption | omega | exact ⟨by omega, by omega⟩ | exact hS _ _ | exact hT _ _)) rfl rfl (Nat.le_of_ble_eq_true rfl) ⟨⟨Nat.le_of_ble_eq_true rfl, Nat.le_of_ble_eq_true rfl⟩, (by show nc + 0 ≤ 16; omega), (by show ns + 0 ≤ 160; omega)⟩ ?_
        have hkn := mkn_le hVS1_2 (t := t)
        refine G_i2l (pc := 65) dX7_digest_65 (by first | exact hS _ _ | exact hT _ _ | exact ⟨by omega, by omega⟩ | assumption | exact zWM.r (by assumption) _ _ (by decide) | exact mom_R (by assumption)) ?_
        refine G_ladd (pc := 66) dX7_digest_66 ?_
        refine G_ldc2 (pc := 67) cl7_251 dX7_digest_67 ?_
        refine G_lmul (pc := 70) dX7_digest_70 ?_
        refine G_aload_n (pc := 71) 0 0 dX7_digest_71 rfl rfl ?_
        refine G_iload_n (pc := 72) 3 2 dX7_digest_72 rfl rfl ?_
        refine G_iconst (pc := 73) dX7_digest_73 ?_
        refine G_callVdA (pc := 74) gk_X7_165 dX7_digest_74 mg_40 rfl (c_X7_cleaned0 (Q := Q) (by first | assumption | omega | exact ⟨by omega, by omega⟩ | exact hS _ _ | exact hT _ _) (by first | assumption | omega | exact ⟨by omega, by omega⟩ | exact hS _ _ | exact hT _ _) (by first | assumption | omega | exact ⟨by omega, by omega⟩ | exact hS _ _ | exact hT _ _) (by first | assumption | omega | exact ⟨by omega, by omega⟩ | exact hS _ _ | exact hT _ _)) rfl rfl (Nat.le_of_ble_eq_true rfl) ⟨⟨Nat.le_of_ble_eq_true rfl, Nat.le_of_ble_eq_true rfl⟩, (by show nc + 4 ≤ 16; omega), (by show ns + 40 ≤ 160; omega)⟩ ?_
        show G Γ _ _ _ _ _ _ (nc + 4) (ns + 40) _ _ _
        have hb74 := mcl_le hVS1_2 (b := 0) (t := t) ⟨by omega, by omega⟩
        refine G_i2l (pc := 77) dX7_digest_77 (by first | exact hS _ _ | exact hT _ _ | exact ⟨by omega, by omega⟩ | assumption | exact zWM.r (by assumption) _ _ (by decide) | exact mom_R (by assumption)) ?_
        refine G_ladd (pc := 78) dX7_digest_78 ?_
        refine G_lstore_ne (pc := 79) 1 (fun zw => [(1, .long (zL zw)), (0, .ref (ad (40, 0, 0, 0))), (3, .int (zI t))]) dX7_digest_79 rfl (by decide) (fun _ => rfl) (fun v79 e79 => ?_)
        refine G_iload_n (pc := 80) 3 2 dX7_digest_80 rfl rfl ?_
        refine G_iconst (pc := 81) dX7_digest_81 ?_
        refine G_imul (pc := 82) dX7_digest_82 ?_
        refine G_istore_e (pc := 83) (fun zw => [(4, .int (zI zw)), (1, .long (zL v79)), (0, .ref (ad (40, 0, 0, 0))), (3, .int (zI t))]) dX7_digest_83 (by decide) (fun _ => rfl) (fun v83 e83 => ?_)
        have L85 : ∀ (n : Nat) (d2 : Int) (w : Int), ((t * 4 ≤ w ∧ w ≤ t * 4 + Q 1 t 0) ∧ lp (mxp S1_2) w (t * 4 + Q 1 t 0) d2 = mxt Q S1_2 t d) → (t * 4 + Q 1 t 0 - w).toNat < n → G Γ (zRm 9 16 160) cX7_digest 8 RX7 ad (mm (z_d Γ) ad P S1_2 X) (nc + 4) (ns + 40) 85 [(0, .ref (ad (40, 0, 0, 0))), (1, .long (zL d2)), (3, .int (zI t)), (4, .int (zI w))] [] := by
          intro n
          induction n with
          | zero => intro d2 w _ hn; omega
          | succ n ih85 =>
            intro d2 w hi85 hn85
            refine G_iload (pc := 85) 3 dX7_digest_85 rfl ?_
            refine G_iload_n (pc := 87) 3 2 dX7_digest_87 rfl rfl ?_
            refine G_iconst (pc := 88) dX7_digest_88 ?_
            refine G_imul (pc := 89) dX7_digest_89 ?_
            refine G_aload_n (pc := 90) 0 0 dX7_digest_90 rfl rfl ?_
            refine G_getf (pc := 91) fl_X7_16 dX7_digest_91 mg_40 rfl ?_
            refine G_iload_n (pc := 94) 3 2 dX7_digest_94 rfl rfl ?_
            refine G_iald (pc := 95) dX7_digest_95 mg_45 ⟨by omega, by omega, by omega, by omega⟩ ?_
            have hb95 := hVS1_2.b45 (t)
            refine G_iadd (pc := 96) dX7_digest_96 ?_
            refine G_icmp_ge (pc := 97) 204 dX7_digest_97 (by decide) (by first | exact hS _ _ | exact hT _ _ | exact ⟨by omega, by omega⟩ | assumption | exact zWM.r (by assumption) _ _ (by decide) | exact mom_R (by assumption)) (by first | exact hS _ _ | exact hT _ _ | exact ⟨by omega, by omega⟩ | assumption | exact zWM.r (by assumption) _ _ (by decide) | exact mom_R (by assumption)) (fun c97 => ?_) (fun c97 => ?_)
            · have hx3 : mxt Q S1_2 t d = d2 := by rw [← hi85.2, lp_end (by omega)]
              refine G_iinc_e (pc := 204) 2 (fun zw => [(3, .int (zI zw)), (0, .ref (ad (40, 0, 0, 0))), (1, .long (zL d2)), (4, .int (zI w))]) dX7_digest_204 rfl (by decide) (fun _ => rfl) (fun v204 e204 => ?_)
              refine G_goto (pc := 207) 47 dX7_digest_207 (by decide) ?_
              refine G_perm (lv' := [(0, .ref (ad (40, 0, 0, 0))), (1, .long (zL d2)), (3, .int (zI v204))]) [1, 2, 0] rfl ?_
              exact ih47 d2 v204 (nc + 4) (ns + 40)  ⟨⟨by omega, by omega, by omega⟩, by rw [e204, ← hi47.2, lp_step (a := t) (n := Q 0 0 0) (by omega), hx3]⟩ (by omega)
            · have h48 := hVS1_2.b48 w
              have hw16 : 0 ≤ w ∧ w < 16 := by omega
              refine G_lload_n (pc := 100) 1 1 dX7_digest_100 rfl rfl ?_
              refine G_ldc2 (pc := 101) cl7_251 dX7_digest_101 ?_
              refine G_lmul (pc := 104) dX7_digest_104 ?_
              refine G_aload_n (pc := 105) 0 0 dX7_digest_105 rfl rfl ?_
              refine G_getf (pc := 106) fl_X7_23 dX7_digest_106 mg_40 rfl ?_
              refine G_iload (pc := 109) 3 dX7_digest_109 rfl ?_
              refine G_iald (pc := 111) dX7_digest_111 mg_47 ⟨by omega, by omega, by omega, by omega⟩ ?_
              have hb111 := hVS1_2.b47 (w)
              refine G_i2l (pc := 112) dX7_digest_112 (by first | exact hS _ _ | exact hT _ _ | exact ⟨by omega, by omega⟩ | assumption | exact zWM.r (by assumption) _ _ (by decide) | exact mom_R (by assumption)) ?_
              refine G_ladd (pc := 113) dX7_digest_113 ?_
              refine G_ldc2 (pc := 114) cl7_251 dX7_digest_114 ?_
              refine G_lmul (pc := 117) dX7_digest_117 ?_
              refine G_aload_n (pc := 118) 0 0 dX7_digest_118 rfl rfl ?_
              refine G_getf (pc := 119) fl_X7_26 dX7_digest_119 mg_40 rfl ?_
              refine G_iload (pc := 122) 3 dX7_digest_122 rfl ?_
              refine G_iald (pc := 124) dX7_digest_124 mg_48 ⟨by omega, by omega, by omega, by omega⟩ ?_
              have hb124 := hVS1_2.b48 (w)
              refine G_i2l (pc := 125) dX7_digest_125 (by first | exact hS _ _ | exact hT _ _ | exact ⟨by omega, by omega⟩ | assumption | exact zWM.r (by assumption) _ _ (by decide) | exact mom_R (by assumption)) ?_
              refine G_ladd (pc := 126) dX7_digest_126 ?_
              refine G_ldc2 (pc := 127) cl7_251 dX7_digest_127 ?_
              refine G_lmul (pc := 130) dX7_digest_130 ?_
              refine G_aload_n (pc := 131) 0 0 dX7_digest_131 rfl rfl ?_
              refine G_iload (pc := 132) 3 dX7_digest_132 rfl ?_
              refine G_callVd (pc := 134) gk_X7_158 dX7_digest_134 mg_40 rfl (c_X7_stableNow (Q := Q) (by first | assumption | omega | exact ⟨by omega, by omega⟩ | exact hS _ _ | exact hT _ _) (by first | assumption | omega | exact ⟨by omega, by omega⟩ | exact hS _ _ | exact hT _ _) (by first | assumption | omega | exact ⟨by omega, by omega⟩ | exact hS _ _ | exact hT _ _)) rfl rfl (Nat.le_of_ble_eq_true rfl) ⟨⟨Nat.le_of_ble_eq_true rfl, Nat.le_of_ble_eq_true rfl⟩, (by show nc + 4 + 0 ≤ 16; omega), (by show ns + 40 + 0 ≤ 160; omega)⟩ ?_
              have hb134 := fi_le (Q := mEq S1_2 w) (a := 0) (n := S1_2 (48, 0, 0, 0) w) (hVS1_2.b48 w).1
              have hb134 : 0 ≤ mEn S1_2 w ∧ mEn S1_2 w ≤ S1_2 (48, 0, 0, 0) w := hb134
              refine G_i2l (pc := 137) dX7_digest_137 (by first | exact hS _ _ | exact hT _ _ | exact ⟨by omega, by omega⟩ | assumption | exact zWM.r (by assumption) _ _ (by decide) | exact mom_R (by assumption)) ?_
              refine G_ladd (pc := 138) dX7_digest_138 ?_
              refine G_lstore_ne (pc := 139) 1 (fun zw => [(1, .long (zL zw)), (0, .ref (ad (40, 0, 0, 0))), (3, .int (zI t)), (4, .int (zI w))]) dX7_digest_139 rfl (by decide) (fun _ => rfl) (fun v139 e139 => ?_)
              refine G_iconst (pc := 140) dX7_digest_140 ?_
              refine G_istore_e (pc := 141) (fun zw => [(5, .int (zI zw)), (1, .long (zL v139)), (0, .ref (ad (40, 0, 0, 0))), (3, .int (zI t)), (4, .int (zI w))]) dX7_digest_141 (by decide) (fun _ => rfl) (fun v141 e141 => ?_)
              have L143 : ∀ (n : Nat) (d3 : Int) (o : Int), ((0 ≤ o ∧ o ≤ S1_2 (48, 0, 0, 0) w) ∧ lp (mxo S1_2 w) o (S1_2 (48, 0, 0, 0) w) d3 = mxp S1_2 w d2) → (S1_2 (48, 0, 0, 0) w - o).toNat < n → G Γ (zRm 9 16 160) cX7_digest 8 RX7 ad (mm (z_d Γ) ad P S1_2 X) (nc + 4) (ns + 40) 143 [(0, .ref (ad (40, 0, 0, 0))), (1, .long (zL d3)), (3, .int (zI t)), (4, .int (zI w)), (5, .int (zI o))] [] := by
                intro n
                induction n with
                | zero => intro d3 o _ hn; omega
                | succ n ih143 =>
                  intro d3 o hi143 hn143
                  refine G_iload (pc := 143) 4 dX7_digest_143 rfl ?_
                  refine G_aload_n (pc := 145) 0 0 dX7_digest_145 rfl rfl ?_
                  refine G_getf (pc := 146) fl_X7_26 dX7_digest_146 mg_40 rfl ?_
                  refine G_iload (pc := 149) 3 dX7_digest_149 rfl ?_
                  refine G_iald (pc := 151) dX7_digest_151 mg_48 ⟨by omega, by omega, by omega, by omega⟩ ?_
                  have hb151 := hVS1_2.b48 (w)
                  refine G_icmp_ge (pc := 152) 198 dX7_digest_152 (by decide) (by first | exact hS _ _ | exact hT _ _ | exact ⟨by omega, by omega⟩ | assumption | exact zWM.r (by assumption) _ _ (by decide) | exact mom_R (by assumption)) (by first | exact hS _ _ | exact hT _ _ | exact ⟨by omega, by omega⟩ | assumption | exact zWM.r (by assumption) _ _ (by decide) | exact mom_R (by assumption)) (fun c152 => ?_) (fun c152 => ?_)
                  · have hx2 : mxp S1_2 w d2 = d3 := by rw [← hi143.2, lp_end (by omega)]
                    refine G_iinc_e (pc := 198) 3 (fun zw => [(4, .int (zI zw)), (0, .ref (ad (40, 0, 0, 0))), (1, .long (zL d3)), (3, .int (zI t)), (5, .int (zI o))]) dX7_digest_198 rfl (by decide) (fun _ => rfl) (fun v198 e198 => ?_)
                    refine G_goto (pc := 201) 85 dX7_digest_201 (by decide) ?_
                    refine G_perm (lv' := [(0, .ref (ad (40, 0, 0, 0))), (1, .long (zL d3)), (3, .int (zI t)), (4, .int (zI v198))]) [1, 2, 3, 0] rfl ?_
                    exact ih85 d3 v198  ⟨by omega, by rw [e198, ← hi85.2, lp_step (a := w) (n := t * 4 + Q 1 t 0) (by omega), hx2]⟩ (by omega)
                  · refine G_iconst (pc := 155) dX7_digest_155 ?_
                    refine G_istore_e (pc := 156) (fun zw => [(6, .int (zI zw)), (0, .ref (ad (40, 0, 0, 0))), (1, .long (zL d3)), (3, .int (zI t)), (4, .int (zI w)), (5, .int (zI o))]) dX7_digest_156 (by decide) (fun _ => rfl) (fun v156 e156 => ?_)
                    have L158 : ∀ (n : Nat) (d4 : Int) (x : Int), ((0 ≤ x ∧ x ≤ 5) ∧ lp (mxm S1_2 (S1_2 (59, 0, 0, 0) (w * 80 + o))) x 5 d4 = mxo S1_2 w o d3) → (5 - x).toNat < n → G Γ (zRm 9 16 160) cX7_digest 8 RX7 ad (mm (z_d Γ) ad P S1_2 X) (nc + 4) (ns + 40) 158 [(0, .ref (ad (40, 0, 0, 0))), (1, .long (zL d4)), (3, .int (zI t)), (4, .int (zI w)), (5, .int (zI o)), (6, .int (zI x))] [] := by
                      intro n
                      induction n with
                      | zero => intro d4 x _ hn; omega
                      | succ n ih158 =>
                        intro d4 x hi158 hn158
                        refine G_iload (pc := 158) 5 dX7_digest_158 rfl ?_
                        refine G_iconst (pc := 160) dX7_digest_160 ?_
                        refine G_icmp_ge (pc := 161) 192 dX7_digest_161 (by decide) (by first | exact hS _ _ | exact hT _ _ | exact ⟨by omega, by omega⟩ | assumption | exact zWM.r (by assumption) _ _ (by decide) | exact mom_R (by assumption)) (by first | exact hS _ _ | exact hT _ _ | exact ⟨by omega, by omega⟩ | assumption | exact zWM.r (by assumption) _ _ (by decide) | exact mom_R (by assumption)) (fun c161 => ?_) (fun c161 => ?_)
                        · have hx1 : mxo S1_2 w o d3 = d4 := by rw [← hi158.2, lp_end (by omega)]
                          refine G_iinc_e (pc := 192) 4 (fun zw => [(5, .int (zI zw)), (0, .ref (ad (40, 0, 0, 0))), (1, .long (zL d4)), (3, .int (zI t)), (4, .int (zI w)), (6, .int (zI x))]) dX7_digest_192 rfl (by decide) (fun _ => rfl) (fun v192 e192 => ?_)
                          refine G_goto (pc := 195) 143 dX7_digest_195 (by decide) ?_
                          refine G_perm (lv' := [(0, .ref (ad (40, 0, 0, 0))), (1, .long (zL d4)), (3, .int (zI t)), (4, .int (zI w)), (5, .int (zI v192))]) [1, 2, 3, 4, 0] rfl ?_
                          exact ih143 d4 v192  ⟨by omega, by rw [e192, ← hi143.2, lp_step (a := o) (n := S1_2 (48, 0, 0, 0) w) (by omega), hx1]⟩ (by omega)
                        · refine G_lload_n (pc := 164) 1 1 dX7_digest_164 rfl rfl ?_
                          refine G_ldc2 (pc := 165) cl7_251 dX7_digest_165 ?_
                          refine G_lmul (pc := 168) dX7_digest_168 ?_
                          refine G_aload_n (pc := 169) 0 0 dX7_digest_169 rfl rfl ?_
                          refine G_aload_n (pc := 170) 0 0 dX7_digest_170 rfl rfl ?_
                          refine G_iload (pc := 171) 3 dX7_digest_171 rfl ?_
                          refine G_iload (pc := 173) 4 dX7_digest_173 rfl ?_
                          refine G_callVd (pc := 175) gk_X7_113 dX7_digest_175 mg_40 rfl (c_X7_messageAt (Q := Q) (by first | assumption | omega | exact ⟨by omega, by omega⟩ | exact hS _ _ | exact hT _ _) (by first | assumption | omega | exact ⟨by omega, by omega⟩ | exact hS _ _ | exact hT _ _) (by first | assumption | omega | exact ⟨by omega, by omega⟩ | exact hS _ _ | exact hT _ _)) rfl rfl (Nat.le_of_ble_eq_true rfl) ⟨⟨Nat.le_of_ble_eq_true rfl, Nat.le_of_ble_eq_true rfl⟩, (by show nc + 4 + 0 ≤ 16; omega), (by show ns + 40 + 0 ≤ 160; omega)⟩ ?_
                          have hb175 := hVS1_2.b59 (w * 80 + o)
                          refine G_iload (pc := 178) 5 dX7_digest_178 rfl ?_
                          refine G_callVd (pc := 180) gk_X7_185 dX7_digest_180 mg_40 rfl (c_X7_ofMessage (Q := Q) (by first | assumption | omega | exact ⟨by omega, by omega⟩ | exact hS _ _ | exact hT _ _) (by first | assumption | omega | exact ⟨by omega, by omega⟩ | exact hS _ _ | exact hT _ _) (by first | assumption | omega | exact ⟨by omega, by omega⟩ | exact hS _ _ | exact hT _ _) (by first | assumption | omega | exact ⟨by omega, by omega⟩ | exact hS _ _ | exact hT _ _)) rfl rfl (Nat.le_of_ble_eq_true rfl) ⟨⟨Nat.le_of_ble_eq_true rfl, Nat.le_of_ble_eq_true rfl⟩, (by show nc + 4 + 0 ≤ 16; omega), (by show ns + 40 + 0 ≤ 160; omega)⟩ ?_
                          refine G_i2l (pc := 183) dX7_digest_183 (by first | exact hS _ _ | exact hT _ _ | exact ⟨by omega, by omega⟩ | assumption | exact zWM.r (by assumption) _ _ (by decide) | exact mom_R (by assumption)) ?_
                          refine G_ladd (pc := 184) dX7_digest_184 ?_
                          refine G_lstore_ne (pc := 185) 1 (fun zw => [(1, .long (zL zw)), (0, .ref (ad (40, 0, 0, 0))), (3, .int (zI t)), (4, .int (zI w)), (5, .int (zI o)), (6, .int (zI x))]) dX7_digest_185 rfl (by decide) (fun _ => rfl) (fun v185 e185 => ?_)
                          refine G_iinc_e (pc := 186) 5 (fun zw => [(6, .int (zI zw)), (1, .long (zL v185)), (0, .ref (ad (40, 0, 0, 0))), (3, .int (zI t)), (4, .int (zI w)), (5, .int (zI o))]) dX7_digest_186 rfl (by decide) (fun _ => rfl) (fun v186 e186 => ?_)
                          refine G_goto (pc := 189) 158 dX7_digest_189 (by decide) ?_
                          refine G_perm (lv' := [(0, .ref (ad (40, 0, 0, 0))), (1, .long (zL v185)), (3, .int (zI t)), (4, .int (zI w)), (5, .int (zI o)), (6, .int (zI v186))]) [2, 1, 3, 4, 5, 0] rfl ?_
                          exact ih158 v185 v186  ⟨by omega, by rw [e186, e185, ← hi158.2, lp_step (a := x) (n := 5) (by omega)]; rfl⟩ (by omega)
                    refine G_perm (lv' := [(0, .ref (ad (40, 0, 0, 0))), (1, .long (zL d3)), (3, .int (zI t)), (4, .int (zI w)), (5, .int (zI o)), (6, .int (zI v156))]) [1, 2, 3, 4, 5, 0] rfl ?_
                    exact L158 _ d3 v156  ⟨by omega, by rw [e156]; rfl⟩ (Nat.lt_succ_self _)
              refine G_perm (lv' := [(0, .ref (ad (40, 0, 0, 0))), (1, .long (zL v139)), (3, .int (zI t)), (4, .int (zI w)), (5, .int (zI v141))]) [2, 1, 3, 4, 0] rfl ?_
              exact L143 _ v139 v141  ⟨by omega, by rw [e141, e139]; rfl⟩ (Nat.lt_succ_self _)
        refine G_perm (lv' := [(0, .ref (ad (40, 0, 0, 0))), (1, .long (zL v79)), (3, .int (zI t)), (4, .int (zI v83))]) [2, 1, 3, 0] rfl ?_
        exact L85 _ v79 v83  ⟨by omega, by rw [e83, e79]; rfl⟩ (Nat.lt_succ_self _)
  refine G_perm (lv' := [(0, .ref (ad (40, 0, 0, 0))), (1, .long (zL v44)), (3, .int (zI v46))]) [2, 1, 0] rfl ?_
  exact L47 _ v44 v46 0 0  ⟨⟨by omega, by omega, by omega⟩, by rw [e46, show v44 = (zmx (zmx (zmx (zmx 2683 (S1_2 (40, 0, 0, 0) 1)) (Q 0 0 0)) (Q 3 0 0)) (S1_2 (40, 0, 0, 0) 32)) by rw [e44, h4, h23]; unfold zmx; omega]⟩ (Nat.lt_succ_self _)
