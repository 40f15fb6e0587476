/-! ===== the law: the messages of a partition ===== -/
set_option maxHeartbeats 4000000 in
set_option maxRecDepth 100000 in
theorem l_o {Γ : zCx} {ad : zK → Nat} {P : zP} {V : zS} {nc ns b : Nat} {tm rows stp : Int} {w : Int64} {A : zMem} {n p out0 nin many all mk : Int} (hJ : zJ P V) (hR : nc ≤ 600086 ∧ ns ≤ 7301442) (hg : inG P n) (hp : inQ P n p) (ho0 : 0 ≤ out0 ∧ out0 ≤ 1000) (kk : G Γ zRW cL_law 21 RL ad (mm (z_d Γ) ad P V (pm (z_d Γ) ad P V A)) nc ns 489 [(15, .int (zI p)), (14, .int (zI (out0 + zou P V n p))), (13, .int (zI nin)), (12, .int (zI many)), (11, .ref (ad (230, 0, 0, 0))), (10, .int (zI all)), (9, .int (zI (P 4 n 0))), (8, .int (zI n)), (6, .long w), (5, .int (zI stp)), (4, .int (zI rows)), (3, .ref (ad (0, 0, 0, 0))), (2, .ref (ad (200, 0, 0, 0))), (1, .int (zI tm)), (0, .ref b)] []) :
    ∀ (m : Nat) (o out : Int), (0 ≤ o ∧ o ≤ P 2 (P 4 n 0) p) → out = out0 + sm (zou1 V n p) 0 o → (P 2 (P 4 n 0) p - o).toNat < m → G Γ zRW cL_law 21 RL ad (mm (z_d Γ) ad P V (pm (z_d Γ) ad P V A)) nc ns 339 [(18, .int (zI o)), (17, .int (zI (P 2 (P 4 n 0) p))), (16, .int (zI mk)), (15, .int (zI p)), (14, .int (zI out)), (13, .int (zI nin)), (12, .int (zI many)), (11, .ref (ad (230, 0, 0, 0))), (10, .int (zI all)), (9, .int (zI (P 4 n 0))), (8, .int (zI n)), (6, .long w), (5, .int (zI stp)), (4, .int (zI rows)), (3, .ref (ad (0, 0, 0, 0))), (2, .ref (ad (200, 0, 0, 0))), (1, .int (zI tm)), (0, .ref b)] [] := by
  have hP := hJ.wp
  have hW := hJ.wv.W
  have ht : inT P (P 4 n 0) := hP.g hg
  have hM := hP.m ht hp
  have hN := hP.n
  have hT := hP.t ht
  have hg1 := hg.1
  have hg2 := hg.2
  have hp1 := hp.1
  have hp2 := hp.2
  intro m
  induction m with
  | zero => intro o out _ _ h; omega
  | succ m ih =>
    intro o out hob hout hm
    have hso := sm_bound (f := zou1 V n p) (m := 1) (by omega) _ 0 o hob.1 rfl (fun q _ _ => by unfold zou1; split <;> omega)
    refine G_iload (pc := 339) 0 dL_law_339 rfl ?_
    refine G_iload (pc := 341) 1 dL_law_341 rfl ?_
    refine G_icmp_ge (pc := 343) 489 dL_law_343 (by decide) ⟨by omega, by omega⟩ ⟨by omega, by omega⟩ (fun c343 => ?_) (fun c343 => ?_)
    · refine G_perm (lv' := [(15, .int (zI p)), (14, .int (zI out)), (13, .int (zI nin)), (12, .int (zI many)), (11, .ref (ad (230, 0, 0, 0))), (10, .int (zI all)), (9, .int (zI (P 4 n 0))), (8, .int (zI n)), (6, .long w), (5, .int (zI stp)), (4, .int (zI rows)), (3, .ref (ad (0, 0, 0, 0))), (2, .ref (ad (200, 0, 0, 0))), (1, .int (zI tm)), (0, .ref b)]) [3, 4, 5, 6, 7, 8, 9, 10, 11, 12, 13, 14, 15, 16, 17] rfl ?_
      have e9 : o = P 2 (P 4 n 0) p := by omega
      have e8 : out = out0 + zou P V n p := by rw [hout, e9]; rfl
      rw [e8]
      exact kk
    · have ho : inM P (P 4 n 0) p o := ⟨hob.1, by omega⟩
      obtain ⟨m1, m2, m3, m4, m5, m6⟩ := zC_msg hJ hg hp ho
      have hz := zdq_sp (V := V) (t := P 4 n 0) (p := p) (o := o)
      have hs := hW.2.2.1 (P 4 n 0) p ht hp
      refine G_aload_n (pc := 346) 3 14 dL_law_346 rfl rfl ?_
      refine G_iload (pc := 347) 10 dL_law_347 rfl ?_
      refine G_iload (pc := 349) 3 dL_law_349 rfl ?_
      refine G_iload (pc := 351) 0 dL_law_351 rfl ?_
      refine G_q (pc := 353) (x := (V (19, n, p, 0) o)) gk_L_67 dL_law_353 (c_X6_state hP hg hp ho hW) rfl rfl (Nat.le_of_ble_eq_true rfl) (Nat.le_of_ble_eq_true rfl) hR ?_
      refine G_istore (pc := 356) [(19, .int (zI (V (19, n, p, 0) o))), (18, .int (zI o)), (17, .int (zI (P 2 (P 4 n 0) p))), (16, .int (zI mk)), (15, .int (zI p)), (14, .int (zI out)), (13, .int (zI nin)), (12, .int (zI many)), (11, .ref (ad (230, 0, 0, 0))), (10, .int (zI all)), (9, .int (zI (P 4 n 0))), (8, .int (zI n)), (6, .long w), (5, .int (zI stp)), (4, .int (zI rows)), (3, .ref (ad (0, 0, 0, 0))), (2, .ref (ad (200, 0, 0, 0))), (1, .int (zI tm)), (0, .ref b)] dL_law_356 (by decide) rfl ?_
      refine G_aload_n (pc := 358) 3 15 dL_law_358 rfl rfl ?_
      refine G_iload (pc := 359) 11 dL_law_359 rfl ?_
      refine G_iload (pc := 361) 4 dL_law_361 rfl ?_
      refine G_iload (pc := 363) 1 dL_law_363 rfl ?_
      refine G_q (pc := 365) (x := (V (20, n, p, 0) o)) gk_L_75 dL_law_365 (c_X6_tries hP hg hp ho hW) rfl rfl (Nat.le_of_ble_eq_true rfl) (Nat.le_of_ble_eq_true rfl) hR ?_
      refine G_istore (pc := 368) [(20, .int (zI (V (20, n, p, 0) o))), (19, .int (zI (V (19, n, p, 0) o))), (18, .int (zI o)), (17, .int (zI (P 2 (P 4 n 0) p))), (16, .int (zI mk)), (15, .int (zI p)), (14, .int (zI out)), (13, .int (zI nin)), (12, .int (zI many)), (11, .ref (ad (230, 0, 0, 0))), (10, .int (zI all)), (9, .int (zI (P 4 n 0))), (8, .int (zI n)), (6, .long w), (5, .int (zI stp)), (4, .int (zI rows)), (3, .ref (ad (0, 0, 0, 0))), (2, .ref (ad (200, 0, 0, 0))), (1, .int (zI tm)), (0, .ref b)] dL_law_368 (by decide) rfl ?_
      have t468 : G Γ zRW cL_law 21 RL ad (mm (z_d Γ) ad P V (pm (z_d Γ) ad P V A)) nc ns 468 [(20, .int (zI (V (20, n, p, 0) o))), (19, .int (zI (V (19, n, p, 0) o))), (18, .int (zI o)), (17, .int (zI (P 2 (P 4 n 0) p))), (16, .int (zI mk)), (15, .int (zI p)), (14, .int (zI out)), (13, .int (zI nin)), (12, .int (zI many)), (11, .ref (ad (230, 0, 0, 0))), (10, .int (zI all)), (9, .int (zI (P 4 n 0))), (8, .int (zI n)), (6, .long w), (5, .int (zI stp)), (4, .int (zI rows)), (3, .ref (ad (0, 0, 0, 0))), (2, .ref (ad (200, 0, 0, 0))), (1, .int (zI tm)), (0, .ref b)] [] := by
        refine G_iload (pc := 468) 6 dL_law_468 rfl ?_
        refine G_iload (pc := 470) 1 dL_law_470 rfl ?_
        refine G_ez2 (pc := 472) dL_law_472 dL_law_475 dL_law_476 dL_law_479 ⟨by omega, by omega⟩ (fun v3 hv3 => ?_)
        refine G_iadd (pc := 480) dL_law_480 ?_
        refine G_istore (pc := 481) [(14, .int (zI (out + v3))), (20, .int (zI (V (20, n, p, 0) o))), (19, .int (zI (V (19, n, p, 0) o))), (18, .int (zI o)), (17, .int (zI (P 2 (P 4 n 0) p))), (16, .int (zI mk)), (15, .int (zI p)), (13, .int (zI nin)), (12, .int (zI many)), (11, .ref (ad (230, 0, 0, 0))), (10, .int (zI all)), (9, .int (zI (P 4 n 0))), (8, .int (zI n)), (6, .long w), (5, .int (zI stp)), (4, .int (zI rows)), (3, .ref (ad (0, 0, 0, 0))), (2, .ref (ad (200, 0, 0, 0))), (1, .int (zI tm)), (0, .ref b)] dL_law_481 (by decide) rfl ?_
        refine G_iinc (pc := 483) 3 [(18, .int (zI (o + 1))), (14, .int (zI (out + v3))), (20, .int (zI (V (20, n, p, 0) o))), (19, .int (zI (V (19, n, p, 0) o))), (17, .int (zI (P 2 (P 4 n 0) p))), (16, .int (zI mk)), (15, .int (zI p)), (13, .int (zI nin)), (12, .int (zI many)), (11, .ref (ad (230, 0, 0, 0))), (10, .int (zI all)), (9, .int (zI (P 4 n 0))), (8, .int (zI n)), (6, .long w), (5, .int (zI stp)), (4, .int (zI rows)), (3, .ref (ad (0, 0, 0, 0))), (2, .ref (ad (200, 0, 0, 0))), (1, .int (zI tm)), (0, .ref b)] dL_law_483 rfl (by decide) rfl ?_
        refine G_goto (pc := 486) 339 dL_law_486 (by decide) ?_
        refine G_perm (lv' := [(18, .int (zI (o + 1))), (17, .int (zI (P 2 (P 4 n 0) p))), (16, .int (zI mk)), (15, .int (zI p)), (14, .int (zI (out + v3))), (13, .int (zI nin)), (12, .int (zI many)), (11, .ref (ad (230, 0, 0, 0))), (10, .int (zI all)), (9, .int (zI (P 4 n 0))), (8, .int (zI n)), (6, .long w), (5, .int (zI stp)), (4, .int (zI rows)), (3, .ref (ad (0, 0, 0, 0))), (2, .ref (ad (200, 0, 0, 0))), (1, .int (zI tm)), (0, .ref b)]) [0, 4, 5, 6, 1, 7, 8, 9, 10, 11, 12, 13, 14, 15, 16, 17, 18, 19] rfl ?_
        refine ih (o + 1) (out + v3) ⟨by omega, by omega⟩ ?_ (by omega)
        rw [sm_last _ 0 o rfl hob.1]
        have e : zou1 V n p o = v3 := by
          unfold zou1
          rcases hv3 with ⟨a, c⟩ | ⟨a, c⟩
          · rw [if_pos c, a]
          · rw [if_neg c, a]
        omega
      have t439 : G Γ zRW cL_law 21 RL ad (mm (z_d Γ) ad P V (pm (z_d Γ) ad P V A)) nc ns 439 [(20, .int (zI (V (20, n, p, 0) o))), (19, .int (zI (V (19, n, p, 0) o))), (18, .int (zI o)), (17, .int (zI (P 2 (P 4 n 0) p))), (16, .int (zI mk)), (15, .int (zI p)), (14, .int (zI out)), (13, .int (zI nin)), (12, .int (zI many)), (11, .ref (ad (230, 0, 0, 0))), (10, .int (zI all)), (9, .int (zI (P 4 n 0))), (8, .int (zI n)), (6, .long w), (5, .int (zI stp)), (4, .int (zI rows)), (3, .ref (ad (0, 0, 0, 0))), (2, .ref (ad (200, 0, 0, 0))), (1, .int (zI tm)), (0, .ref b)] [] := by
        refine G_aload_n (pc := 439) 3 16 dL_law_439 rfl rfl ?_
        refine G_iload (pc := 440) 11 dL_law_440 rfl ?_
        refine G_iload (pc := 442) 5 dL_law_442 rfl ?_
        refine G_iload (pc := 444) 2 dL_law_444 rfl ?_
        refine G_iconst (pc := 446) dL_law_446 ?_
        refine G_q (pc := 447) (x := (zdq V (P 4 n 0) p o)) gk_L_71 dL_law_447 (q_msg4 hP ht hp ho hW) rfl rfl (Nat.le_of_ble_eq_true rfl) (Nat.le_of_ble_eq_true rfl) hR ?_
        refine G_iconst (pc := 450) dL_law_450 ?_
        refine G_icmp_ne (pc := 451) 468 dL_law_451 (by decide) ⟨by omega, by omega⟩ ⟨by omega, by omega⟩ (fun c451 => ?_) (fun c451 => ?_)
        · exact t468
        · refine G_iload (pc := 454) 1 dL_law_454 rfl ?_
          refine G_iconst (pc := 456) dL_law_456 ?_
          refine G_icmp_eq (pc := 457) 466 dL_law_457 (by decide) ⟨by omega, by omega⟩ ⟨by omega, by omega⟩ (fun c457 => absurd c457 (by omega)) (fun c457 => ?_)
          refine G_iload (pc := 460) 1 dL_law_460 rfl ?_
          refine G_iconst (pc := 462) dL_law_462 ?_
          refine G_icmp_ne (pc := 463) 468 dL_law_463 (by decide) ⟨by omega, by omega⟩ ⟨by omega, by omega⟩ (fun c463 => ?_) (fun c463 => absurd c463 (by omega))
          exact t468
      have t411 : G Γ zRW cL_law 21 RL ad (mm (z_d Γ) ad P V (pm (z_d Γ) ad P V A)) nc ns 411 [(20, .int (zI (V (20, n, p, 0) o))), (19, .int (zI (V (19, n, p, 0) o))), (18, .int (zI o)), (17, .int (zI (P 2 (P 4 n 0) p))), (16, .int (zI mk)), (15, .int (zI p)), (14, .int (zI out)), (13, .int (zI nin)), (12, .int (zI many)), (11, .ref (ad (230, 0, 0, 0))), (10, .int (zI all)), (9, .int (zI (P 4 n 0))), (8, .int (zI n)), (6, .long w), (5, .int (zI stp)), (4, .int (zI rows)), (3, .ref (ad (0, 0, 0, 0))), (2, .ref (ad (200, 0, 0, 0))), (1, .int (zI tm)), (0, .ref b)] [] := by
        refine G_iload (pc := 411) 2 dL_law_411 rfl ?_
        refine G_aload_n (pc := 413) 3 16 dL_law_413 rfl rfl ?_
        refine G_iload (pc := 414) 11 dL_law_414 rfl ?_
        refine G_iload (pc := 416) 5 dL_law_416 rfl ?_
        refine G_q (pc := 418) (x := (V (11, P 4 n 0, p, 0) 1)) gk_L_58 dL_law_418 (c_X6_start hP ht hp hW) rfl rfl (Nat.le_of_ble_eq_true rfl) (Nat.le_of_ble_eq_true rfl) hR ?_
        refine G_icmp_ge (pc := 421) 439 dL_law_421 (by decide) ⟨by omega, by omega⟩ ⟨by omega, by omega⟩ (fun c421 => ?_) (fun c421 => ?_)
        · exact t439
        · refine G_aload_n (pc := 424) 3 16 dL_law_424 rfl rfl ?_
          refine G_iload (pc := 425) 11 dL_law_425 rfl ?_
          refine G_iload (pc := 427) 5 dL_law_427 rfl ?_
          refine G_iload (pc := 429) 2 dL_law_429 rfl ?_
          refine G_iconst (pc := 431) dL_law_431 ?_
          refine G_q (pc := 432) (x := (zdq V (P 4 n 0) p o)) gk_L_71 dL_law_432 (q_msg4 hP ht hp ho hW) rfl rfl (Nat.le_of_ble_eq_true rfl) (Nat.le_of_ble_eq_true rfl) hR ?_
          refine G_iconst (pc := 435) dL_law_435 ?_
          refine G_icmp_ne (pc := 436) 466 dL_law_436 (by decide) ⟨by omega, by omega⟩ ⟨by omega, by omega⟩ (fun c436 => absurd c436 (by omega)) (fun c436 => ?_)
          exact t439
      refine G_iload (pc := 370) 1 dL_law_370 rfl ?_
      refine G_ez (pc := 372) dL_law_372 dL_law_375 dL_law_376 dL_law_379 ⟨by omega, by omega⟩ (fun v1 hv1 => ?_)
      refine G_iload (pc := 380) 0 dL_law_380 rfl ?_
      refine G_ez (pc := 382) dL_law_382 dL_law_385 dL_law_386 dL_law_389 ⟨by omega, by omega⟩ (fun v2 hv2 => ?_)
      refine G_icmp_ne (pc := 390) 466 dL_law_390 (by decide) ⟨by omega, by omega⟩ ⟨by omega, by omega⟩ (fun c390 => absurd c390 (by omega)) (fun c390 => ?_)
      refine G_iload (pc := 393) 0 dL_law_393 rfl ?_
      refine G_iconst (pc := 395) dL_law_395 ?_
      refine G_icmp_gt (pc := 396) 466 dL_law_396 (by decide) ⟨by omega, by omega⟩ ⟨by omega, by omega⟩ (fun c396 => absurd c396 (by omega)) (fun c396 => ?_)
      refine G_iload (pc := 399) 1 dL_law_399 rfl ?_
      refine G_iconst (pc := 401) dL_law_401 ?_
      refine G_icmp_ne (pc := 402) 411 dL_law_402 (by decide) ⟨by omega, by omega⟩ ⟨by omega, by omega⟩ (fun c402 => ?_) (fun c402 => ?_)
      · exact t411
      · refine G_iload (pc := 405) 0 dL_law_405 rfl ?_
        refine G_iconst (pc := 407) dL_law_407 ?_
        refine G_icmp_ne (pc := 408) 466 dL_law_408 (by decide) ⟨by omega, by omega⟩ ⟨by omega, by omega⟩ (fun c408 => absurd c408 (by omega)) (fun c408 => ?_)
        exact t411
