/-! ===== the law: the partitions of a group's topic ===== -/
set_option maxHeartbeats 4000000 in
set_option maxRecDepth 100000 in
theorem l_p {Γ : zCx} {ad : zK → Nat} {P : zP} {V : zS} {nc ns b : Nat} {tm rows stp : Int} {w : Int64} {n : Int} (hJ : zJ P V) (hR : nc ≤ 600086 ∧ ns ≤ 7301442) (hg : inG P n) (kk : ∀ (F : Int → Int) (all out : Int), (∀ r, 0 ≤ r → r < 6 → F r = sm (zpc1 V n r) 0 (P 1 (P 4 n 0) 0)) → all = sm (zlag P V n) 0 (P 1 (P 4 n 0) 0) → out = sm (zou P V n) 0 (P 1 (P 4 n 0) 0) → G Γ zRW cL_law 21 RL ad (mm (z_d Γ) ad P V (pm (z_d Γ) ad P V (zA6 (z_d Γ) F))) nc ns 578 [(14, .int (zI out)), (13, .int (zI (znin V n))), (12, .int (zI (P 1 (P 4 n 0) 0))), (11, .ref (ad (230, 0, 0, 0))), (10, .int (zI all)), (9, .int (zI (P 4 n 0))), (8, .int (zI n)), (6, .long w), (5, .int (zI stp)), (4, .int (zI rows)), (3, .ref (ad (0, 0, 0, 0))), (2, .ref (ad (200, 0, 0, 0))), (1, .int (zI tm)), (0, .ref b)] []) :
    ∀ (m : Nat) (p : Int) (F : Int → Int) (all out : Int), (0 ≤ p ∧ p ≤ (P 1 (P 4 n 0) 0)) → (∀ r, 0 ≤ r → r < 6 → F r = sm (zpc1 V n r) 0 p) → all = sm (zlag P V n) 0 p → out = sm (zou P V n) 0 p → ((P 1 (P 4 n 0) 0) - p).toNat < m → G Γ zRW cL_law 21 RL ad (mm (z_d Γ) ad P V (pm (z_d Γ) ad P V (zA6 (z_d Γ) F))) nc ns 191 [(15, .int (zI p)), (14, .int (zI out)), (13, .int (zI (znin V n))), (12, .int (zI p)), (11, .ref (ad (230, 0, 0, 0))), (10, .int (zI all)), (9, .int (zI (P 4 n 0))), (8, .int (zI n)), (6, .long w), (5, .int (zI stp)), (4, .int (zI rows)), (3, .ref (ad (0, 0, 0, 0))), (2, .ref (ad (200, 0, 0, 0))), (1, .int (zI tm)), (0, .ref b)] [] := by
  have hP := hJ.wp
  have hW := hJ.wv.W
  have ht : inT P (P 4 n 0) := hP.g hg
  have hN := hP.n
  have hT := hP.t ht
  have hg1 := hg.1
  have hg2 := hg.2
  have ht1 := ht.1
  have ht2 := ht.2
  have hni := znin_R (g := n) hJ
  intro m
  induction m with
  | zero => intro p F all out _ _ _ _ h; omega
  | succ m ih =>
    intro p F all out hpb hF ha hu hm
    have hab := zlag_s hJ hg hpb.1 hpb.2
    have hub := zou_s hJ hg hpb.1 hpb.2
    rw [← ha] at hab
    rw [← hu] at hub
    refine G_iload (pc := 191) 0 dL_law_191 rfl ?_
    refine G_aload_n (pc := 193) 2 12 dL_law_193 rfl rfl ?_
    refine G_getf (pc := 194) fl_L_47 dL_law_194 (wq rfl pg_200) rfl ?_
    refine G_iload (pc := 197) 6 dL_law_197 rfl ?_
    refine G_aldA (pc := 199) (t := 7) rfl dL_law_199 (wq rfl pg_201) ⟨by omega, by omega, by omega, by omega⟩ rfl ?_
    refine G_alenV (pc := 200) (t := 6) (P 1 (P 4 n 0) 0) rfl dL_law_200 (wq rfl (pg_202 ht)) (by omega) ?_
    refine G_icmp_ge (pc := 201) 578 dL_law_201 (by decide) ⟨by omega, by omega⟩ ⟨by omega, by omega⟩ (fun c201 => ?_) (fun c201 => ?_)
    · have e9 : p = (P 1 (P 4 n 0) 0) := by omega
      subst e9
      refine G_perm (lv' := [(14, .int (zI out)), (13, .int (zI (znin V n))), (12, .int (zI (P 1 (P 4 n 0) 0))), (11, .ref (ad (230, 0, 0, 0))), (10, .int (zI all)), (9, .int (zI (P 4 n 0))), (8, .int (zI n)), (6, .long w), (5, .int (zI stp)), (4, .int (zI rows)), (3, .ref (ad (0, 0, 0, 0))), (2, .ref (ad (200, 0, 0, 0))), (1, .int (zI tm)), (0, .ref b)]) [1, 2, 3, 4, 5, 6, 7, 8, 9, 10, 11, 12, 13, 14] rfl ?_
      exact kk F all out hF ha hu
    · have hp : inQ P n p := ⟨hpb.1, by omega⟩
      have hp1 := hp.1
      have hp2 := hp.2
      have hM := hP.m ht hp
      obtain ⟨⟨k1, k2, k3, k4, k5⟩, k6⟩ := zC_mark hJ hg hp
      have k7 := zse_0 hJ hg hp
      have hs := hW.2.2.1 (P 4 n 0) p ht hp
      obtain ⟨r1, r2, r3⟩ := zC_reader hJ hg hp
      have hl := zC_lag1 hJ hg hp
      refine G_aload_n (pc := 204) 3 11 dL_law_204 rfl rfl ?_
      refine G_iload (pc := 205) 7 dL_law_205 rfl ?_
      refine G_iload (pc := 207) 0 dL_law_207 rfl ?_
      refine G_q (pc := 209) (x := (V (18, n, p, 0) 5)) gk_L_51 dL_law_209 (c_X6_mark hP hg hp hW) rfl rfl (Nat.le_of_ble_eq_true rfl) (Nat.le_of_ble_eq_true rfl) hR ?_
      refine G_istore (pc := 212) [(16, .int (zI (V (18, n, p, 0) 5))), (15, .int (zI p)), (14, .int (zI out)), (13, .int (zI (znin V n))), (12, .int (zI p)), (11, .ref (ad (230, 0, 0, 0))), (10, .int (zI all)), (9, .int (zI (P 4 n 0))), (8, .int (zI n)), (6, .long w), (5, .int (zI stp)), (4, .int (zI rows)), (3, .ref (ad (0, 0, 0, 0))), (2, .ref (ad (200, 0, 0, 0))), (1, .int (zI tm)), (0, .ref b)] dL_law_212 (by decide) rfl ?_
      refine G_aload_n (pc := 214) 3 12 dL_law_214 rfl rfl ?_
      refine G_iload (pc := 215) 7 dL_law_215 rfl ?_
      refine G_iload (pc := 217) 1 dL_law_217 rfl ?_
      refine G_q (pc := 219) (x := (P 2 (P 4 n 0) p)) gk_L_55 dL_law_219 (c_X6_endOf hP ht hp hW) rfl rfl (Nat.le_of_ble_eq_true rfl) (Nat.le_of_ble_eq_true rfl) hR ?_
      refine G_istore (pc := 222) [(17, .int (zI (P 2 (P 4 n 0) p))), (16, .int (zI (V (18, n, p, 0) 5))), (15, .int (zI p)), (14, .int (zI out)), (13, .int (zI (znin V n))), (12, .int (zI p)), (11, .ref (ad (230, 0, 0, 0))), (10, .int (zI all)), (9, .int (zI (P 4 n 0))), (8, .int (zI n)), (6, .long w), (5, .int (zI stp)), (4, .int (zI rows)), (3, .ref (ad (0, 0, 0, 0))), (2, .ref (ad (200, 0, 0, 0))), (1, .int (zI tm)), (0, .ref b)] dL_law_222 (by decide) rfl ?_
      refine G_iload (pc := 224) 1 dL_law_224 rfl ?_
      refine G_if_lt (pc := 226) 281 dL_law_226 (by decide) ⟨by omega, by omega⟩ (fun c226 => absurd c226 (by omega)) (fun c226 => ?_)
      refine G_iload (pc := 229) 1 dL_law_229 rfl ?_
      refine G_aload_n (pc := 231) 3 13 dL_law_231 rfl rfl ?_
      refine G_iload (pc := 232) 8 dL_law_232 rfl ?_
      refine G_iload (pc := 234) 2 dL_law_234 rfl ?_
      refine G_q (pc := 236) (x := (V (11, P 4 n 0, p, 0) 1)) gk_L_58 dL_law_236 (c_X6_start hP ht hp hW) rfl rfl (Nat.le_of_ble_eq_true rfl) (Nat.le_of_ble_eq_true rfl) hR ?_
      refine G_icmp_lt (pc := 239) 281 dL_law_239 (by decide) ⟨by omega, by omega⟩ ⟨by omega, by omega⟩ (fun c239 => absurd c239 (by omega)) (fun c239 => ?_)
      refine G_aload_n (pc := 242) 3 13 dL_law_242 rfl rfl ?_
      refine G_iload (pc := 243) 9 dL_law_243 rfl ?_
      refine G_iload (pc := 245) 2 dL_law_245 rfl ?_
      refine G_q (pc := 247) (x := (V (18, n, p, 0) 6)) gk_L_61 dL_law_247 (c_X6_cursor hP hg hp hW) rfl rfl (Nat.le_of_ble_eq_true rfl) (Nat.le_of_ble_eq_true rfl) hR ?_
      refine G_iload (pc := 250) 1 dL_law_250 rfl ?_
      refine G_icmp_lt (pc := 252) 281 dL_law_252 (by decide) ⟨by omega, by omega⟩ ⟨by omega, by omega⟩ (fun c252 => absurd c252 (by omega)) (fun c252 => ?_)
      refine G_aload_n (pc := 255) 3 13 dL_law_255 rfl rfl ?_
      refine G_iload (pc := 256) 9 dL_law_256 rfl ?_
      refine G_iload (pc := 258) 2 dL_law_258 rfl ?_
      refine G_q (pc := 260) (x := (V (18, n, p, 0) 6)) gk_L_61 dL_law_260 (c_X6_cursor hP hg hp hW) rfl rfl (Nat.le_of_ble_eq_true rfl) (Nat.le_of_ble_eq_true rfl) hR ?_
      refine G_iload (pc := 263) 0 dL_law_263 rfl ?_
      refine G_icmp_gt (pc := 265) 281 dL_law_265 (by decide) ⟨by omega, by omega⟩ ⟨by omega, by omega⟩ (fun c265 => absurd c265 (by omega)) (fun c265 => ?_)
      refine G_aload_n (pc := 268) 3 13 dL_law_268 rfl rfl ?_
      refine G_iload (pc := 269) 8 dL_law_269 rfl ?_
      refine G_iload (pc := 271) 2 dL_law_271 rfl ?_
      refine G_q (pc := 273) (x := (zse P V (P 4 n 0) p)) gk_L_64 dL_law_273 (c_X6_stable hP ht hp hW) rfl rfl (Nat.le_of_ble_eq_true rfl) (Nat.le_of_ble_eq_true rfl) hR ?_
      refine G_iload (pc := 276) 0 dL_law_276 rfl ?_
      refine G_icmp_le (pc := 278) 283 dL_law_278 (by decide) ⟨by omega, by omega⟩ ⟨by omega, by omega⟩ (fun c278 => ?_) (fun c278 => absurd c278 (by omega))
      have t336 : G Γ zRW cL_law 21 RL ad (mm (z_d Γ) ad P V (pm (z_d Γ) ad P V (zA6 (z_d Γ) F))) nc ns 336 [(17, .int (zI (P 2 (P 4 n 0) p))), (16, .int (zI (V (18, n, p, 0) 5))), (15, .int (zI p)), (14, .int (zI out)), (13, .int (zI (znin V n))), (12, .int (zI p)), (11, .ref (ad (230, 0, 0, 0))), (10, .int (zI all)), (9, .int (zI (P 4 n 0))), (8, .int (zI n)), (6, .long w), (5, .int (zI stp)), (4, .int (zI rows)), (3, .ref (ad (0, 0, 0, 0))), (2, .ref (ad (200, 0, 0, 0))), (1, .int (zI tm)), (0, .ref b)] [] := by
        refine G_iconst (pc := 336) dL_law_336 ?_
        refine G_istore (pc := 337) [(18, .int (zI 0)), (17, .int (zI (P 2 (P 4 n 0) p))), (16, .int (zI (V (18, n, p, 0) 5))), (15, .int (zI p)), (14, .int (zI out)), (13, .int (zI (znin V n))), (12, .int (zI p)), (11, .ref (ad (230, 0, 0, 0))), (10, .int (zI all)), (9, .int (zI (P 4 n 0))), (8, .int (zI n)), (6, .long w), (5, .int (zI stp)), (4, .int (zI rows)), (3, .ref (ad (0, 0, 0, 0))), (2, .ref (ad (200, 0, 0, 0))), (1, .int (zI tm)), (0, .ref b)] dL_law_337 (by decide) rfl ?_
        refine G_perm (lv' := [(18, .int (zI 0)), (17, .int (zI (P 2 (P 4 n 0) p))), (16, .int (zI (V (18, n, p, 0) 5))), (15, .int (zI p)), (14, .int (zI out)), (13, .int (zI (znin V n))), (12, .int (zI p)), (11, .ref (ad (230, 0, 0, 0))), (10, .int (zI all)), (9, .int (zI (P 4 n 0))), (8, .int (zI n)), (6, .long w), (5, .int (zI stp)), (4, .int (zI rows)), (3, .ref (ad (0, 0, 0, 0))), (2, .ref (ad (200, 0, 0, 0))), (1, .int (zI tm)), (0, .ref b)]) [0, 1, 2, 3, 4, 5, 6, 7, 8, 9, 10, 11, 12, 13, 14, 15, 16, 17] rfl ?_
        refine l_o (A := zA6 (z_d Γ) F) (out0 := out) hJ hR hg hp ⟨by omega, by omega⟩ ?_ (P 2 (P 4 n 0) p + 1).toNat 0 out ⟨by omega, by omega⟩ (by rw [sm_end (by omega)]; omega) (by omega)
        refine G_iload (pc := 489) 5 dL_law_489 rfl ?_
        refine G_aload_n (pc := 491) 3 11 dL_law_491 rfl rfl ?_
        refine G_iload (pc := 492) 7 dL_law_492 rfl ?_
        refine G_iload (pc := 494) 0 dL_law_494 rfl ?_
        refine G_q (pc := 496) (x := (zlag P V n p)) gk_L_78 dL_law_496 (c_X6_lag hP hg hp hW) rfl rfl (Nat.le_of_ble_eq_true rfl) (Nat.le_of_ble_eq_true rfl) hR ?_
        refine G_iadd (pc := 499) dL_law_499 ?_
        refine G_istore (pc := 500) [(10, .int (zI (all + (zlag P V n p)))), (15, .int (zI p)), (14, .int (zI (out + zou P V n p))), (13, .int (zI (znin V n))), (12, .int (zI p)), (11, .ref (ad (230, 0, 0, 0))), (9, .int (zI (P 4 n 0))), (8, .int (zI n)), (6, .long w), (5, .int (zI stp)), (4, .int (zI rows)), (3, .ref (ad (0, 0, 0, 0))), (2, .ref (ad (200, 0, 0, 0))), (1, .int (zI tm)), (0, .ref b)] dL_law_500 (by decide) rfl ?_
        refine G_aload_n (pc := 502) 3 11 dL_law_502 rfl rfl ?_
        refine G_iload (pc := 503) 7 dL_law_503 rfl ?_
        refine G_iload (pc := 505) 1 dL_law_505 rfl ?_
        refine G_q (pc := 507) (x := (V (18, n, p, 0) 4)) gk_L_81 dL_law_507 (c_X6_reader hP hg hp hW) rfl rfl (Nat.le_of_ble_eq_true rfl) (Nat.le_of_ble_eq_true rfl) hR ?_
        refine G_istore (pc := 510) [(18, .int (zI (V (18, n, p, 0) 4))), (10, .int (zI (all + (zlag P V n p)))), (15, .int (zI p)), (14, .int (zI (out + zou P V n p))), (13, .int (zI (znin V n))), (12, .int (zI p)), (11, .ref (ad (230, 0, 0, 0))), (9, .int (zI (P 4 n 0))), (8, .int (zI n)), (6, .long w), (5, .int (zI stp)), (4, .int (zI rows)), (3, .ref (ad (0, 0, 0, 0))), (2, .ref (ad (200, 0, 0, 0))), (1, .int (zI tm)), (0, .ref b)] dL_law_510 (by decide) rfl ?_
        refine G_iload (pc := 512) 0 dL_law_512 rfl ?_
        refine G_lz (pc := 514) dL_law_514 dL_law_517 dL_law_518 dL_law_521 ⟨by omega, by omega⟩ (fun v1 hv1 => ?_)
        refine G_iload (pc := 522) 4 dL_law_522 rfl ?_
        refine G_ez (pc := 524) dL_law_524 dL_law_527 dL_law_528 dL_law_531 ⟨by omega, by omega⟩ (fun v2 hv2 => ?_)
        refine G_icmp_ne (pc := 532) 553 dL_law_532 (by decide) ⟨by omega, by omega⟩ ⟨by omega, by omega⟩ (fun c532 => absurd c532 (by omega)) (fun c532 => ?_)
        refine G_iload (pc := 535) 0 dL_law_535 rfl ?_
        have t569 : ∀ F' : Int → Int, (∀ r, 0 ≤ r → r < 6 → F' r = sm (zpc1 V n r) 0 (p + 1)) → G Γ zRW cL_law 21 RL ad (mm (z_d Γ) ad P V (pm (z_d Γ) ad P V (zA6 (z_d Γ) F'))) nc ns 569 [(18, .int (zI (V (18, n, p, 0) 4))), (10, .int (zI (all + (zlag P V n p)))), (15, .int (zI p)), (14, .int (zI (out + zou P V n p))), (13, .int (zI (znin V n))), (12, .int (zI p)), (11, .ref (ad (230, 0, 0, 0))), (9, .int (zI (P 4 n 0))), (8, .int (zI n)), (6, .long w), (5, .int (zI stp)), (4, .int (zI rows)), (3, .ref (ad (0, 0, 0, 0))), (2, .ref (ad (200, 0, 0, 0))), (1, .int (zI tm)), (0, .ref b)] [] := fun F' hF' => by
          refine G_iinc (pc := 569) 5 [(12, .int (zI (p + 1))), (18, .int (zI (V (18, n, p, 0) 4))), (10, .int (zI (all + (zlag P V n p)))), (15, .int (zI p)), (14, .int (zI (out + zou P V n p))), (13, .int (zI (znin V n))), (11, .ref (ad (230, 0, 0, 0))), (9, .int (zI (P 4 n 0))), (8, .int (zI n)), (6, .long w), (5, .int (zI stp)), (4, .int (zI rows)), (3, .ref (ad (0, 0, 0, 0))), (2, .ref (ad (200, 0, 0, 0))), (1, .int (zI tm)), (0, .ref b)] dL_law_569 rfl (by decide) rfl ?_
          refine G_iinc (pc := 572) 3 [(15, .int (zI (p + 1))), (12, .int (zI (p + 1))), (18, .int (zI (V (18, n, p, 0) 4))), (10, .int (zI (all + (zlag P V n p)))), (14, .int (zI (out + zou P V n p))), (13, .int (zI (znin V n))), (11, .ref (ad (230, 0, 0, 0))), (9, .int (zI (P 4 n 0))), (8, .int (zI n)), (6, .long w), (5, .int (zI stp)), (4, .int (zI rows)), (3, .ref (ad (0, 0, 0, 0))), (2, .ref (ad (200, 0, 0, 0))), (1, .int (zI tm)), (0, .ref b)] dL_law_572 rfl (by decide) rfl ?_
          refine G_goto (pc := 575) 191 dL_law_575 (by decide) ?_
          refine G_perm (lv' := [(15, .int (zI (p + 1))), (14, .int (zI (out + zou P V n p))), (13, .int (zI (znin V n))), (12, .int (zI (p + 1))), (11, .ref (ad (230, 0, 0, 0))), (10, .int (zI (all + (zlag P V n p)))), (9, .int (zI (P 4 n 0))), (8, .int (zI n)), (6, .long w), (5, .int (zI stp)), (4, .int (zI rows)), (3, .ref (ad (0, 0, 0, 0))), (2, .ref (ad (200, 0, 0, 0))), (1, .int (zI tm)), (0, .ref b)]) [0, 4, 5, 1, 6, 3, 7, 8, 9, 10, 11, 12, 13, 14, 15] rfl ?_
          exact ih (p + 1) F' (all + (zlag P V n p)) (out + zou P V n p) ⟨by omega, by omega⟩ hF' (by rw [sm_last _ 0 p rfl hpb.1, ha]) (by rw [sm_last _ 0 p rfl hpb.1, hu]) (by omega)
        refine G_if_lt (pc := 537) 555 dL_law_537 (by decide) ⟨by omega, by omega⟩ (fun c537 => ?_) (fun c537 => ?_)
        · refine G_iload (pc := 555) 0 dL_law_555 rfl ?_
          refine G_if_lt (pc := 557) 569 dL_law_557 (by decide) ⟨by omega, by omega⟩ (fun c557 => ?_) (fun c557 => absurd c557 (by omega))
          refine t569 F (fun r r0 r6 => ?_)
          rw [sm_last _ 0 p rfl hpb.1, hF r r0 r6]
          have e : zpc1 V n r p = 0 := by unfold zpc1; rw [if_neg (by omega)]
          omega
        · have r4 := r3 (by omega)
          refine G_aload_n (pc := 540) 2 13 dL_law_540 rfl rfl ?_
          refine G_getf (pc := 541) fl_L_43 dL_law_541 (wq rfl pg_200) rfl ?_
          refine G_iload (pc := 544) 8 dL_law_544 rfl ?_
          refine G_aldA (pc := 546) (t := 8) rfl dL_law_546 (wq rfl pg_220) ⟨by omega, by omega, by omega, by omega⟩ rfl ?_
          refine G_iload (pc := 547) 0 dL_law_547 rfl ?_
          refine G_zaldV (pc := 549) (V (17, n, 0, 0) (V (18, n, p, 0) 4)) dL_law_549 (wq rfl (pg_221 (by omega))) ⟨by omega, by omega, by omega, by omega⟩ rfl ?_
          refine G_if_ne (pc := 550) 555 dL_law_550 (by decide) ⟨by omega, by omega⟩ (fun c550 => ?_) (fun c550 => absurd c550 (by omega))
          refine G_iload (pc := 555) 0 dL_law_555 rfl ?_
          refine G_if_lt (pc := 557) 569 dL_law_557 (by decide) ⟨by omega, by omega⟩ (fun c557 => absurd c557 (by omega)) (fun c557 => ?_)
          refine G_aload (pc := 560) 6 dL_law_560 rfl ?_
          refine G_iload (pc := 562) 0 dL_law_562 rfl ?_
          refine G_dup2 (pc := 564) dL_law_564 rfl rfl ?_
          refine G_iald (pc := 565) dL_law_565 zA6_g ⟨by omega, by omega, by omega, by omega⟩ ?_
          refine G_iconst (pc := 566) dL_law_566 ?_
          refine G_iadd (pc := 567) dL_law_567 ?_
          refine G_iast (pc := 568) dL_law_568 zA6_g ⟨by omega, by omega, by omega, by omega⟩ zA6_p ?_
          refine t569 _ (fun r r0 r6 => ?_)
          rw [sm_last _ 0 p rfl hpb.1]
          show (if r = V (18, n, p, 0) 4 then F (V (18, n, p, 0) 4) + 1 else F r) = _
          by_cases c : r = V (18, n, p, 0) 4
          · rw [if_pos c, ← c, hF r r0 r6]
            have e : zpc1 V n r p = 1 := by unfold zpc1; rw [if_pos c.symm]
            omega
          · rw [if_neg c, hF r r0 r6]
            have e : zpc1 V n r p = 0 := by unfold zpc1; rw [if_neg (fun q => c q.symm)]
            omega
      refine G_iload (pc := 283) 1 dL_law_283 rfl ?_
      refine G_iload (pc := 285) 0 dL_law_285 rfl ?_
      refine G_icmp_ge (pc := 287) 336 dL_law_287 (by decide) ⟨by omega, by omega⟩ ⟨by omega, by omega⟩ (fun c287 => ?_) (fun c287 => ?_)
      · exact t336
      · obtain ⟨u1, u2, u3⟩ := k6 (by omega)
        have ho : inM P (P 4 n 0) p (V (18, n, p, 0) 5) := ⟨k1, by omega⟩
        have u4 := hJ.wv.st4 n p (V (18, n, p, 0) 5)
        have u5 := hJ.wv.s2 ht hp ho
        have u6 := zdq_sp (V := V) (t := P 4 n 0) (p := p) (o := V (18, n, p, 0) 5)
        refine G_aload_n (pc := 290) 3 13 dL_law_290 rfl rfl ?_
        refine G_iload (pc := 291) 9 dL_law_291 rfl ?_
        refine G_iload (pc := 293) 2 dL_law_293 rfl ?_
        refine G_iload (pc := 295) 1 dL_law_295 rfl ?_
        refine G_q (pc := 297) (x := (V (19, n, p, 0) (V (18, n, p, 0) 5))) gk_L_67 dL_law_297 (c_X6_state hP hg hp ho hW) rfl rfl (Nat.le_of_ble_eq_true rfl) (Nat.le_of_ble_eq_true rfl) hR ?_
        refine G_iconst (pc := 300) dL_law_300 ?_
        refine G_icmp_gt (pc := 301) 334 dL_law_301 (by decide) ⟨by omega, by omega⟩ ⟨by omega, by omega⟩ (fun c301 => absurd c301 (by omega)) (fun c301 => ?_)
        refine G_aload_n (pc := 304) 3 13 dL_law_304 rfl rfl ?_
        refine G_iload (pc := 305) 8 dL_law_305 rfl ?_
        refine G_iload (pc := 307) 2 dL_law_307 rfl ?_
        refine G_iload (pc := 309) 1 dL_law_309 rfl ?_
        refine G_iconst (pc := 311) dL_law_311 ?_
        refine G_q (pc := 312) (x := (V (14, P 4 n 0, p, (V (18, n, p, 0) 5)) 4)) gk_L_71 dL_law_312 (q_msg3 hP ht hp ho hW) rfl rfl (Nat.le_of_ble_eq_true rfl) (Nat.le_of_ble_eq_true rfl) hR ?_
        refine G_iconst (pc := 315) dL_law_315 ?_
        refine G_icmp_eq (pc := 316) 334 dL_law_316 (by decide) ⟨by omega, by omega⟩ ⟨by omega, by omega⟩ (fun c316 => absurd c316 (by omega)) (fun c316 => ?_)
        refine G_aload_n (pc := 319) 3 13 dL_law_319 rfl rfl ?_
        refine G_iload (pc := 320) 8 dL_law_320 rfl ?_
        refine G_iload (pc := 322) 2 dL_law_322 rfl ?_
        refine G_iload (pc := 324) 1 dL_law_324 rfl ?_
        refine G_iconst (pc := 326) dL_law_326 ?_
        refine G_q (pc := 327) (x := (zdq V (P 4 n 0) p (V (18, n, p, 0) 5))) gk_L_71 dL_law_327 (q_msg4 hP ht hp ho hW) rfl rfl (Nat.le_of_ble_eq_true rfl) (Nat.le_of_ble_eq_true rfl) hR ?_
        refine G_iconst (pc := 330) dL_law_330 ?_
        refine G_icmp_ne (pc := 331) 336 dL_law_331 (by decide) ⟨by omega, by omega⟩ ⟨by omega, by omega⟩ (fun c331 => ?_) (fun c331 => absurd c331 (by omega))
        exact t336
