/-! ===== the model's begin, where its array grows ===== -/
def zPb (P : zP) : zP := fun m i j => if m = 61 ∧ i = 0 ∧ j = 0 then 2 * P 61 0 0 else P m i j
theorem zPb_61 {P : zP} : zPb P 61 0 0 = 2 * P 61 0 0 := rfl
theorem zPb_m {P : zP} {m : Nat} {i j : Int} (h : ¬ m = 61) : zPb P m i j = P m i j := if_neg (fun q => h q.1)
set_option maxHeartbeats 2000000 in
set_option maxRecDepth 100000 in
theorem mm_begin {Δ : zDl} {ad1 : zK → Nat} {P : zP} {S : zS} {X M3 : zMem} {F : Int → Int} {N : Nat} (hX : X (90, 0, 0, 0) = none)
    (hM : ∀ k, k ≠ (40, 0, 0, 0) → k ≠ (90, 0, 0, 0) → M3 k = mm Δ ad1 P S X k) (h40 : ∀ L, mm Δ ad1 P S X (40, 0, 0, 0) = some (.inr (8, L)) → M3 (40, 0, 0, 0) = some (.inr (8, L.set 21 (.ref (ad1 (90, 0, 0, 0))))))
    (h90 : M3 (90, 0, 0, 0) = some (.inl (Δ.2.1 0, N, .inl (zAi F)))) (hN : (2 * P 61 0 0).toNat = N) : ∀ k e', mm Δ (zup1 ad1 (61, 0, 0, 0) (ad1 (90, 0, 0, 0))) (zPb P) (zup1 S (61, 0, 0, 0) F) X k = some e' → M3 (if k = (61, 0, 0, 0) then (90, 0, 0, 0) else k) = some e' ∧ zup1 ad1 (61, 0, 0, 0) (ad1 (90, 0, 0, 0)) k = ad1 (if k = (61, 0, 0, 0) then (90, 0, 0, 0) else k) := by
  intro k e' hk
  refine ⟨?_, ?_⟩
  rotate_left
  · by_cases q : k = (61, 0, 0, 0)
    · rw [q, zup1_s, if_pos rfl]
    · rw [zup1_n _ _ q, if_neg q]
  obtain ⟨N', i, j, o⟩ := k
  by_cases h80 : N' < 80
  rotate_left
  · rw [mm_ge _ h80] at hk
    have h90' : ((N', i, j, o) : zK) ≠ (90, 0, 0, 0) := fun q => by rw [q, hX] at hk; cases hk
    have h61 : ((N', i, j, o) : zK) ≠ (61, 0, 0, 0) := fun q => by simp only [Prod.mk.injEq] at q; omega
    have h40' : ((N', i, j, o) : zK) ≠ (40, 0, 0, 0) := fun q => by simp only [Prod.mk.injEq] at q; omega
    rw [if_neg h61, hM _ h40' h90', mm_ge _ h80]
    exact hk
  have hk2 := hk
  rw [mm_lt _ h80] at hk
  by_cases c61 : N' = 61
  · subst c61
    have hk' : zc61 Δ (zup1 ad1 (61, 0, 0, 0) (ad1 (90, 0, 0, 0))) (zPb P) i j o (zup1 S (61, 0, 0, 0) F (61, i, j, o)) = some e' := hk
    have c := zif_some hk'
    obtain ⟨rfl, rfl, rfl⟩ := c
    rw [show zc61 Δ (zup1 ad1 (61, 0, 0, 0) (ad1 (90, 0, 0, 0))) (zPb P) 0 0 0 (zup1 S (61, 0, 0, 0) F (61, 0, 0, 0)) = _ from if_pos ⟨rfl, rfl, rfl⟩, zup1_s, zPb_61, hN] at hk'
    rw [if_pos rfl, h90]
    exact hk'
  have h61 : ((N', i, j, o) : zK) ≠ (61, 0, 0, 0) := fun q => c61 (congrArg Prod.fst q)
  rw [if_neg h61]
  by_cases c40 : N' = 40
  · subst c40
    have hk' : zc40 Δ (zup1 ad1 (61, 0, 0, 0) (ad1 (90, 0, 0, 0))) (zPb P) i j o (zup1 S (61, 0, 0, 0) F (40, i, j, o)) = some e' := hk
    have c := zif_some hk'
    obtain ⟨rfl, rfl, rfl⟩ := c
    rw [h40 _ mg_40, ← hk']
    rfl
  have h40' : ((N', i, j, o) : zK) ≠ (40, 0, 0, 0) := fun q => c40 (congrArg Prod.fst q)
  have h90' : ((N', i, j, o) : zK) ≠ (90, 0, 0, 0) := fun q => by simp only [Prod.mk.injEq] at q; omega
  have eT : ∀ (a : Nat) (i j o : Int), a ≠ 61 → zup1 ad1 (61, 0, 0, 0) (ad1 (90, 0, 0, 0)) (a, i, j, o) = ad1 (a, i, j, o) := fun a i j o h => zup1_n _ _ (fun q => h (congrArg Prod.fst q))
  rw [hM _ h40' h90', ← hk2]
  refine Eq.symm (mm_old (fun _ => ⟨⟨fun _ => ⟨rfl, rfl⟩, fun _ => ⟨rfl, rfl⟩, fun _ => ⟨Iff.rfl, fun _ => ⟨rfl, fun _ => ⟨rfl, rfl⟩⟩⟩, fun _ => ⟨Iff.rfl, fun _ => ⟨rfl, rfl⟩⟩, fun w => absurd w c61⟩, fun w hw => ?_, zup1_n _ _ h61⟩))
  rcases hw with ⟨a0, q1 | q1 | q1 | q1⟩ | ⟨a0, q1⟩ | ⟨a0, q1⟩ | ⟨a0, x, hx, q1⟩ | ⟨a0, q1⟩ | ⟨a0, x, hx, q1⟩ | ⟨a0, hx, q1 | q1⟩ | ⟨a0, hx, x, q1⟩ | ⟨a0, hx, q1⟩ | ⟨a0, hx, q1⟩ | ⟨a0, hx, x, hx2, q1⟩ | ⟨a0, hx, q1 | q1⟩ | ⟨a0, hx, x, q1⟩ | ⟨a0, hx, q1 | q1 | q1 | q1⟩ | ⟨a0, x, hx, q1⟩ <;> subst q1 <;> simp only at a0
  all_goals first
    | exact absurd a0 c40
    | exact eT _ _ _ _ (by decide)
def mbg (S : zS) (x n : Int) : zS := zst (zst (zst (zup1 (zst S (40, 0, 0, 0) 0 0) (61, 0, 0, 0) (zcp (S (61, 0, 0, 0)) (fun _ => 0) 0 0 n)) (62, 0, 0, 0) x n) (40, 0, 0, 0) 20 (n + 1)) (61, 0, 0, 0) n 0
set_option maxHeartbeats 4000000 in
set_option maxRecDepth 100000 in
theorem c_X7_begin_g {l : Launch} {Δ : zDl} {ad : zK → Nat} {P : zP} {S : zS} {X : zMem} {Q : zP} {x : Int} (hV : zWM Q S) (h61 : Q 61 0 0 = P 61 0 0) (hx : 0 ≤ x ∧ x < 4) (h1 : S (62, 0, 0, 0) x = -1) (ht : S (40, 0, 0, 0) 20 = Q 61 0 0) (hbig : Q 61 0 0 ≤ 1024) (hX0 : X (90, 0, 0, 0) = none) : zMn l Δ yX7_begin cX7_begin 3 (some .int) 9 1 2048 [.ref (ad (40, 0, 0, 0)), .int (zI x)] ad (mm Δ ad P S X) (fun v ad' M' => v = some (.int (zI (S (40, 0, 0, 0) 20 + 1))) ∧ M' = mm Δ ad' (zPb P) (mbg S x (S (40, 0, 0, 0) 20)) X ∧ ∀ k, k ≠ (61, 0, 0, 0) → k ≠ (90, 0, 0, 0) → ad' k = ad k) := by
  refine zMn_of (by decide) (Nat.le_of_ble_eq_true rfl) (fun Γ hl hΔ hF => ?_)
  subst hl hΔ
  show G Γ _ _ _ RX7 _ _ _ _ _ [(0, .ref (ad (40, 0, 0, 0))), (1, .int (zI x))] []
  have hq := hV.q
  refine G_aload_n (pc := 0) 0 0 dX7_begin_0 rfl rfl ?_
  refine G_iconst (pc := 1) dX7_begin_1 ?_
  refine G_putf (pc := 2) fl_X7_93 fp_X7_0 dX7_begin_2 mg_40 (Nat.le_of_ble_eq_true rfl) rfl rfl (mp_40_0 _) ?_
  refine G_name (fun S1_2 hS1_2 => ?_)
  have hVS1_2 : zWM Q S1_2 := by rw [hS1_2]; exact hV.s40_0 (by first | assumption | exact ⟨by omega, by omega⟩)
  have h62 : S1_2 (62, 0, 0, 0) x = S (62, 0, 0, 0) x := by rw [hS1_2, zst_k _ _ _ _ (by simp)]
  have h20 : S1_2 (40, 0, 0, 0) 20 = S (40, 0, 0, 0) 20 := by rw [hS1_2, zst_f _ _ _ (by decide)]
  refine G_iload_n (pc := 5) 1 1 dX7_begin_5 rfl rfl ?_
  refine G_callSd (pc := 6) gk_X7_137 dX7_begin_6 (c_X7_isProducer (by first | assumption | omega | exact ⟨by omega, by omega⟩ | exact hS _ _ | exact hT _ _)) rfl rfl (Nat.le_of_ble_eq_true rfl) ⟨⟨Nat.le_of_ble_eq_true rfl, Nat.le_of_ble_eq_true rfl⟩, Nat.le_of_ble_eq_true rfl, Nat.le_of_ble_eq_true rfl⟩ ?_
  refine G_if_ne_b (pc := 9) 18 dX7_begin_9 (by decide) (fun c9 => ?_) (fun c9 => ?_)
  · refine G_aload_n (pc := 18) 0 0 dX7_begin_18 rfl rfl ?_
    refine G_getf (pc := 19) fl_X7_63 dX7_begin_19 mg_40 rfl ?_
    refine G_iload_n (pc := 22) 1 1 dX7_begin_22 rfl rfl ?_
    refine G_iald (pc := 23) dX7_begin_23 mg_62 ⟨by omega, by omega, by omega, by omega⟩ ?_
    have hb23 := hVS1_2.b62 (x)
    refine G_iconst (pc := 24) dX7_begin_24 ?_
    refine G_icmp_eq (pc := 25) 34 dX7_begin_25 (by decide) (by first | exact hS _ _ | exact hT _ _ | exact ⟨by omega, by omega⟩ | assumption | exact zWM.r (by assumption) _ _ (by decide)) (by first | exact hS _ _ | exact hT _ _ | exact ⟨by omega, by omega⟩ | assumption | exact zWM.r (by assumption) _ _ (by decide)) (fun c25 => ?_) (fun c25 => ?_)
    · refine G_aload_n (pc := 34) 0 0 dX7_begin_34 rfl rfl ?_
      refine G_getf (pc := 35) fl_X7_149 dX7_begin_35 mg_40 rfl ?_
      have hb35 := hVS1_2.f20
      refine G_aload_n (pc := 38) 0 0 dX7_begin_38 rfl rfl ?_
      refine G_getf (pc := 39) fl_X7_60 dX7_begin_39 mg_40 rfl ?_
      refine G_alen (pc := 42) (t := 0) rfl dX7_begin_42 mg_61 ?_
      refine G_icmp_ne (pc := 43) 74 dX7_begin_43 (by decide) (by first | exact hS _ _ | exact hT _ _ | exact ⟨by omega, by omega⟩ | assumption | exact zWM.r (by assumption) _ _ (by decide)) (by first | exact hS _ _ | exact hT _ _ | exact ⟨by omega, by omega⟩ | assumption | exact zWM.r (by assumption) _ _ (by decide)) (fun c43 => ?_) (fun c43 => ?_)
      · exfalso
        omega
      · refine G_iconst (pc := 46) dX7_begin_46 ?_
        refine G_aload_n (pc := 47) 0 0 dX7_begin_47 rfl rfl ?_
        refine G_getf (pc := 48) fl_X7_149 dX7_begin_48 mg_40 rfl ?_
        refine G_imul (pc := 51) dX7_begin_51 ?_
        refine G_newI (pc := 52) (N := (2 * P 61 0 0).toNat) (lvf := fun ad => [(0, .ref (ad (40, 0, 0, 0))), (1, .int (zI x))]) (stf := fun ad => []) hX0 dX7_begin_52 (by omega) ⟨by omega, by omega⟩ ⟨Nat.le_of_ble_eq_true rfl, by show 0 + (2 * P 61 0 0).toNat ≤ 2048; omega⟩ (fun ad' h => ⟨by rw [h (40, 0, 0, 0) (by decide)], rfl⟩) (fun ad1 had1 => ?_)
        show G Γ _ _ _ _ _ _ _ _ _ [(0, .ref (ad1 (40, 0, 0, 0))), (1, .int (zI x))] [.ref (ad1 (90, 0, 0, 0))]
        refine G_astore_n (pc := 54) 2 [(2, .ref (ad1 (90, 0, 0, 0))), (0, .ref (ad1 (40, 0, 0, 0))), (1, .int (zI x))] dX7_begin_54 rfl (by decide) rfl ?_
        refine G_aload_n (pc := 55) 0 1 dX7_begin_55 rfl rfl ?_
        refine G_getf (pc := 56) fl_X7_60 dX7_begin_56 mg_40 rfl ?_
        refine G_iconst (pc := 59) dX7_begin_59 ?_
        refine G_aload_n (pc := 60) 2 0 dX7_begin_60 rfl rfl ?_
        refine G_iconst (pc := 61) dX7_begin_61 ?_
        refine G_aload_n (pc := 62) 0 1 dX7_begin_62 rfl rfl ?_
        refine G_getf (pc := 63) fl_X7_149 dX7_begin_63 mg_40 rfl ?_
        refine G_copy (pc := 66) (k0 := (61, 0, 0, 0)) (k1 := (90, 0, 0, 0)) dX7_begin_66 mg_61 zTm_g ⟨by omega, by omega⟩ ⟨by omega, by omega⟩ (by omega) ⟨by omega, by omega⟩ ⟨Nat.le_of_ble_eq_true rfl, Nat.le_of_ble_eq_true rfl⟩ zTm_p ?_
        refine G_aload_n (pc := 69) 0 1 dX7_begin_69 rfl rfl ?_
        refine G_aload_n (pc := 70) 2 0 dX7_begin_70 rfl rfl ?_
        refine G_putf (pc := 71) fl_X7_60 fp_X7_21 dX7_begin_71 mg_40 (Nat.le_of_ble_eq_true rfl) rfl rfl rfl ?_
        refine G_nm (fun M3 hM3 => ?_)
        have key := mm_begin (Δ := z_d Γ) (ad1 := ad1) (P := P) (S := S1_2) (X := X) (M3 := M3) (F := zcp (S1_2 (61, 0, 0, 0)) (fun _ => 0) 0 0 (S1_2 (40, 0, 0, 0) 20)) hX0
          (fun k h1 h2 => by
            rw [hM3, zup1_n _ _ h1]
            by_cases h80 : k.1 < 80
            · rw [mm_lt _ h80, mm_lt _ h80]
            · rw [mm_ge _ h80, mm_ge _ h80]
              exact zup1_n _ _ h2)
          (fun L hL => by
            rw [hM3, zup1_s]
            rw [mg_40] at hL
            injection hL with hL
            injection hL with hL
            injection hL with hL1 hL2
            rw [← hL2])
          (by rw [hM3, zup1_n _ _ (by simp)]; exact zTm_g) rfl
        refine G_ren (ad' := zup1 ad1 (61, 0, 0, 0) (ad1 (90, 0, 0, 0))) (M' := mm (z_d Γ) (zup1 ad1 (61, 0, 0, 0) (ad1 (90, 0, 0, 0))) (zPb P) (zup1 S1_2 (61, 0, 0, 0) (zcp (S1_2 (61, 0, 0, 0)) (fun _ => 0) 0 0 (S1_2 (40, 0, 0, 0) 20))) X) (fun k => if k = (61, 0, 0, 0) then (90, 0, 0, 0) else k) key (fun y y' hy hy' e => ?_) ?_
        · have n90 : ∀ y, mm (z_d Γ) (zup1 ad1 (61, 0, 0, 0) (ad1 (90, 0, 0, 0))) (zPb P) (zup1 S1_2 (61, 0, 0, 0) (zcp (S1_2 (61, 0, 0, 0)) (fun _ => 0) 0 0 (S1_2 (40, 0, 0, 0) 20))) X y ≠ none → y ≠ (90, 0, 0, 0) := fun y hy q => hy (by rw [q]; exact (mm_ge _ (by decide)).trans hX0)
          have g1 := n90 y hy
          have g2 := n90 y' hy'
          by_cases q1 : y = (61, 0, 0, 0) <;> by_cases q2 : y' = (61, 0, 0, 0)
          · rw [q1, q2]
          · simp only [if_pos q1, if_neg q2] at e
            exact absurd e.symm g2
          · simp only [if_neg q1, if_pos q2] at e
            exact absurd e g1
          · simpa only [if_neg q1, if_neg q2] using e
        have hadF : ∀ k, k ≠ (61, 0, 0, 0) → k ≠ (90, 0, 0, 0) → zup1 ad1 (61, 0, 0, 0) (ad1 (90, 0, 0, 0)) k = ad k := fun k e1 e2 => (zup1_n _ _ e1).trans (had1 k e2)
        refine G_perm [1, 2] rfl ?_
        rw [show ad1 (40, 0, 0, 0) = zup1 ad1 (61, 0, 0, 0) (ad1 (90, 0, 0, 0)) (40, 0, 0, 0) from (had1 _ (by simp)).trans (hadF _ (by simp) (by simp)).symm]
        generalize zup1 ad1 (61, 0, 0, 0) (ad1 (90, 0, 0, 0)) = ad4 at hadF ⊢
        refine G_name (fun S2 hS2 => ?_)
        have e20 : S2 (40, 0, 0, 0) 20 = S (40, 0, 0, 0) 20 := by rw [hS2, zup1_n _ _ (by simp), h20]
        have p61 : zPb P 61 0 0 = 2 * P 61 0 0 := rfl
        refine G_aload_n (pc := 74) 0 0 dX7_begin_74 rfl rfl ?_
        refine G_getf (pc := 75) fl_X7_63 dX7_begin_75 mg_40 rfl ?_
        refine G_iload_n (pc := 78) 1 1 dX7_begin_78 rfl rfl ?_
        refine G_aload_n (pc := 79) 0 0 dX7_begin_79 rfl rfl ?_
        refine G_getf (pc := 80) fl_X7_149 dX7_begin_80 mg_40 rfl ?_
        refine G_iast (pc := 83) dX7_begin_83 mg_62 ⟨by omega, by omega, by omega, by omega⟩ (mp_62 _ _) ?_
        rw [e20]
        refine G_name (fun S3 hS3 => ?_)
        have e203 : S3 (40, 0, 0, 0) 20 = S (40, 0, 0, 0) 20 := by rw [hS3, zst_k _ _ _ _ (by simp), e20]
        refine G_aload_n (pc := 84) 0 0 dX7_begin_84 rfl rfl ?_
        refine G_getf (pc := 85) fl_X7_60 dX7_begin_85 mg_40 rfl ?_
        refine G_aload_n (pc := 88) 0 0 dX7_begin_88 rfl rfl ?_
        refine G_dup (pc := 89) dX7_begin_89 rfl ?_
        refine G_getf (pc := 90) fl_X7_149 dX7_begin_90 mg_40 rfl ?_
        refine G_dup_x1 (pc := 93) dX7_begin_93 rfl rfl ?_
        refine G_iconst (pc := 94) dX7_begin_94 ?_
        refine G_iadd (pc := 95) dX7_begin_95 ?_
        refine G_putf (pc := 96) fl_X7_149 fp_X7_20 dX7_begin_96 mg_40 (Nat.le_of_ble_eq_true rfl) rfl rfl (mp_40_20 _) ?_
        rw [e203]
        refine G_name (fun S4 hS4 => ?_)
        refine G_iconst (pc := 99) dX7_begin_99 ?_
        refine G_iast (pc := 100) dX7_begin_100 mg_61 ⟨by omega, by omega, by omega, by omega⟩ (mp_61 _ _) ?_
        refine G_name (fun S5 hS5 => ?_)
        refine G_aload_n (pc := 101) 0 0 dX7_begin_101 rfl rfl ?_
        refine G_getf (pc := 102) fl_X7_149 dX7_begin_102 mg_40 rfl ?_
        refine G_iret (pc := 105) hF dX7_begin_105 ⟨Nat.le_of_ble_eq_true rfl, by show 0 + (2 * P 61 0 0).toNat ≤ 2048; omega⟩ ⟨?_, ?_, hadF⟩
        · rw [hS5, zst_k _ _ _ _ (by simp), hS4, zst_s]
        · rw [hS5, hS4, hS3, hS2, h20, hS1_2, show zst S (40, 0, 0, 0) 0 0 (61, 0, 0, 0) = S (61, 0, 0, 0) from zup1_n _ _ (by simp)]
          rfl
    · exfalso
      omega
  · exfalso
    omega
