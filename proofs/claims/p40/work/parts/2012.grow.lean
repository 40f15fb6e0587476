/-! ===== lists grow ===== -/
section ZANY
variable {Γ : zCx} {R : Room} {cc : ByteArray} {nL : Nat} {own : String} {ad : zK → Nat} {M : zMem} {nc ns pc : Nat} {lv : List (Nat × Value)} {st : List Value}
theorem G_lenO {key : zK} {n : Nat} {F : Int → Option Nat} (hd : decode cc pc = .ok (.arraylength, 1)) (hM : M key = some (zOA (z_d Γ) n F)) (kk : G Γ R cc nL own ad M nc ns (pc + 1) lv (.int (zI n) :: st)) : G Γ R cc nL own ad M nc ns pc lv (.ref (ad key) :: st) := G_alen (t := 4) rfl hd hM kk
theorem G_newO {idx N : Nat} {z : Int} (key : zK) (hcl : Cond.classLink own idx "java/lang/Object" ∈ zAW) (hd : decode cc pc = .ok (.anewarray idx, 3)) (hk : M key = none) (hz : z = N) (hN : 0 ≤ z ∧ z ≤ 100000) (hR : nc + 1 ≤ R.cells ∧ ns + N ≤ R.slots)
    (kk : ∀ ad' : zK → Nat, (∀ k, k ≠ key → ad' k = ad k) → G Γ R cc nL own ad' (zup1 M key (some (zOA (z_d Γ) N (fun _ => none)))) (nc + 1) (ns + N) (pc + 3) lv (.ref (ad' key) :: st)) : G Γ R cc nL own ad M nc ns pc lv (.int (zI z) :: st) := G_newq key hcl (Or.inr (Or.inr rfl)) (t := 4) rfl hd hk hz ⟨by omega, by omega⟩ (by omega) hR kk
end ZANY
set_option maxHeartbeats 4000000 in
set_option maxRecDepth 100000 in
theorem c_grow0 {l : Launch} {Δ : zDl} {ad : zK → Nat} {M : zMem} {kl ka : zK} {m : Int} (h0 : M kl = some (zLi m Δ.2.2.1 0)) (hk : M ka = none) (hne : kl ≠ ka) : zMn l Δ yJx4a65c_grow_92f84 cJx4a65c_grow_92f84 4 (some (.array (.object "java/lang/Object"))) 3 1 10 [.ref (ad kl), .int (zI 1)] ad M (fun v ad' M' => v = some (.ref (ad' ka)) ∧ (∀ k, k ≠ ka → ad' k = ad k) ∧ M' = zup1 (zup1 M ka (some (zOA Δ 10 (fun _ => none)))) kl (some (zLi m (ad' ka) 0))) := by
  refine zMn_of (by decide) (Nat.le_of_ble_eq_true rfl) (fun Γ hl hΔ hF => ?_)
  subst hl hΔ
  show G Γ _ _ _ RJx4a65c _ _ _ _ _ [(0, .ref (ad kl)), (1, .int (zI 1))] []
  refine G_aload_n (pc := 0) 0 0 dJx4a65c_grow_92f84_0 rfl rfl ?_
  refine G_getf (pc := 1) fl_Jx4a65c_9 dJx4a65c_grow_92f84_1 h0 rfl ?_
  refine G_lenD (pc := 4) dJx4a65c_grow_92f84_4 ?_
  refine G_istore_ne (pc := 5) 2 (fun zw => [(2, .int (zI zw)), (0, .ref (ad kl)), (1, .int (zI 1))]) dJx4a65c_grow_92f84_5 rfl (by decide) (fun _ => rfl) (fun v e => ?_)
  refine G_iload_n (pc := 6) 2 0 dJx4a65c_grow_92f84_6 rfl rfl ?_
  refine G_if_gt (pc := 7) 20 dJx4a65c_grow_92f84_7 (by decide) ⟨by omega, by omega⟩ (fun c => absurd c (by omega)) (fun c => ?_)
  refine G_aload_n (pc := 10) 0 1 dJx4a65c_grow_92f84_10 rfl rfl ?_
  refine G_getf (pc := 11) fl_Jx4a65c_9 dJx4a65c_grow_92f84_11 h0 rfl ?_
  refine G_getsD (pc := 14) dJx4a65c_grow_92f84_14 ?_
  refine G_acmp_eq (pc := 17) 45 dJx4a65c_grow_92f84_17 (by decide) (fun c2 => ?_) (fun c2 => absurd rfl c2)
  refine G_aload_n (pc := 45) 0 1 dJx4a65c_grow_92f84_45 rfl rfl ?_
  refine G_bipush (pc := 46) dJx4a65c_grow_92f84_46 (by decide) ?_
  refine G_iload_n (pc := 48) 1 2 dJx4a65c_grow_92f84_48 rfl rfl ?_
  refine G_mmax (pc := 49) mx_Jx4a65c_79 dJx4a65c_grow_92f84_49 ⟨by omega, by omega⟩ ⟨by omega, by omega⟩ ⟨⟨Nat.le_of_ble_eq_true rfl, Nat.le_of_ble_eq_true rfl⟩, Nat.le_of_ble_eq_true rfl, Nat.le_of_ble_eq_true rfl⟩ ?_
  refine G_newO (pc := 52) (N := 10) ka (zAW_of 717 (by decide +kernel) (by decide +kernel)) dJx4a65c_grow_92f84_52 hk (by decide) ⟨by decide, by decide⟩ ⟨Nat.le_of_ble_eq_true rfl, Nat.le_of_ble_eq_true rfl⟩ (fun ad1 had => ?_)
  rw [← had kl hne]
  refine G_dup_x1 (pc := 55) dJx4a65c_grow_92f84_55 rfl rfl ?_
  refine G_putf (pc := 56) fl_Jx4a65c_9 fp_Jx4a65c_1 (fs := [.int (zI m), .ref (z_d Γ).2.2.1, .int (zI 0)]) dJx4a65c_grow_92f84_56 ((zup1_n _ _ hne).trans h0) (Nat.le_of_ble_eq_true rfl) rfl rfl rfl ?_
  exact G_aret (pc := 59) hF (Or.inr ⟨_, rfl⟩) dJx4a65c_grow_92f84_59 ⟨Nat.le_of_ble_eq_true rfl, Nat.le_of_ble_eq_true rfl⟩ ⟨rfl, had, rfl⟩
set_option maxHeartbeats 4000000 in
set_option maxRecDepth 100000 in
theorem c_growA {l : Launch} {Δ : zDl} {ad : zK → Nat} {M : zMem} {kl ka : zK} {m : Int} (h0 : M kl = some (zLi m Δ.2.2.1 0)) (hk : M ka = none) (hne : kl ≠ ka) : zMn l Δ yJx4a65c_grow_d5877 cJx4a65c_grow_d5877 1 (some (.array (.object "java/lang/Object"))) 4 1 10 [.ref (ad kl)] ad M (fun v ad' M' => v = some (.ref (ad' ka)) ∧ (∀ k, k ≠ ka → ad' k = ad k) ∧ M' = zup1 (zup1 M ka (some (zOA Δ 10 (fun _ => none)))) kl (some (zLi m (ad' ka) 0))) := by
  refine zMn_of (by decide) (Nat.le_of_ble_eq_true rfl) (fun Γ hl hΔ hF => ?_)
  subst hl hΔ
  show G Γ _ _ _ RJx4a65c _ _ _ _ _ [(0, .ref (ad kl))] []
  refine G_aload_n (pc := 0) 0 0 dJx4a65c_grow_d5877_0 rfl rfl ?_
  refine G_aload_n (pc := 1) 0 0 dJx4a65c_grow_d5877_1 rfl rfl ?_
  refine G_getf (pc := 2) fl_Jx4a65c_48 dJx4a65c_grow_d5877_2 h0 rfl ?_
  refine G_iconst (pc := 5) dJx4a65c_grow_d5877_5 ?_
  refine G_iadd (pc := 6) dJx4a65c_grow_d5877_6 ?_
  refine G_callV (pc := 7) gk_Jx4a65c_69 dJx4a65c_grow_d5877_7 h0 rfl (c_grow0 h0 hk hne) rfl rfl (Nat.le_of_ble_eq_true rfl) ⟨⟨Nat.le_of_ble_eq_true rfl, Nat.le_of_ble_eq_true rfl⟩, Nat.le_of_ble_eq_true rfl, Nat.le_of_ble_eq_true rfl⟩ (fun v ad1 M1 hpo => ?_)
  obtain ⟨rfl, had, rfl⟩ := hpo
  exact G_aret (pc := 10) hF (Or.inr ⟨_, rfl⟩) dJx4a65c_grow_d5877_10 ⟨Nat.le_of_ble_eq_true rfl, Nat.le_of_ble_eq_true rfl⟩ ⟨rfl, had, rfl⟩
