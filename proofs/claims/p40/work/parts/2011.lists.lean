/-! ===== lists and constructors, over any memory ===== -/
theorem zuu {α : Type} (M : zK → α) (k : zK) (a b : α) : zup1 (zup1 M k a) k b = zup1 M k b := by
  funext j
  by_cases h : j = k
  · rw [h, zup1_s, zup1_s]
  · rw [zup1_n _ _ h, zup1_n _ _ h, zup1_n _ _ h]
theorem zuc {α : Type} (M : zK → α) {k k' : zK} (h : k ≠ k') (a b : α) : zup1 (zup1 M k a) k' b = zup1 (zup1 M k' b) k a := by
  funext j
  by_cases h1 : j = k
  · subst h1
    rw [zup1_n _ _ h, zup1_s, zup1_s]
  · by_cases h2 : j = k'
    · subst h2
      rw [zup1_s, zup1_n _ _ h1, zup1_s]
    · rw [zup1_n _ _ h2, zup1_n _ _ h1, zup1_n _ _ h1, zup1_n _ _ h2]
section ZCI2
variable {Γ : zCx} {R : Room} {cc : ByteArray} {nL : Nat} {own : String} {ad : zK → Nat} {M M' : zMem} {nc ns pc : Nat} {lv : List (Nat × Value)} {st : List Value}
theorem G_callIv {q : Nat} {idx n d mc ms maxL : Nat} {y : MethodName} {b : ByteArray} {As rest : List Value} (hw : zCI own idx y b maxL n) (hd : decode cc pc = .ok (.invokespecial idx, 3)) (hm : zMn (z_l Γ) (z_d Γ) y b maxL none d mc ms (.ref q :: As) ad M (zD none ad M')) (hn : As.length = n) (hst : st = As.reverse ++ .ref q :: rest) (hro : (rest.map fun v => v.category).sum ≤ 8) (hR : zRo R d mc ms maxL nc ns)
    (kk : G Γ R cc nL own ad M' (nc + mc) (ns + ms) (pc + 3) lv rest) : G Γ R cc nL own ad M nc ns pc lv st :=
  G_callI hw hd hm hn hst hro hR (fun v ad' M1 h => by obtain ⟨rfl, rfl, rfl⟩ := h; exact kk)
end ZCI2
/-- a list, its fields not yet set -/
def zLd : va_E := .inr (0, [.int (zI 0), .null, .int (zI 0)])
theorem zup1_id {M : zMem} {k : zK} {e : va_E} (h : M k = some e) : zup1 M k (some e) = M := by
  funext j
  by_cases hj : j = k
  · rw [hj, zup1_s, h]
  · rw [zup1_n _ _ hj]
set_option maxHeartbeats 4000000 in
set_option maxRecDepth 100000 in
theorem c_Jxa1e45_init_da8c8 {l : Launch} {Δ : zDl} {ad : zK → Nat} {M : zMem} {q : Nat} : zMn l Δ yJxa1e45_init_da8c8 cJxa1e45_init_da8c8 1 none 1 0 0 [.ref q] ad M (zD none ad M) := by
  refine zMn_of (by decide) (Nat.le_of_ble_eq_true rfl) (fun Γ hl hΔ hF => ?_)
  subst hl hΔ
  show G Γ _ _ _ RJxa1e45 _ _ _ _ _ [(0, .ref q)] []
  refine G_aload_n (pc := 0) 0 0 dJxa1e45_init_da8c8_0 rfl rfl ?_
  refine G_objInit (pc := 1) oi_Jxa1e45_1 dJxa1e45_init_da8c8_1 ⟨Nat.le_of_ble_eq_true rfl, Nat.le_of_ble_eq_true rfl⟩ ?_
  exact G_vret_d (pc := 4) hF dJxa1e45_init_da8c8_4 ⟨Nat.le_of_ble_eq_true rfl, Nat.le_of_ble_eq_true rfl⟩ rfl
set_option maxHeartbeats 4000000 in
set_option maxRecDepth 100000 in
theorem c_Jxc12de_init_da8c8 {l : Launch} {Δ : zDl} {ad : zK → Nat} {M : zMem} {kl : zK} (h0 : M kl = some zLd) : zMn l Δ yJxc12de_init_da8c8 cJxc12de_init_da8c8 1 none 2 0 0 [.ref (ad kl)] ad M (zD none ad M) := by
  refine zMn_of (by decide) (Nat.le_of_ble_eq_true rfl) (fun Γ hl hΔ hF => ?_)
  subst hl hΔ
  show G Γ _ _ _ RJxc12de _ _ _ _ _ [(0, .ref (ad kl))] []
  refine G_aload_n (pc := 0) 0 0 dJxc12de_init_da8c8_0 rfl rfl ?_
  refine G_callIv (pc := 1) gk_Jxc12de_1 dJxc12de_init_da8c8_1 c_Jxa1e45_init_da8c8 rfl rfl (Nat.le_of_ble_eq_true rfl) ⟨⟨Nat.le_of_ble_eq_true rfl, Nat.le_of_ble_eq_true rfl⟩, Nat.le_of_ble_eq_true rfl, Nat.le_of_ble_eq_true rfl⟩ ?_
  refine G_aload_n (pc := 4) 0 0 dJxc12de_init_da8c8_4 rfl rfl ?_
  refine G_iconst (pc := 5) dJxc12de_init_da8c8_5 ?_
  refine G_putf (pc := 6) fl_Jxc12de_7 fp_Jx4a65c_0 dJxc12de_init_da8c8_6 h0 (Nat.le_of_ble_eq_true rfl) rfl rfl rfl ?_
  exact G_vret_d (pc := 9) hF dJxc12de_init_da8c8_9 ⟨Nat.le_of_ble_eq_true rfl, Nat.le_of_ble_eq_true rfl⟩ (zup1_id h0)
set_option maxHeartbeats 4000000 in
set_option maxRecDepth 100000 in
theorem c_Jx4a65c_init_da8c8 {l : Launch} {Δ : zDl} {ad : zK → Nat} {M : zMem} {kl : zK} (h0 : M kl = some zLd) : zMn l Δ yJx4a65c_init_da8c8 cJx4a65c_init_da8c8 1 none 3 0 0 [.ref (ad kl)] ad M (zD none ad (zup1 M kl (some (zLi 0 Δ.2.2.1 0)))) := by
  refine zMn_of (by decide) (Nat.le_of_ble_eq_true rfl) (fun Γ hl hΔ hF => ?_)
  subst hl hΔ
  show G Γ _ _ _ RJx4a65c _ _ _ _ _ [(0, .ref (ad kl))] []
  refine G_aload_n (pc := 0) 0 0 dJx4a65c_init_da8c8_0 rfl rfl ?_
  refine G_callIv (pc := 1) gk_Jx4a65c_1 dJx4a65c_init_da8c8_1 (c_Jxc12de_init_da8c8 h0) rfl rfl (Nat.le_of_ble_eq_true rfl) ⟨⟨Nat.le_of_ble_eq_true rfl, Nat.le_of_ble_eq_true rfl⟩, Nat.le_of_ble_eq_true rfl, Nat.le_of_ble_eq_true rfl⟩ ?_
  refine G_aload_n (pc := 4) 0 0 dJx4a65c_init_da8c8_4 rfl rfl ?_
  refine G_getsD (pc := 5) dJx4a65c_init_da8c8_5 ?_
  refine G_putf (pc := 8) fl_Jx4a65c_9 fp_Jx4a65c_1 dJx4a65c_init_da8c8_8 h0 (Nat.le_of_ble_eq_true rfl) rfl rfl rfl ?_
  exact G_vret_d (pc := 11) hF dJx4a65c_init_da8c8_11 ⟨Nat.le_of_ble_eq_true rfl, Nat.le_of_ble_eq_true rfl⟩ rfl
set_option maxHeartbeats 4000000 in
set_option maxRecDepth 100000 in
theorem c_J8_newLength_cabcc {l : Launch} {Δ : zDl} {ad : zK → Nat} {M : zMem} {n x : Int} (hn : 0 ≤ n ∧ n ≤ 200) (hx : 0 ≤ x ∧ x ≤ 200) : zMn l Δ yJ8_newLength_cabcc cJ8_newLength_cabcc 4 (some .int) 2 0 0 [.int (zI n), .int (zI 1), .int (zI x)] ad M (zD (some (.int (zI (n + max 1 x)))) ad M) := by
  refine zMn_of (by decide) (Nat.le_of_ble_eq_true rfl) (fun Γ hl hΔ hF => ?_)
  subst hl hΔ
  show G Γ _ _ _ RJ8 _ _ _ _ _ [(0, .int (zI n)), (1, .int (zI 1)), (2, .int (zI x))] []
  refine G_iload_n (pc := 0) 0 0 dJ8_newLength_cabcc_0 rfl rfl ?_
  refine G_iload_n (pc := 1) 1 1 dJ8_newLength_cabcc_1 rfl rfl ?_
  refine G_iload_n (pc := 2) 2 2 dJ8_newLength_cabcc_2 rfl rfl ?_
  refine G_mmax (pc := 3) mx_J8_194 dJ8_newLength_cabcc_3 ⟨by omega, by omega⟩ ⟨by omega, by omega⟩ ⟨⟨Nat.le_of_ble_eq_true rfl, Nat.le_of_ble_eq_true rfl⟩, Nat.le_of_ble_eq_true rfl, Nat.le_of_ble_eq_true rfl⟩ ?_
  refine G_iadd (pc := 6) dJ8_newLength_cabcc_6 ?_
  refine G_istore_ne (pc := 7) 3 (fun zw => [(3, .int (zI zw)), (0, .int (zI n)), (1, .int (zI 1)), (2, .int (zI x))]) dJ8_newLength_cabcc_7 rfl (by decide) (fun _ => rfl) (fun v e => ?_)
  refine G_iconst (pc := 8) dJ8_newLength_cabcc_8 ?_
  refine G_iload_n (pc := 9) 3 0 dJ8_newLength_cabcc_9 rfl rfl ?_
  refine G_icmp_ge (pc := 10) 21 dJ8_newLength_cabcc_10 (by decide) ⟨by omega, by omega⟩ ⟨by omega, by omega⟩ (fun c => absurd c (by omega)) (fun c => ?_)
  refine G_iload_n (pc := 13) 3 0 dJ8_newLength_cabcc_13 rfl rfl ?_
  refine G_ldcI (pc := 14) (z := 2147483639) (zAW_of 685 (by decide +kernel) (by decide +kernel)) dJ8_newLength_cabcc_14 ?_
  refine G_icmp_gt (pc := 16) 21 dJ8_newLength_cabcc_16 (by decide) ⟨by omega, by omega⟩ ⟨by omega, by omega⟩ (fun c => absurd c (by omega)) (fun c2 => ?_)
  refine G_iload_n (pc := 19) 3 0 dJ8_newLength_cabcc_19 rfl rfl ?_
  exact G_iret_d (pc := 20) hF dJ8_newLength_cabcc_20 ⟨Nat.le_of_ble_eq_true rfl, Nat.le_of_ble_eq_true rfl⟩ e
