/-! ===== what the Pier draws ===== -/
theorem zI_and {x : Int32} : ∃ z : Int, (0 ≤ z ∧ z < 2147483648) ∧ (x &&& zI 2147483647) = zI z := by
  obtain ⟨z, hz, e⟩ := zI_of (x &&& zI 2147483647)
  refine ⟨z, ⟨?_, hz.2⟩, e⟩
  have h1 : 0 ≤ (x &&& zI 2147483647).toInt := by
    have e2 : (x &&& zI 2147483647).toInt = (x.toBitVec &&& (2147483647 : BitVec 32)).toInt := rfl
    rw [e2, BitVec.toInt_eq_msb_cond, BitVec.msb_and]
    have : (2147483647 : BitVec 32).msb = false := by decide
    rw [this, Bool.and_false]
    simp
  rw [e, zI_toInt hz] at h1
  exact h1
theorem kL_7 : Cond.constant RL 7 (zI 2147483647) ∈ zAW := zAW_of 605 (by decide +kernel) (by decide +kernel)
theorem kL_8 : Cond.constant RL 8 (zI 790386105) ∈ zAW := zAW_of 601 (by decide +kernel) (by decide +kernel)
section ZDRAW
variable {Γ : zCx} {R : Room} {cc : ByteArray} {nL : Nat} {own : String} {ad : zK → Nat} {M : zMem} {nc ns pc : Nat} {lv : List (Nat × Value)} {st : List Value}
theorem G_iandM {x : Int32} (hd : decode cc pc = .ok (.iand, 1)) (kk : ∀ z : Int, (0 ≤ z ∧ z < 2147483648) → G Γ R cc nL own ad M nc ns (pc + 1) lv (.int (zI z) :: st)) : G Γ R cc nL own ad M nc ns pc lv (.int (zI 2147483647) :: .int x :: st) := fun C H locs ls h1 h2 h3 h4 => by
  obtain ⟨z, hz, e⟩ := zI_and (x := x)
  exact lv_iand C.1 C.2.1 hd (by rw [e]; exact kk z hz C H locs ls h1 h2 h3 h4)
theorem G_ishrR {x y : Int32} (hd : decode cc pc = .ok (.ishr, 1)) (kk : ∀ z : Int, zR z → G Γ R cc nL own ad M nc ns (pc + 1) lv (.int (zI z) :: st)) : G Γ R cc nL own ad M nc ns pc lv (.int y :: .int x :: st) := fun C H locs ls h1 h2 h3 h4 => by
  obtain ⟨z, hz, e⟩ := zI_of (x >>> (y &&& 31))
  exact lv_ishr C.1 C.2.1 hd (by rw [e]; exact kk z hz C H locs ls h1 h2 h3 h4)
/-- the script -/
theorem G_slenC (hL : (z_d Γ).2.2.2.2.1 ≤ 3072) (hd : decode cc pc = .ok (.arraylength, 1)) (kk : G Γ R cc nL own ad M nc ns (pc + 1) lv (.int (zI (z_d Γ).2.2.2.2.1) :: st)) : G Γ R cc nL own ad M nc ns pc lv (.ref (z_d Γ).2.2.2.1 :: st) := by
  intro C H locs ls h1 h2 h3 h4
  obtain ⟨q1, q2⟩ := zscC C
  exact va_slen C.1 C.2.1 q1 (zXlt q1) q2 h3 hd (by rw [zI_nat]; exact kk C H locs ls h1 h2 h3 h4)
theorem G_sldC {a : Int} (hd : decode cc pc = .ok (.iaload, 1)) (ha : 0 ≤ a ∧ a < (z_d Γ).2.2.2.2.1 ∧ zR a) (kk : ∀ z : Int, zR z → G Γ R cc nL own ad M nc ns (pc + 1) lv (.int (zI z) :: st)) : G Γ R cc nL own ad M nc ns pc lv (.int (zI a) :: .ref (z_d Γ).2.2.2.1 :: st) := by
  intro C H locs ls h1 h2 h3 h4
  obtain ⟨q1, q2⟩ := zscC C
  obtain ⟨z, hz, e⟩ := zI_of ((z_d Γ).2.2.2.2.2 (zI a).toNatClampNeg)
  exact va_sld C.1 C.2.1 q1 (zXlt q1) q2 h3 (zI_in ha.1 ha.2.1 ha.2.2) hd (by rw [e]; exact kk z hz C H locs ls h1 h2 h3 h4)
end ZDRAW
/-- some int below n, and nothing else -/
def zPi (ad : zK → Nat) (M : zMem) (q : Int → Prop) : zPo := fun v ad' M' => ∃ r, v = some (.int (zI r)) ∧ q r ∧ ad' = ad ∧ M' = M
set_option maxHeartbeats 4000000 in
set_option maxRecDepth 100000 in
theorem c_L_below {l : Launch} {Δ : zDl} {ad : zK → Nat} {M : zMem} {x n : Int} (hn : 1 ≤ n ∧ n ≤ 1000000) : zMn l Δ yL_below cL_below 2 (some .int) 1 0 0 [.int (zI x), .int (zI n)] ad M (zPi ad M (fun r => 0 ≤ r ∧ r < n)) := by
  refine zMn_of (by decide) (Nat.le_of_ble_eq_true rfl) (fun Γ hl hΔ hF => ?_)
  subst hl hΔ
  show G Γ _ _ _ RL _ _ _ _ _ [(0, .int (zI x)), (1, .int (zI n))] []
  refine G_iload_n (pc := 0) 0 0 dL_below_0 rfl rfl ?_
  refine G_ldcI (pc := 1) (z := 2147483647) kL_7 dL_below_1 ?_
  refine G_iandM (pc := 3) dL_below_3 (fun z hz => ?_)
  refine G_iload_n (pc := 4) 1 1 dL_below_4 rfl rfl ?_
  refine G_irem (pc := 5) dL_below_5 ⟨by omega, by omega, by omega⟩ ⟨by omega, by omega, by omega⟩ ?_
  exact G_iret (pc := 6) hF dL_below_6 ⟨Nat.le_of_ble_eq_true rfl, Nat.le_of_ble_eq_true rfl⟩ ⟨z % n, rfl, ⟨Int.emod_nonneg _ (by omega), Int.emod_lt_of_pos _ (by omega)⟩, rfl, rfl⟩
set_option maxHeartbeats 4000000 in
set_option maxRecDepth 100000 in
theorem c_L_cell {l : Launch} {Δ : zDl} {ad : zK → Nat} {M : zMem} {k : Int} (hL : Δ.2.2.2.2.1 ≤ 3072) (hk : 0 ≤ k ∧ k < 24) : zMn l Δ yL_cell cL_cell 2 (some .int) 1 0 0 [.ref Δ.2.2.2.1, .int (zI k)] ad M (zPi ad M zR) := by
  refine zMn_of (by decide) (Nat.le_of_ble_eq_true rfl) (fun Γ hl hΔ hF => ?_)
  subst hl hΔ
  show G Γ _ _ _ RL _ _ _ _ _ [(0, .ref (z_d Γ).2.2.2.1), (1, .int (zI k))] []
  have e18 : ∀ z : Int, G Γ (zRm 1 0 0) cL_cell 2 RL ad M 0 0 18 [(0, .ref (z_d Γ).2.2.2.1), (1, .int (zI k))] [.int (zI z)] := fun z => by
    obtain ⟨w, hw, e⟩ := zI_of (zI z)
    rw [e]
    exact G_iret (pc := 18) hF dL_cell_18 ⟨Nat.le_of_ble_eq_true rfl, Nat.le_of_ble_eq_true rfl⟩ ⟨w, rfl, hw, rfl, rfl⟩
  refine G_iload_n (pc := 0) 1 1 dL_cell_0 rfl rfl ?_
  refine G_aload_n (pc := 1) 0 0 dL_cell_1 rfl rfl ?_
  refine G_slenC (pc := 2) hL dL_cell_2 ?_
  refine G_icmp_ge (pc := 3) 12 dL_cell_3 (by decide) ⟨by omega, by omega⟩ ⟨by omega, by omega⟩ (fun c3 => ?_) (fun c3 => ?_)
  · refine G_ldcI (pc := 12) (z := 790386105) kL_8 dL_cell_12 ?_
    refine G_iload_n (pc := 14) 1 1 dL_cell_14 rfl rfl ?_
    refine G_iconst (pc := 15) dL_cell_15 ?_
    refine G_iadd (pc := 16) dL_cell_16 ?_
    refine G_imul (pc := 17) dL_cell_17 ?_
    exact e18 _
  · refine G_aload_n (pc := 6) 0 0 dL_cell_6 rfl rfl ?_
    refine G_iload_n (pc := 7) 1 1 dL_cell_7 rfl rfl ?_
    refine G_sldC (pc := 8) dL_cell_8 ⟨by omega, by omega, by omega, by omega⟩ (fun z hz => ?_)
    refine G_goto (pc := 9) 18 dL_cell_9 (by decide) ?_
    exact e18 _
set_option maxHeartbeats 4000000 in
set_option maxRecDepth 100000 in
theorem c_X7_draw {l : Launch} {Δ : zDl} {ad : zK → Nat} {Q : zP} {V : zS} {X : zMem} {n : Int} (hV : zWV Q V) (hL : Δ.2.2.2.2.1 ≤ 3072) (hn : 1 ≤ n ∧ n ≤ 1000000) : zMn l Δ yX7_draw cX7_draw 3 (some .int) 2 0 0 [.ref (ad (200, 0, 0, 0)), .int (zI n)] ad (pm Δ ad Q V X) (fun v ad' M' => ∃ r, (0 ≤ r ∧ r < n) ∧ v = some (.int (zI r)) ∧ ad' = ad ∧ M' = pm Δ ad Q (zst V (200, 0, 0, 0) 2 (V (200, 0, 0, 0) 2 + 1)) X) := by
  refine zMn_of (by decide) (Nat.le_of_ble_eq_true rfl) (fun Γ hl hΔ hF => ?_)
  subst hl hΔ
  show G Γ _ _ _ RX7 _ _ _ _ _ [(0, .ref (ad (200, 0, 0, 0))), (1, .int (zI n))] []
  have hdw := hV.dw
  refine G_aload_n (pc := 0) 0 0 dX7_draw_0 rfl rfl ?_
  refine G_getf (pc := 1) fl_X7_72 dX7_draw_1 pg_200 rfl ?_
  refine G_aload_n (pc := 4) 0 0 dX7_draw_4 rfl rfl ?_
  refine G_getf (pc := 5) fl_X7_75 dX7_draw_5 pg_200 rfl ?_
  refine G_bipush (pc := 8) dX7_draw_8 (by decide) ?_
  refine G_irem (pc := 10) dX7_draw_10 ⟨by omega, by omega, by omega⟩ ⟨by omega, by omega, by omega⟩ ?_
  refine G_callSN (pc := 11) gk_X7_78 dX7_draw_11 (c_L_cell hL ⟨Int.emod_nonneg _ (by omega), Int.emod_lt_of_pos _ (by omega)⟩) rfl rfl (Nat.le_of_ble_eq_true rfl) ⟨⟨Nat.le_of_ble_eq_true rfl, Nat.le_of_ble_eq_true rfl⟩, Nat.le_of_ble_eq_true rfl, Nat.le_of_ble_eq_true rfl⟩ (fun v ad' M' hpo => ?_)
  obtain ⟨z, rfl, hz, rfl, rfl⟩ := hpo
  show G Γ _ _ _ _ _ _ 0 0 14 [(0, .ref (ad' (200, 0, 0, 0))), (1, .int (zI n))] [.int (zI z)]
  refine G_aload_n (pc := 14) 0 0 dX7_draw_14 rfl rfl ?_
  refine G_getf (pc := 15) fl_X7_75 dX7_draw_15 pg_200 rfl ?_
  refine G_bipush (pc := 18) dX7_draw_18 (by decide) ?_
  refine G_idiv (pc := 20) dX7_draw_20 ⟨by omega, by omega, by omega⟩ ⟨by omega, by omega, by omega⟩ ?_
  refine G_bipush (pc := 21) dX7_draw_21 (by decide) ?_
  refine G_irem (pc := 23) dX7_draw_23 ⟨by omega, by omega, by omega⟩ ⟨by omega, by omega, by omega⟩ ?_
  refine G_ishrR (pc := 24) dX7_draw_24 (fun z2 hz2 => ?_)
  refine G_bipush (pc := 25) dX7_draw_25 (by decide) ?_
  refine G_aload_n (pc := 27) 0 0 dX7_draw_27 rfl rfl ?_
  refine G_getf (pc := 28) fl_X7_75 dX7_draw_28 pg_200 rfl ?_
  refine G_imul (pc := 31) dX7_draw_31 ?_
  refine G_iadd (pc := 32) dX7_draw_32 ?_
  refine G_iload_n (pc := 33) 1 1 dX7_draw_33 rfl rfl ?_
  refine G_callSN (pc := 34) gk_X7_84 dX7_draw_34 (c_L_below hn) rfl rfl (Nat.le_of_ble_eq_true rfl) ⟨⟨Nat.le_of_ble_eq_true rfl, Nat.le_of_ble_eq_true rfl⟩, Nat.le_of_ble_eq_true rfl, Nat.le_of_ble_eq_true rfl⟩ (fun v ad'' M'' hpo => ?_)
  obtain ⟨r, rfl, hr, rfl, rfl⟩ := hpo
  show G Γ _ _ _ _ _ _ 0 0 37 [(0, .ref (ad'' (200, 0, 0, 0))), (1, .int (zI n))] [.int (zI r)]
  refine G_istore_n (pc := 37) 2 [(2, .int (zI r)), (0, .ref (ad'' (200, 0, 0, 0))), (1, .int (zI n))] dX7_draw_37 rfl (by decide) rfl ?_
  refine G_aload_n (pc := 38) 0 1 dX7_draw_38 rfl rfl ?_
  refine G_dup (pc := 39) dX7_draw_39 rfl ?_
  refine G_getf (pc := 40) fl_X7_75 dX7_draw_40 pg_200 rfl ?_
  refine G_iconst (pc := 43) dX7_draw_43 ?_
  refine G_iadd (pc := 44) dX7_draw_44 ?_
  refine G_putf (pc := 45) fl_X7_75 fp_X7_2 dX7_draw_45 pg_200 (Nat.le_of_ble_eq_true rfl) rfl rfl pp_200_2 ?_
  refine G_iload_n (pc := 48) 2 0 dX7_draw_48 rfl rfl ?_
  exact G_iret (pc := 49) hF dX7_draw_49 ⟨Nat.le_of_ble_eq_true rfl, Nat.le_of_ble_eq_true rfl⟩ ⟨r, hr, rfl, rfl, rfl⟩
