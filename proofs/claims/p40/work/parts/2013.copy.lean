/-! ===== contracts that also ask for a fact of the tables ===== -/
def zMq (l : Launch) (Δ : zDl) (E : State → Prop) (y : MethodName) (b : ByteArray) (maxL : Nat) (ret : Option FieldType) (d mc ms : Nat) (args : List Value) (ad : zK → Nat) (M : zMem) (post : zPo) : Prop :=
  ∀ sz : Nat, Met l y (zws y b maxL ret) (zRm d mc ms) (va_Pc args (fun U => zPre Δ ad M sz U ∧ E U)) (zQc Δ (zfA ad M sz) post) mc ms (zfA ad M sz)
abbrev zMir (mi : Nat) : State → Prop := fun U => va_Mi "[Ljava/lang/Object;" mi U
theorem zMq_of {l : Launch} {Δ : zDl} {E : State → Prop} {y : MethodName} {b : ByteArray} {maxL : Nat} {ret : Option FieldType} {d mc ms : Nat} {args : List Value} {ad : zK → Nat} {M : zMem} {post : zPo} (hy : plainName y.cls = true) (hl : (lg_sl args).length ≤ maxL)
    (body : ∀ Γ : zCx, z_l Γ = l → z_d Γ = Δ → E (z_s Γ) → zFn Γ y.name ret post mc ms → G Γ (zRm d mc ms) b maxL y.cls ad M 0 0 0 (lv_args 0 args) []) : zMq l Δ E y b maxL ret d mc ms args ad M post := by
  intro sz
  refine Met.ofW (cc := b) (maxL := maxL) (ret := ret) hy rfl ?_
  intro p e s m args' below meth c s₁ B hml hv
  obtain ⟨rfl, ⟨hsz, hH, hK, hX⟩, hE⟩ := hv
  subst hsz
  have hts := atoms_spec (ws := zws y b maxL ret) B.pre
  have hle := lv_entry args hl
  rw [lg_entry_eq]
  exact body ((l, Δ), (p, e, s, m, args.toArray), (below, meth, c, zfA ad M s.heap.size, MQ below (zQc Δ (zfA ad M s.heap.size) post) args.toArray s mc ms (zfA ad M s.heap.size))) rfl rfl hE
    ⟨B.returns, (name_of_methodNamed B.named B.method).1, fun _ _ _ _ h => h⟩
    ⟨B.exec, B.bytes, hml, findClass_of_methodNamed B.named, fun w h => hts w (List.mem_cons_of_mem _ h), B.notSynchronized, hK, hX, fun q h => Or.inr h⟩ s.heap [] _ hH (fun k h => Or.inl ⟨k, h, rfl⟩) va_S.rf hle
theorem zPreq.blind {Δ : zDl} {ad : zK → Nat} {M : zMem} {sz mi : Nat} (args : List Value) : FrameBlind (va_Pc args (fun U => zPre Δ ad M sz U ∧ zMir mi U)) := by
  intro a U g mk h
  obtain ⟨h0, ⟨h1, h2, h3, h4⟩, h5⟩ := h
  exact ⟨h0, ⟨h1, h2, va_K.moved (u := U) (U := U.calling g mk a) (Vm.Alike.refl U.vm) h3, h4.blind rfl⟩, va_Mi.moved (u := U) (U := U.calling g mk a) (Vm.Alike.refl U.vm) h5⟩
theorem G_callSq {Γ : zCx} {R : Room} {cc : ByteArray} {nL : Nat} {own : String} {ad : zK → Nat} {M : zMem} {nc ns pc : Nat} {lv : List (Nat × Value)} {st : List Value} {idx n d mc ms maxL mi : Nat} {y : MethodName} {b : ByteArray} {ret : Option FieldType} {As rest : List Value} {post : zPo} (hmi : zMir mi (z_s Γ)) (hw : zCS own idx y b maxL ret n) (hd : decode cc pc = .ok (.invokestatic idx, 3)) (hm : zMq (z_l Γ) (z_d Γ) (zMir mi) y b maxL ret d mc ms As ad M post) (hn : As.length = n) (hst : st = As.reverse ++ rest) (hro : (rest.map fun v => v.category).sum ≤ 8) (hR : zRo R d mc ms maxL nc ns)
    (kk : ∀ v ad' M', post v ad' M' → G Γ R cc nL own ad' M' (nc + mc) (ns + ms) (pc + 3) lv (v.toList ++ rest)) : G Γ R cc nL own ad M nc ns pc lv st :=
  G_run (fun H locs ls C h1 h2 h3 h4 => va_runS ⟨C.1, C.2.1, C.2.2.1, C.2.2.2.1, C.2.2.2.2.1⟩ (hm H.size) (zcwS C.2.2.2.2.1 hw hR.1) ⟨zPreq.blind _, fun U hU hW => ⟨rfl, zPre.at' C h1 h2 h3 U hU hW, hmi.moved hW.alike⟩⟩ rfl hn h4.1 hst (lv_room hro) hd hR.2) kk
/-- elements of a list are objects of one class -/
def zEl (M : zMem) (ad : zK → Nat) (ci : Nat) (F : Int → Option Nat) (n : Int) : Prop := ∀ i : Int, 0 ≤ i → i < n → ∃ k vs, F i = some (ad k) ∧ M k = some (.inr (ci, vs))
set_option maxHeartbeats 4000000 in
set_option maxRecDepth 100000 in
theorem c_copyOf2 {l : Launch} {Δ : zDl} {ad : zK → Nat} {M : zMem} {ci : Nat} {r : vw_C} (hc : vwCl[ci]? = some r) (hca : Cond.castable r.1 "java/lang/Object" ∈ zNW) {ka : zK} {n n2 mi : Nat} {F : Int → Option Nat} (h0 : M ka = some (zOA Δ n F)) (hk : M (91, 0, 0, 0) = none) (hn : n ≤ n2 ∧ n2 ≤ 150) (hel : zEl M ad ci F n) : zMq l Δ (zMir mi) yJ7_copyOf_6403c cJ7_copyOf_6403c 4 (some (.array (.object "java/lang/Object"))) 3 1 150 [.ref (ad ka), .int (zI (n2 : Int)), .ref mi] ad M (fun v ad' M' => v = some (.ref (ad' (91, 0, 0, 0))) ∧ (∀ k, k ≠ (91, 0, 0, 0) → ad' k = ad k) ∧ M' = zup1 M (91, 0, 0, 0) (some (zOA Δ n2 (fun j => if 0 ≤ j ∧ j < (n : Int) then F j else none)))) := by
  refine zMq_of (by decide) (Nat.le_of_ble_eq_true rfl) (fun Γ hl hΔ hmi hF => ?_)
  subst hl hΔ
  show G Γ _ _ _ RJ7 _ _ _ _ _ [(0, .ref (ad ka)), (1, .int (zI (n2 : Int))), (2, .ref mi)] []
  have hne : ka ≠ (91, 0, 0, 0) := fun q => by rw [q, hk] at h0; cases h0
  refine G_aload_n (pc := 0) 2 2 dJ7_copyOf_6403c_0 rfl rfl ?_
  refine G_ldcM (pc := 1) rfl hmi dJ7_copyOf_6403c_1 ?_
  refine G_acmp_ne (pc := 3) 13 dJ7_copyOf_6403c_3 (by decide) (fun c => absurd rfl c) (fun c => ?_)
  refine G_iload_n (pc := 6) 1 1 dJ7_copyOf_6403c_6 rfl rfl ?_
  refine G_newO (pc := 7) (N := n2) (91, 0, 0, 0) (zAW_of 713 (by decide +kernel) (by decide +kernel)) dJ7_copyOf_6403c_7 hk rfl ⟨by omega, by omega⟩ ⟨Nat.le_of_ble_eq_true rfl, by show 0 + n2 ≤ 150; omega⟩ (fun ad1 had => ?_)
  have e0 := had ka hne
  rw [← e0]
  refine G_goto (pc := 10) 24 dJ7_copyOf_6403c_10 (by decide) ?_
  refine G_astore_n (pc := 24) 3 [(3, .ref (ad1 (91, 0, 0, 0))), (0, .ref (ad1 ka)), (1, .int (zI (n2 : Int))), (2, .ref mi)] dJ7_copyOf_6403c_24 rfl (by decide) rfl ?_
  have h1 := (zup1_n M (some (zOA (z_d Γ) n2 (fun _ => none))) hne).trans h0
  refine G_aload_n (pc := 25) 0 1 dJ7_copyOf_6403c_25 rfl rfl ?_
  refine G_iconst (pc := 26) dJ7_copyOf_6403c_26 ?_
  refine G_aload_n (pc := 27) 3 0 dJ7_copyOf_6403c_27 rfl rfl ?_
  refine G_iconst (pc := 28) dJ7_copyOf_6403c_28 ?_
  refine G_aload_n (pc := 29) 0 1 dJ7_copyOf_6403c_29 rfl rfl ?_
  refine G_lenO (pc := 30) dJ7_copyOf_6403c_30 h1 ?_
  refine G_iload_n (pc := 31) 1 2 dJ7_copyOf_6403c_31 rfl rfl ?_
  refine G_mmin (pc := 32) mx_J7_304 dJ7_copyOf_6403c_32 ⟨by omega, by omega⟩ ⟨by omega, by omega⟩ ⟨⟨Nat.le_of_ble_eq_true rfl, Nat.le_of_ble_eq_true rfl⟩, Nat.le_of_ble_eq_true rfl, by show 0 + n2 ≤ 150; omega⟩ ?_
  rw [show min (n : Int) (n2 : Int) = (n : Int) by omega]
  refine G_copyO (pc := 35) (ci := ci) (r := r) rfl hc hca dJ7_copyOf_6403c_35 h1 (zup1_s _ _ _) ⟨by omega, by omega, by omega, by omega⟩ (fun i i0 i1 => ?_) ⟨Nat.le_of_ble_eq_true rfl, Nat.le_of_ble_eq_true rfl⟩ rfl ?_
  · obtain ⟨k, vs, e1, e2⟩ := hel i i0 i1
    have hk2 : k ≠ (91, 0, 0, 0) := fun q => by rw [q, hk] at e2; cases e2
    exact ⟨k, vs, by rw [had k hk2]; exact e1, (zup1_n _ _ hk2).trans e2⟩
  refine G_aload_n (pc := 38) 3 0 dJ7_copyOf_6403c_38 rfl rfl ?_
  exact G_aret (pc := 39) hF (Or.inr ⟨_, rfl⟩) dJ7_copyOf_6403c_39 ⟨Nat.le_of_ble_eq_true rfl, by show 0 + n2 ≤ 150; omega⟩ ⟨rfl, had, zuu _ _ _ _⟩
set_option maxHeartbeats 4000000 in
set_option maxRecDepth 100000 in
theorem c_copyOf1 {l : Launch} {Δ : zDl} {ad : zK → Nat} {M : zMem} {ci : Nat} {r : vw_C} (hc : vwCl[ci]? = some r) (hca : Cond.castable r.1 "java/lang/Object" ∈ zNW) {ka : zK} {n n2 : Nat} {F : Int → Option Nat} (h0 : M ka = some (zOA Δ n F)) (hk : M (91, 0, 0, 0) = none) (hn : n ≤ n2 ∧ n2 ≤ 150) (hel : zEl M ad ci F n) : zMn l Δ yJ7_copyOf_1904c cJ7_copyOf_1904c 2 (some (.array (.object "java/lang/Object"))) 4 1 150 [.ref (ad ka), .int (zI (n2 : Int))] ad M (fun v ad' M' => v = some (.ref (ad' (91, 0, 0, 0))) ∧ (∀ k, k ≠ (91, 0, 0, 0) → ad' k = ad k) ∧ M' = zup1 M (91, 0, 0, 0) (some (zOA Δ n2 (fun j => if 0 ≤ j ∧ j < (n : Int) then F j else none)))) := by
  refine zMn_of (by decide) (Nat.le_of_ble_eq_true rfl) (fun Γ hl hΔ hF => ?_)
  subst hl hΔ
  show G Γ _ _ _ RJ7 _ _ _ _ _ [(0, .ref (ad ka)), (1, .int (zI (n2 : Int)))] []
  refine G_aload_n (pc := 0) 0 0 dJ7_copyOf_1904c_0 rfl rfl ?_
  refine G_iload_n (pc := 1) 1 1 dJ7_copyOf_1904c_1 rfl rfl ?_
  refine G_aload_n (pc := 2) 0 0 dJ7_copyOf_1904c_2 rfl rfl ?_
  refine G_class (pc := 3) rfl h0 dJ7_copyOf_1904c_3 ⟨Nat.le_of_ble_eq_true rfl, Nat.le_of_ble_eq_true rfl⟩ (fun mi hmi => ?_)
  refine G_callSq (pc := 6) hmi gk_J7_300 dJ7_copyOf_1904c_6 (c_copyOf2 hc hca h0 hk hn hel) rfl rfl (Nat.le_of_ble_eq_true rfl) ⟨⟨Nat.le_of_ble_eq_true rfl, Nat.le_of_ble_eq_true rfl⟩, Nat.le_of_ble_eq_true rfl, Nat.le_of_ble_eq_true rfl⟩ (fun v ad1 M1 hpo => ?_)
  obtain ⟨rfl, had, rfl⟩ := hpo
  exact G_aret (pc := 9) hF (Or.inr ⟨_, rfl⟩) dJ7_copyOf_1904c_9 ⟨Nat.le_of_ble_eq_true rfl, Nat.le_of_ble_eq_true rfl⟩ ⟨rfl, had, rfl⟩
set_option maxHeartbeats 4000000 in
set_option maxRecDepth 100000 in
theorem c_grow1 {l : Launch} {Δ : zDl} {ad : zK → Nat} {M : zMem} {ci : Nat} {r : vw_C} (hc : vwCl[ci]? = some r) (hca : Cond.castable r.1 "java/lang/Object" ∈ zNW) {kl ka : zK} {m : Int} {n : Nat} {F : Int → Option Nat} (hl0 : M kl = some (zLi m (ad ka) n)) (h0 : M ka = some (zOA Δ n F)) (hk : M (91, 0, 0, 0) = none) (hn : 1 ≤ n ∧ n ≤ 100) (hel : zEl M ad ci F n) : zMn l Δ yJx4a65c_grow_92f84 cJx4a65c_grow_92f84 4 (some (.array (.object "java/lang/Object"))) 5 1 150 [.ref (ad kl), .int (zI (n + 1))] ad M (fun v ad' M' => v = some (.ref (ad' (91, 0, 0, 0))) ∧ (∀ k, k ≠ (91, 0, 0, 0) → ad' k = ad k) ∧ M' = zup1 (zup1 M (91, 0, 0, 0) (some (zOA Δ (n + max 1 (n / 2)) (fun j => if 0 ≤ j ∧ j < (n : Int) then F j else none)))) kl (some (zLi m (ad' (91, 0, 0, 0)) n))) := by
  refine zMn_of (by decide) (Nat.le_of_ble_eq_true rfl) (fun Γ hl hΔ hF => ?_)
  subst hl hΔ
  show G Γ _ _ _ RJx4a65c _ _ _ _ _ [(0, .ref (ad kl)), (1, .int (zI ((n : Int) + 1)))] []
  have hne : kl ≠ (91, 0, 0, 0) := fun q => by rw [q, hk] at hl0; cases hl0
  refine G_aload_n (pc := 0) 0 0 dJx4a65c_grow_92f84_0 rfl rfl ?_
  refine G_getf (pc := 1) fl_Jx4a65c_9 dJx4a65c_grow_92f84_1 hl0 rfl ?_
  refine G_lenO (pc := 4) dJx4a65c_grow_92f84_4 h0 ?_
  refine G_istore_ne (pc := 5) 2 (fun zw => [(2, .int (zI zw)), (0, .ref (ad kl)), (1, .int (zI ((n : Int) + 1)))]) dJx4a65c_grow_92f84_5 rfl (by decide) (fun _ => rfl) (fun v e => ?_)
  refine G_iload_n (pc := 6) 2 0 dJx4a65c_grow_92f84_6 rfl rfl ?_
  refine G_if_gt (pc := 7) 20 dJx4a65c_grow_92f84_7 (by decide) ⟨by omega, by omega⟩ (fun c => ?_) (fun c => absurd (show v > 0 by omega) c)
  refine G_iload_n (pc := 20) 2 0 dJx4a65c_grow_92f84_20 rfl rfl ?_
  refine G_iload_n (pc := 21) 1 2 dJx4a65c_grow_92f84_21 rfl rfl ?_
  refine G_iload_n (pc := 22) 2 0 dJx4a65c_grow_92f84_22 rfl rfl ?_
  refine G_isub (pc := 23) dJx4a65c_grow_92f84_23 ?_
  refine G_iload_n (pc := 24) 2 0 dJx4a65c_grow_92f84_24 rfl rfl ?_
  refine G_iconst (pc := 25) dJx4a65c_grow_92f84_25 ?_
  refine G_ishr1 (pc := 26) dJx4a65c_grow_92f84_26 ⟨by omega, by omega⟩ ?_
  rw [show (n : Int) + 1 - v = 1 by omega]
  refine G_callSd (pc := 27) gk_Jx4a65c_73 dJx4a65c_grow_92f84_27 (c_J8_newLength_cabcc ⟨by omega, by omega⟩ ⟨by omega, by omega⟩) rfl rfl (Nat.le_of_ble_eq_true rfl) ⟨⟨Nat.le_of_ble_eq_true rfl, Nat.le_of_ble_eq_true rfl⟩, Nat.le_of_ble_eq_true rfl, Nat.le_of_ble_eq_true rfl⟩ ?_
  rw [show v + max 1 (v / 2) = ((n + max 1 (n / 2) : Nat) : Int) by omega]
  refine G_istore_n (pc := 30) 3 [(3, .int (zI ((n + max 1 (n / 2) : Nat) : Int))), (2, .int (zI v)), (0, .ref (ad kl)), (1, .int (zI ((n : Int) + 1)))] dJx4a65c_grow_92f84_30 rfl (by decide) rfl ?_
  refine G_aload_n (pc := 31) 0 2 dJx4a65c_grow_92f84_31 rfl rfl ?_
  refine G_aload_n (pc := 32) 0 2 dJx4a65c_grow_92f84_32 rfl rfl ?_
  refine G_getf (pc := 33) fl_Jx4a65c_9 dJx4a65c_grow_92f84_33 hl0 rfl ?_
  refine G_iload_n (pc := 36) 3 0 dJx4a65c_grow_92f84_36 rfl rfl ?_
  refine G_callS (pc := 37) gk_Jx4a65c_66 dJx4a65c_grow_92f84_37 (c_copyOf1 hc hca h0 hk ⟨by omega, by omega⟩ hel) rfl rfl (Nat.le_of_ble_eq_true rfl) ⟨⟨Nat.le_of_ble_eq_true rfl, Nat.le_of_ble_eq_true rfl⟩, Nat.le_of_ble_eq_true rfl, Nat.le_of_ble_eq_true rfl⟩ (fun v2 ad1 M1 hpo => ?_)
  obtain ⟨rfl, had, rfl⟩ := hpo
  show G Γ _ _ _ _ _ _ _ _ _ _ [.ref (ad1 (91, 0, 0, 0)), .ref (ad kl)]
  rw [← had kl hne]
  refine G_dup_x1 (pc := 40) dJx4a65c_grow_92f84_40 rfl rfl ?_
  refine G_putf (pc := 41) fl_Jx4a65c_9 fp_Jx4a65c_1 (fs := [.int (zI m), .ref (ad ka), .int (zI n)]) dJx4a65c_grow_92f84_41 ((zup1_n _ _ hne).trans hl0) (Nat.le_of_ble_eq_true rfl) rfl rfl rfl ?_
  exact G_aret (pc := 44) hF (Or.inr ⟨_, rfl⟩) dJx4a65c_grow_92f84_44 ⟨Nat.le_of_ble_eq_true rfl, Nat.le_of_ble_eq_true rfl⟩ ⟨rfl, had, rfl⟩
set_option maxHeartbeats 4000000 in
set_option maxRecDepth 100000 in
theorem c_growB {l : Launch} {Δ : zDl} {ad : zK → Nat} {M : zMem} {ci : Nat} {r : vw_C} (hc : vwCl[ci]? = some r) (hca : Cond.castable r.1 "java/lang/Object" ∈ zNW) {kl ka : zK} {m : Int} {n : Nat} {F : Int → Option Nat} (hl0 : M kl = some (zLi m (ad ka) n)) (h0 : M ka = some (zOA Δ n F)) (hk : M (91, 0, 0, 0) = none) (hn : 1 ≤ n ∧ n ≤ 100) (hel : zEl M ad ci F n) : zMn l Δ yJx4a65c_grow_d5877 cJx4a65c_grow_d5877 1 (some (.array (.object "java/lang/Object"))) 6 1 150 [.ref (ad kl)] ad M (fun v ad' M' => v = some (.ref (ad' (91, 0, 0, 0))) ∧ (∀ k, k ≠ (91, 0, 0, 0) → ad' k = ad k) ∧ M' = zup1 (zup1 M (91, 0, 0, 0) (some (zOA Δ (n + max 1 (n / 2)) (fun j => if 0 ≤ j ∧ j < (n : Int) then F j else none)))) kl (some (zLi m (ad' (91, 0, 0, 0)) n))) := by
  refine zMn_of (by decide) (Nat.le_of_ble_eq_true rfl) (fun Γ hl hΔ hF => ?_)
  subst hl hΔ
  show G Γ _ _ _ RJx4a65c _ _ _ _ _ [(0, .ref (ad kl))] []
  refine G_aload_n (pc := 0) 0 0 dJx4a65c_grow_d5877_0 rfl rfl ?_
  refine G_aload_n (pc := 1) 0 0 dJx4a65c_grow_d5877_1 rfl rfl ?_
  refine G_getf (pc := 2) fl_Jx4a65c_48 dJx4a65c_grow_d5877_2 hl0 rfl ?_
  refine G_iconst (pc := 5) dJx4a65c_grow_d5877_5 ?_
  refine G_iadd (pc := 6) dJx4a65c_grow_d5877_6 ?_
  refine G_callV (pc := 7) gk_Jx4a65c_69 dJx4a65c_grow_d5877_7 hl0 rfl (c_grow1 hc hca hl0 h0 hk hn hel) rfl rfl (Nat.le_of_ble_eq_true rfl) ⟨⟨Nat.le_of_ble_eq_true rfl, Nat.le_of_ble_eq_true rfl⟩, Nat.le_of_ble_eq_true rfl, Nat.le_of_ble_eq_true rfl⟩ (fun v ad1 M1 hpo => ?_)
  obtain ⟨rfl, had, rfl⟩ := hpo
  exact G_aret (pc := 10) hF (Or.inr ⟨_, rfl⟩) dJx4a65c_grow_d5877_10 ⟨Nat.le_of_ble_eq_true rfl, Nat.le_of_ble_eq_true rfl⟩ ⟨rfl, had, rfl⟩
