/-! ===== rows for lists: the empty array, shifts, class objects, copies of references, stores into Object[] ===== -/
theorem zshr1 {x : Int} (h : 0 ≤ x ∧ x ≤ 200) : zI x >>> (zI 1 &&& 31) = zI (x / 2) := by
  have key : ((List.range 201).all fun n => decide (Int32.ofInt n >>> (Int32.ofInt 1 &&& 31) = Int32.ofInt ((n : Int) / 2))) = true := by decide +kernel
  have h1 := of_decide_eq_true (List.all_eq_true.mp key x.toNat (List.mem_range.mpr (by omega)))
  rw [show ((x.toNat : Nat) : Int) = x by omega] at h1
  exact h1
def zOb : va_E → Nat → Nat → (Int → Option Nat) → Prop := fun e c n F => True
/-- an array of objects -/
def zOA (Δ : zDl) (n : Nat) (F : Int → Option Nat) : va_E := .inl (Δ.2.1 4, n, .inr (.inr (.inr (.inr (zAq F)))))
/-- a list: its count of changes, its array, its size -/
def zLi (m : Int) (q : Nat) (n : Int) : va_E := .inr (0, [.int (zI m), .ref q, .int (zI n)])
section ZRAW
variable {Γ : zCx} {R : Room} {cc : ByteArray} {nL : Nat} {own : String} {ad : zK → Nat} {M M' : zMem} {nc ns pc : Nat} {lv : List (Nat × Value)} {st : List Value}
theorem G_getsD (hd : decode cc pc = .ok (.getstatic 39, 3)) (kk : G Γ R cc nL RJx4a65c ad M nc ns (pc + 3) lv (.ref (z_d Γ).2.2.1 :: st)) : G Γ R cc nL RJx4a65c ad M nc ns pc lv st := fun C H locs ls h1 h2 h3 h4 =>
  va_gets C.1 C.2.1 C.2.2.2.2.2.2.2.1.2.2.1 h3 C.2.2.2.1 (C.2.2.2.2.1 _ (zAW_of 457 (by decide +kernel) (by decide +kernel))) (fun x hx => hx) hd (kk C H locs ls h1 h2 h3 h4)
theorem G_lenD (hd : decode cc pc = .ok (.arraylength, 1)) (kk : G Γ R cc nL own ad M nc ns (pc + 1) lv (.int (zI 0) :: st)) : G Γ R cc nL own ad M nc ns pc lv (.ref (z_d Γ).2.2.1 :: st) := fun C H locs ls h1 h2 h3 h4 =>
  va_tlen C.1 C.2.1 C.2.2.2.2.2.2.2.1.2.2.2.1 h3 (v := zI 0) (by decide) hd (kk C H locs ls h1 h2 h3 h4)
theorem G_acmp_eq {a b : Nat} {off : Int} (tgt : Nat) (hd : decode cc pc = .ok (.if_acmp .eq off, 3)) (ht : (pc : Int) + off = (tgt : Int)) (kt : a = b → G Γ R cc nL own ad M nc ns tgt lv st) (kf : ¬ a = b → G Γ R cc nL own ad M nc ns (pc + 3) lv st) : G Γ R cc nL own ad M nc ns pc lv (.ref b :: .ref a :: st) := fun C H locs ls h1 h2 h3 h4 =>
  lv_acmp_eq (rx := some a) (ry := some b) C.1 C.2.1 hd ht (fun h => kt (Option.some.inj h) C H locs ls h1 h2 h3 h4) (fun h => kf (fun q => h (congrArg some q)) C H locs ls h1 h2 h3 h4)
theorem G_acmp_ne {a b : Nat} {off : Int} (tgt : Nat) (hd : decode cc pc = .ok (.if_acmp .ne off, 3)) (ht : (pc : Int) + off = (tgt : Int)) (kt : ¬ a = b → G Γ R cc nL own ad M nc ns tgt lv st) (kf : a = b → G Γ R cc nL own ad M nc ns (pc + 3) lv st) : G Γ R cc nL own ad M nc ns pc lv (.ref b :: .ref a :: st) := fun C H locs ls h1 h2 h3 h4 =>
  lv_acmp_ne (rx := some a) (ry := some b) C.1 C.2.1 hd ht (fun h => kt (fun q => h (congrArg some q)) C H locs ls h1 h2 h3 h4) (fun h => kf (Option.some.inj h) C H locs ls h1 h2 h3 h4)
theorem G_ishr1 {x : Int} (hd : decode cc pc = .ok (.ishr, 1)) (hx : 0 ≤ x ∧ x ≤ 200) (kk : G Γ R cc nL own ad M nc ns (pc + 1) lv (.int (zI (x / 2)) :: st)) : G Γ R cc nL own ad M nc ns pc lv (.int (zI 1) :: .int (zI x) :: st) := fun C H locs ls h1 h2 h3 h4 =>
  lv_ishr C.1 C.2.1 hd (by rw [zshr1 hx]; exact kk C H locs ls h1 h2 h3 h4)
theorem G_ldcI {idx : Nat} {z : Int} (hw : Cond.constant own idx (zI z) ∈ zAW) (hd : decode cc pc = .ok (.ldc idx, 2)) (kk : G Γ R cc nL own ad M nc ns (pc + 2) lv (.int (zI z) :: st)) : G Γ R cc nL own ad M nc ns pc lv st := fun C H locs ls h1 h2 h3 h4 => lv_ldc C.1 C.2.1 C.2.2.2.1 (C.2.2.2.2.1 _ hw) hd (kk C H locs ls h1 h2 h3 h4)
/-- getClass() of an array of objects, and the class constant, are one -/
theorem G_class {n : Nat} {F : Int → Option Nat} {key : zK} (hown : own = RJ7) (hM : M key = some (zOA (z_d Γ) n F)) (hd : decode cc pc = .ok (.invokevirtual 86, 3)) (hR : 1 ≤ R.frames ∧ (st.map fun v => v.category).sum + 14 ≤ R.locals) (kk : ∀ mi : Nat, va_Mi "[Ljava/lang/Object;" mi (z_s Γ) → G Γ R cc nL own ad M nc ns (pc + 3) lv (.ref mi :: st)) : G Γ R cc nL own ad M nc ns pc lv (.ref (ad key) :: st) := by
  intro C H locs ls h1 h2 h3 h4
  subst hown
  obtain ⟨mi, hmi⟩ := C.2.2.2.2.2.2.2.1.2.2.2.2.2.2.2.2.2.1
  have hra := (C.2.2.2.2.2.2.1.2 4 _ rfl).2
  refine va_getC C.1 C.2.1 (C.2.2.1.trans h4.1.symm) C.2.2.2.1 (C.2.2.2.2.1 _ (zAW_of 692 (by decide +kernel) (by decide +kernel))) (znest C (zNW_of 1072 (by decide +kernel) (by decide +kernel))) (C.2.2.2.2.1 _ (zAW_of 1071 (by decide +kernel) (by decide +kernel))) (C.2.2.2.2.1 _ (zAW_of 693 (by decide +kernel) (by decide +kernel))) (C.2.2.2.2.1 _ (zAW_of 707 (by decide +kernel) (by decide +kernel))) hmi ⟨_, h1.1 key _ hM, rfl, va_nmO hra rfl⟩ hR.1 hR.2 hd (kk mi hmi C H locs ls h1 h2 h3 h4)
theorem G_ldcM {mi : Nat} (hown : own = RJ7) (hmi : va_Mi "[Ljava/lang/Object;" mi (z_s Γ)) (hd : decode cc pc = .ok (.ldc 110, 2)) (kk : G Γ R cc nL own ad M nc ns (pc + 2) lv (.ref mi :: st)) : G Γ R cc nL own ad M nc ns pc lv st := by
  intro C H locs ls h1 h2 h3 h4
  subst hown
  exact va_ldcM C.1 C.2.1 C.2.2.2.1 (C.2.2.2.2.1 _ (zAW_of 711 (by decide +kernel) (by decide +kernel))) hmi hd (kk C H locs ls h1 h2 h3 h4)
theorem G_astO {key keyv : zK} {n ci : Nat} {r : vw_C} {vs : List Value} {F : Int → Option Nat} {a : Int} (hc : vwCl[ci]? = some r) (hca : Cond.castable r.1 "java/lang/Object" ∈ zNW) (hd : decode cc pc = .ok (.aastore, 1)) (hM : M key = some (zOA (z_d Γ) n F)) (hv : M keyv = some (.inr (ci, vs))) (ha : 0 ≤ a ∧ a < n ∧ zR a) (hM' : zup1 M key (some (zOA (z_d Γ) n (zup F a (some (ad keyv))))) = M') (kk : G Γ R cc nL own ad M' nc ns (pc + 1) lv st) : G Γ R cc nL own ad M nc ns pc lv (.ref (ad keyv) :: .int (zI a) :: .ref (ad key) :: st) := by
  intro C H locs ls h1 h2 h3 h4
  subst hM'
  obtain ⟨q0, hq0⟩ := zwl_at h1 hM
  obtain ⟨q1, hq1⟩ := zwl_at h1 hv
  refine va_astqO (E := "java/lang/Object") C.1 C.2.1 C.2.2.2.2.2.2.1 (zwl_P h1) (zwl_D h2) h3 q0 4 q1 ci hq0 rfl (znwOf C hca) hq1 hc (zI_in ha.1 ha.2.1 ha.2.2) hd (fun H1 locs1 a1 a2 a3 => ?_)
  rw [zAq_up F ha.1 ha.2.2] at a1
  exact kk C H1 locs1 ls (zwl_set h1 hM hq0 a1) (zdom h2 hM) a3 h4
theorem zcq_eq {F F' : Int → Option Nat} {n : Int} (hn : 0 ≤ n) : va_cpy (zAq F) (zAq F') 0 0 n.toNat = zAq (fun j => if 0 ≤ j ∧ j < n then F j else F' j) := by
  funext j
  show (if 0 ≤ j ∧ j < 0 + n.toNat then zAq F (0 + (j - 0)) else zAq F' j) = if 0 ≤ (j : Int) ∧ (j : Int) < n then F j else F' j
  by_cases h : (j : Int) < n
  · rw [if_pos ⟨by omega, by omega⟩, if_pos ⟨by omega, h⟩]
    show F ((0 + (j - 0) : Nat) : Int) = _
    rw [show 0 + (j - 0) = j by omega]
  · rw [if_neg (by omega), if_neg (fun q => h q.2)]
    rfl
theorem G_copyO {k0 k1 : zK} {n0 n1 ci : Nat} {r : vw_C} {F F' : Int → Option Nat} {n : Int} (hown : own = RJ7) (hc : vwCl[ci]? = some r) (hca : Cond.castable r.1 "java/lang/Object" ∈ zNW) (hd : decode cc pc = .ok (.invokestatic 150, 3))
    (h0 : M k0 = some (zOA (z_d Γ) n0 F)) (h1 : M k1 = some (zOA (z_d Γ) n1 F')) (hn : 0 ≤ n ∧ n ≤ n0 ∧ n ≤ n1 ∧ n ≤ 100000) (hel : ∀ i : Int, 0 ≤ i → i < n → ∃ k vs, F i = some (ad k) ∧ M k = some (.inr (ci, vs))) (hR : 1 ≤ R.frames ∧ (st.map fun v => v.category).sum + 100 ≤ R.locals)
    (hM' : zup1 M k1 (some (zOA (z_d Γ) n1 (fun j => if 0 ≤ j ∧ j < n then F j else F' j))) = M') (kk : G Γ R cc nL own ad M' nc ns (pc + 3) lv st) : G Γ R cc nL own ad M nc ns pc lv (.int (zI n) :: .int (zI 0) :: .ref (ad k1) :: .int (zI 0) :: .ref (ad k0) :: st) := by
  intro C H locs ls g1 g2 g3 g4
  subst hM' hown
  have rn : zR n := ⟨by omega, by omega⟩
  have r0 : zR 0 := ⟨by omega, by omega⟩
  have ng : ∀ z : Int, 0 ≤ z → zR z → ¬ zI z < 0 := fun z hz hr q => by
    have := (zI_lt hr zR_0).mp (by rw [zI_0]; exact q)
    omega
  obtain ⟨q0, hq0⟩ := zwl_at g1 h0
  obtain ⟨q1, hq1⟩ := zwl_at g1 h1
  refine va_copyq (E0 := "java/lang/Object") (E1 := "java/lang/Object") (C := r.1) C.1 C.2.1 (C.2.2.1.trans g4.1.symm) C.2.2.2.1 (C.2.2.2.2.1 _ (zAW_of 715 (by decide +kernel) (by decide +kernel))) (C.2.2.2.2.1 _ (zAW_of 617 (by decide +kernel) (by decide +kernel))) (C.2.2.2.2.1 _ (zAW_of 616 (by decide +kernel) (by decide +kernel))) (C.2.2.2.2.1 _ (zAW_of 7 (by decide +kernel) (by decide +kernel))) C.2.2.2.2.2.2.1 (zwl_P g1) (zwl_D g2) g3 q0 q1 4 4 hq0 hq1 rfl rfl
    (ng 0 (by omega) r0) (ng 0 (by omega) r0) (ng n hn.1 rn) (by rw [zI_clamp r0, zI_clamp rn]; omega) (by rw [zI_clamp r0, zI_clamp rn]; omega) (fun i hi y hy => ?_) (vb_asgC (znwOf C hca)) hR.1 (Nat.le_trans (Nat.add_le_add_left (show nativeFrameWords "java/lang/System" "arraycopy" 5 + 11 ≤ 100 by decide) _) hR.2) hd (fun H1 locs1 a1 a2 a3 => ?_)
  · rw [zI_clamp rn] at hi
    rw [zI_clamp r0] at hy
    obtain ⟨k, vs, e1, e2⟩ := hel i (by omega) (by omega)
    have e3 : zAq F (0 + i) = some y := hy
    rw [show zAq F (0 + i) = F ((0 + i : Nat) : Int) from rfl, Nat.zero_add, e1] at e3
    rw [← Option.some.inj e3]
    exact zrecv C g1 e2 hc
  · rw [zI_clamp r0, zI_clamp rn] at a1
    rw [show (0 : Int).toNat = 0 from rfl, zcq_eq hn.1] at a1
    exact kk C H1 locs1 ls (zwl_set g1 h1 hq1 a1) (zdom g2 h1) a3 g4
/-- cells change their names -/
theorem G_ren {ad' : zK → Nat} {M' : zMem} (ρ : zK → zK) (h : ∀ k e, M' k = some e → M (ρ k) = some e ∧ ad' k = ad (ρ k)) (hi : ∀ k k', M' k ≠ none → M' k' ≠ none → ρ k = ρ k' → k = k') (kk : G Γ R cc nL own ad' M' nc ns pc lv st) : G Γ R cc nL own ad M nc ns pc lv st := by
  intro C H locs ls h1 h2 h3 h4
  have hd : ∀ k, M' k ≠ none → M (ρ k) ≠ none ∧ ad' k = ad (ρ k) := fun k hk => by
    cases hm : M' k with
    | none => exact absurd hm hk
    | some e => exact ⟨(by rw [(h k e hm).1]; exact (fun q => by cases q)), (h k e hm).2⟩
  refine kk C H locs ls ⟨fun k e hk => ?_, fun k k' hk hk' e => ?_⟩ (fun k hk => ?_) h3 h4
  · obtain ⟨g1, g2⟩ := h k e hk
    rw [g2]
    exact h1.1 _ e g1
  · rw [(hd k hk).2, (hd k' hk').2] at e
    exact hi k k' hk hk' (h1.2 _ _ (hd k hk).1 (hd k' hk').1 e)
  · rw [(hd k hk).2]
    exact h2 _ (hd k hk).1
end ZRAW
