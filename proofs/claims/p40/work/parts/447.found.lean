/-! ===== the Pier's acts: found ===== -/
/-- the world behind i acts -/
def zFd (a0 a : Nat) (V0 : zS) (i : Int) (ad1 : zK → Nat) (P : zP) (D : zS) : Prop := (ad1 (0, 0, 0, 0) = a0 ∧ ad1 (200, 0, 0, 0) = a) ∧ zJ P D ∧ D (200, 0, 0, 0) 2 ≤ V0 (200, 0, 0, 0) 2 + 1020 * i ∧ D (0, 0, 0, 0) 4 ≤ V0 (0, 0, 0, 0) 4 + i ∧ D (0, 0, 0, 0) 6 ≤ V0 (0, 0, 0, 0) 6 + 14 * i ∧ V0 (1, 0, 0, 0) 1 ≤ D (1, 0, 0, 0) 1
section ZFND
variable {a0 a : Nat} {V0 D : zS} {i j : Int} {ad1 : zK → Nat} {P : zP}
theorem zFd_up (h : zFd a0 a V0 i ad1 P D) (hij : i ≤ j) : zFd a0 a V0 j ad1 P D := by
  obtain ⟨h1, h2, h3, h4, h5, h6⟩ := h
  exact ⟨h1, h2, by omega, by omega, by omega, h6⟩
theorem zFd_act {Δ : zDl} {Q1 : zP} {n : Int} {v : Option Value} {ad2 : zK → Nat} {M2 : zMem} (h : zFd a0 a V0 i ad1 P D) (hn : n ≤ 1020) (ha : zAct Δ ad1 Q1 D n v ad2 M2) : v = some (.int (zI 1)) ∧ ∃ P2 D2, zFd a0 a V0 (i + 1) ad2 P2 D2 ∧ M2 = pm Δ ad2 P2 D2 (mm Δ ad2 P2 D2 z00) ∧ Q1 0 0 0 ≤ P2 0 0 0 ∧ Q1 3 0 0 ≤ P2 3 0 0 := by
  obtain ⟨h1, h2, h3, h4, h5, h6⟩ := h
  obtain ⟨e, P2, D2, hA, hM, hJ2, b1, b2, b3, b4, b5⟩ := ha
  exact ⟨e, P2, D2, ⟨⟨hA.1.trans h1.1, hA.2.trans h1.2⟩, hJ2, by omega, by omega, by omega, by omega⟩, hM, b5.1, b5.2⟩
end ZFND
section ZGFD
variable {Γ : zCx} {R : Room} {cc : ByteArray} {nL : Nat} {ad1 : zK → Nat} {nc ns pc : Nat} {lv : List (Nat × Value)} {P Q1 : zP} {V0 D : zS} {a0 a : Nat} {n i : Int} {d mc ms idx maxL : Nat} {y : MethodName} {b : ByteArray}
theorem G_fd (hw : zCV RX7 idx RX7 y b maxL (some .boolean) 0) (hd : decode cc pc = .ok (.invokevirtual idx, 3)) (h : zFd a0 a V0 i ad1 P D) (hn : n ≤ 1020) (hm : zMn (z_l Γ) (z_d Γ) y b maxL (some .boolean) d mc ms [.ref (ad1 (200, 0, 0, 0))] ad1 (pm (z_d Γ) ad1 P D (mm (z_d Γ) ad1 P D z00)) (zAct (z_d Γ) ad1 Q1 D n)) (hR : zRo R d mc ms maxL nc ns)
    (kk : ∀ ad2 P2 D2, zFd a0 a V0 (i + 1) ad2 P2 D2 → Q1 0 0 0 ≤ P2 0 0 0 → Q1 3 0 0 ≤ P2 3 0 0 → G Γ R cc nL RX7 ad2 (pm (z_d Γ) ad2 P2 D2 (mm (z_d Γ) ad2 P2 D2 z00)) (nc + mc) (ns + ms) (pc + 3) lv [.int (zI 1)]) : G Γ R cc nL RX7 ad1 (pm (z_d Γ) ad1 P D (mm (z_d Γ) ad1 P D z00)) nc ns pc lv [.ref a] := by
  rw [← h.1.2]
  refine G_callV (pc := pc) hw hd pg_200 rfl hm rfl rfl (Nat.le_of_ble_eq_true rfl) hR (fun v ad2 M2 ha => ?_)
  obtain ⟨rfl, P2, D2, h2, rfl, q0, q3⟩ := zFd_act h hn ha
  exact kk ad2 P2 D2 h2 q0 q3
theorem G_fdH (hNc : zNc (z_s Γ)) (hd : decode cc pc = .ok (.invokevirtual 224, 3)) (h : zFd a0 a V0 i ad1 P D) (hL : (z_d Γ).2.2.2.2.1 ≤ 3072) (hD : D (200, 0, 0, 0) 2 ≤ 930000) (h0 : 1 ≤ P 0 0 0) (hst : (z_l Γ).stackTraces = false) (hR : zRo R 11 4 260 11 nc ns)
    (kk : ∀ ad2 P2 D2, zFd a0 a V0 (i + 1) ad2 P2 D2 → P 0 0 0 ≤ P2 0 0 0 → P 3 0 0 ≤ P2 3 0 0 → G Γ R cc nL RX7 ad2 (pm (z_d Γ) ad2 P2 D2 (mm (z_d Γ) ad2 P2 D2 z00)) (nc + 4) (ns + 260) (pc + 3) lv [.int (zI 1)]) : G Γ R cc nL RX7 ad1 (pm (z_d Γ) ad1 P D (mm (z_d Γ) ad1 P D z00)) nc ns pc lv [.ref a] := by
  rw [← h.1.2]
  refine G_callHV (pc := pc) hNc hk_X7_224 hd pg_200 rfl (c_X7_send h.2.1 rfl hL hD h0 hst) rfl rfl (Nat.le_of_ble_eq_true rfl) hR (fun v ad2 M2 ha => ?_)
  obtain ⟨rfl, P2, D2, h2, rfl, q0, q3⟩ := zFd_act h (by omega) ha
  exact kk ad2 P2 D2 h2 q0 q3
end ZGFD
def zQt (P : zP) : zP := fun m i j => if m = 0 then (if 1 ≤ P 0 0 0 then P 0 0 0 else 1) else P m i j
def zQg (P : zP) : zP := fun m i j => if m = 3 then (if 1 ≤ P 3 0 0 then P 3 0 0 else 1) else P m i j
theorem zQt_0 {P : zP} : zQt P 0 0 0 = if 1 ≤ P 0 0 0 then P 0 0 0 else 1 := if_pos rfl
theorem zQt_3 {P : zP} : zQt P 3 0 0 = P 3 0 0 := if_neg (by decide)
theorem zQg_3 {P : zP} : zQg P 3 0 0 = if 1 ≤ P 3 0 0 then P 3 0 0 else 1 := if_pos rfl
theorem zQg_0 {P : zP} : zQg P 0 0 0 = P 0 0 0 := if_neg (by decide)
set_option maxHeartbeats 4000000 in
set_option maxRecDepth 100000 in
theorem c_X7_found {l : Launch} {Δ : zDl} {ad : zK → Nat} {Q : zP} {V : zS} {X : zMem} (hJ : zJ Q V) (hX : X = mm Δ ad Q V z00) (hL : Δ.2.2.2.2.1 ≤ 3072) (hD : V (200, 0, 0, 0) 2 ≤ 900000) (h4 : V (0, 0, 0, 0) 4 ≤ 100) (hst : l.stackTraces = false) : zMc l Δ yX7_found cX7_found 2 (some .boolean) 12 120 5000 [.ref (ad (200, 0, 0, 0))] ad (pm Δ ad Q V X) (fun v ad' M' => v = some (.int (zI 1)) ∧ ∃ P' V', zFd (ad (0, 0, 0, 0)) (ad (200, 0, 0, 0)) V 30 ad' P' V' ∧ M' = pm Δ ad' P' V' (mm Δ ad' P' V' z00) ∧ 1 ≤ P' 0 0 0 ∧ 1 ≤ P' 3 0 0) := by
  refine zMc_of (by decide) (Nat.le_of_ble_eq_true rfl) (fun Γ hl hΔ hF hNc => ?_)
  subst hl hΔ hX
  show G Γ _ _ _ RX7 _ _ _ _ _ [(0, .ref (ad (200, 0, 0, 0)))] []
  have s0 : zFd (ad (0, 0, 0, 0)) (ad (200, 0, 0, 0)) V 0 ad Q V := ⟨⟨rfl, rfl⟩, hJ, by omega, by omega, by omega, Int.le_refl _⟩
  generalize ad (0, 0, 0, 0) = a0 at s0 hF ⊢
  generalize ad (200, 0, 0, 0) = a at s0 hF ⊢
  -- the loop
  have L39 : ∀ (m : Nat) (j : Int) (nc ns : Nat) (ad1 : zK → Nat) (P : zP) (D : zS), ((0 ≤ j ∧ j ≤ 8) ∧ (nc : Int) ≤ 80 + 4 * j ∧ (ns : Int) ≤ 2860 + 260 * j) → zFd a0 a V (5 + 2 * j) ad1 P D → 1 ≤ P 0 0 0 → 1 ≤ P 3 0 0 → (8 - j).toNat < m → G Γ (zRm 12 120 5000) cX7_found 2 RX7 ad1 (pm (z_d Γ) ad1 P D (mm (z_d Γ) ad1 P D z00)) nc ns 39 [(1, .int (zI j)), (0, .ref a)] [] := by
    intro m
    induction m with
    | zero => intro j nc ns ad1 P D _ _ _ _ hm; omega
    | succ m ih =>
      intro j nc ns ad1 P D hj h q0 q3 hm
      refine G_iload_n (pc := 39) 1 0 dX7_found_39 rfl rfl ?_
      refine G_bipush (pc := 40) dX7_found_40 (by decide) ?_
      refine G_icmp_ge (pc := 42) 72 dX7_found_42 (by decide) ⟨by omega, by omega⟩ ⟨by omega, by omega⟩ (fun c42 => ?_) (fun c42 => ?_)
      · refine G_iconst (pc := 72) dX7_found_72 ?_
        exact G_zret (pc := 73) hF dX7_found_73 ⟨by omega, by omega⟩ (Or.inr rfl) ⟨rfl, P, D, zFd_up h (by omega), rfl, q0, q3⟩
      · refine G_aload_n (pc := 45) 0 1 dX7_found_45 rfl rfl ?_
        refine G_fdH (pc := 46) hNc dX7_found_46 h hL (by have := h.2.2.1; omega) q0 hst ⟨⟨Nat.le_of_ble_eq_true rfl, Nat.le_of_ble_eq_true rfl⟩, by show nc + 4 ≤ 120; omega, by show ns + 260 ≤ 5000; omega⟩ (fun ad2 P2 D2 h2 r0 r3 => ?_)
        refine G_if_eq (pc := 49) 64 dX7_found_49 (by decide) ⟨by omega, by omega⟩ (fun c => absurd c (by decide)) (fun _ => ?_)
        have last : ∀ (nc' ns' : Nat) (ad3 : zK → Nat) (P3 : zP) (D3 : zS), nc' = nc + 4 → ns' = ns + 260 → zFd a0 a V (5 + 2 * (j + 1)) ad3 P3 D3 → 1 ≤ P3 0 0 0 → 1 ≤ P3 3 0 0 → G Γ (zRm 12 120 5000) cX7_found 2 RX7 ad3 (pm (z_d Γ) ad3 P3 D3 (mm (z_d Γ) ad3 P3 D3 z00)) nc' ns' 66 [(1, .int (zI j)), (0, .ref a)] [] := fun nc' ns' ad3 P3 D3 e1 e2 h3 w0 w3 => by
          refine G_iinc (pc := 66) 0 [(1, .int (zI (j + 1))), (0, .ref a)] dX7_found_66 rfl (by decide) rfl ?_
          refine G_goto (pc := 69) 39 dX7_found_69 (by decide) ?_
          exact ih (j + 1) nc' ns' ad3 P3 D3 ⟨⟨by omega, by omega⟩, by omega, by omega⟩ h3 w0 w3 (by omega)
        refine G_iload_n (pc := 52) 1 0 dX7_found_52 rfl rfl ?_
        refine G_iconst (pc := 53) dX7_found_53 ?_
        refine G_icmp_ge (pc := 54) 66 dX7_found_54 (by decide) ⟨by omega, by omega⟩ ⟨by omega, by omega⟩ (fun c54 => ?_) (fun c54 => ?_)
        · exact last _ _ ad2 P2 D2 rfl rfl (zFd_up h2 (by omega)) (by omega) (by omega)
        · refine G_aload_n (pc := 57) 0 1 dX7_found_57 rfl rfl ?_
          refine G_fd (pc := 58) (n := 1000) gk_X7_226 dX7_found_58 h2 (by omega) (c_X7_join h2.2.1 rfl hL (by have := h2.2.2.1; omega) (by have := h2.2.2.2.1; omega) (by omega)) ⟨⟨Nat.le_of_ble_eq_true rfl, Nat.le_of_ble_eq_true rfl⟩, by show nc + 4 + 0 ≤ 120; omega, by show ns + 260 + 0 ≤ 5000; omega⟩ (fun ad3 P3 D3 h3 w0 w3 => ?_)
          refine G_if_ne (pc := 61) 66 dX7_found_61 (by decide) ⟨by omega, by omega⟩ (fun _ => ?_) (fun c => absurd c (by decide))
          exact last _ _ ad3 P3 D3 rfl rfl (zFd_up h3 (by omega)) (by omega) (by omega)
  refine G_aload_n (pc := 0) 0 0 dX7_found_0 rfl rfl ?_
  refine G_fd (pc := 1) (n := 1000) (Q1 := zQt Q) gk_X7_215 dX7_found_1 s0 (by omega) (c_X7_addTopic hJ rfl hL (by omega) (by omega) (by have := hJ.wp.n; rw [zQt_0]; split <;> omega) (by rw [zQt_3]; exact Int.le_refl _)) ⟨⟨Nat.le_of_ble_eq_true rfl, Nat.le_of_ble_eq_true rfl⟩, Nat.le_of_ble_eq_true rfl, Nat.le_of_ble_eq_true rfl⟩ (fun ad1 P1 D1 h1 q1 r1 => ?_)
  have t1 : 1 ≤ P1 0 0 0 := by rw [zQt_0] at q1; split at q1 <;> omega
  have n1 := h1.2.1.wp.n
  have u1 := h1.2.2
  refine G_if_eq (pc := 4) 35 dX7_found_4 (by decide) ⟨by omega, by omega⟩ (fun c => absurd c (by decide)) (fun _ => ?_)
  refine G_aload_n (pc := 7) 0 0 dX7_found_7 rfl rfl ?_
  refine G_fd (pc := 8) (n := 1000) (Q1 := P1) gk_X7_215 dX7_found_8 h1 (by omega) (c_X7_addTopic h1.2.1 rfl hL (by omega) (by omega) ⟨by omega, by omega⟩ (Int.le_refl _)) ⟨⟨Nat.le_of_ble_eq_true rfl, Nat.le_of_ble_eq_true rfl⟩, Nat.le_of_ble_eq_true rfl, Nat.le_of_ble_eq_true rfl⟩ (fun ad2 P2 D2 h2 q2 r2 => ?_)
  have n2 := h2.2.1.wp.n
  have u2 := h2.2.2
  refine G_if_eq (pc := 11) 35 dX7_found_11 (by decide) ⟨by omega, by omega⟩ (fun c => absurd c (by decide)) (fun _ => ?_)
  refine G_aload_n (pc := 14) 0 0 dX7_found_14 rfl rfl ?_
  refine G_fd (pc := 15) (n := 1000) (Q1 := zQg P2) gk_X7_219 dX7_found_15 h2 (by omega) (c_X7_addGroup h2.2.1 rfl hL (by omega) (by omega) (by omega) (by rw [zQg_0]; exact Int.le_refl _) (by rw [zQg_3]; split <;> omega)) ⟨⟨Nat.le_of_ble_eq_true rfl, Nat.le_of_ble_eq_true rfl⟩, Nat.le_of_ble_eq_true rfl, Nat.le_of_ble_eq_true rfl⟩ (fun ad3 P3 D3 h3 q3 r3 => ?_)
  have t3 : 1 ≤ P3 3 0 0 := by rw [zQg_3] at r3; split at r3 <;> omega
  rw [zQg_0] at q3
  have n3 := h3.2.1.wp.n
  have u3 := h3.2.2
  refine G_if_eq (pc := 18) 35 dX7_found_18 (by decide) ⟨by omega, by omega⟩ (fun c => absurd c (by decide)) (fun _ => ?_)
  refine G_aload_n (pc := 21) 0 0 dX7_found_21 rfl rfl ?_
  refine G_fd (pc := 22) (n := 1000) (Q1 := P3) gk_X7_219 dX7_found_22 h3 (by omega) (c_X7_addGroup h3.2.1 rfl hL (by omega) (by omega) (by omega) (Int.le_refl _) ⟨by omega, by omega⟩) ⟨⟨Nat.le_of_ble_eq_true rfl, Nat.le_of_ble_eq_true rfl⟩, Nat.le_of_ble_eq_true rfl, Nat.le_of_ble_eq_true rfl⟩ (fun ad4 P4 D4 h4' q4 r4 => ?_)
  have u4 := h4'.2.2
  refine G_if_eq (pc := 25) 35 dX7_found_25 (by decide) ⟨by omega, by omega⟩ (fun c => absurd c (by decide)) (fun _ => ?_)
  refine G_aload_n (pc := 28) 0 0 dX7_found_28 rfl rfl ?_
  refine G_fd (pc := 29) (n := 1000) (Q1 := P4) gk_X7_222 dX7_found_29 h4' (by omega) (c_X7_setPatience h4'.2.1 rfl hL (by omega) (by omega)) ⟨⟨Nat.le_of_ble_eq_true rfl, Nat.le_of_ble_eq_true rfl⟩, Nat.le_of_ble_eq_true rfl, Nat.le_of_ble_eq_true rfl⟩ (fun ad5 P5 D5 h5 q5 r5 => ?_)
  refine G_if_ne (pc := 32) 37 dX7_found_32 (by decide) ⟨by omega, by omega⟩ (fun _ => ?_) (fun c => absurd c (by decide))
  refine G_iconst (pc := 37) dX7_found_37 ?_
  refine G_istore_n (pc := 38) 1 [(1, .int (zI 0)), (0, .ref a)] dX7_found_38 rfl (by decide) rfl ?_
  exact L39 _ 0 _ _ ad5 P5 D5 ⟨⟨by omega, by omega⟩, by omega, by omega⟩ (zFd_up h5 (by omega)) (by omega) (by omega) (Nat.lt_succ_self _)
