/-! ===== send, what it draws ===== -/
def zDr (Q : zP) (V D : zS) (n : Int) : Prop := zJ Q D ∧ D (200, 0, 0, 0) 2 ≤ V (200, 0, 0, 0) 2 + n ∧ ∀ k f, k ≠ (200, 0, 0, 0) → D k f = V k f
theorem zDr_0 {Q : zP} {V : zS} (h : zJ Q V) : zDr Q V V 0 := ⟨h, by omega, fun _ _ _ => rfl⟩
theorem G_drw {Γ : zCx} {R : Room} {cc : ByteArray} {nL : Nat} {ad : zK → Nat} {nc ns pc : Nat} {lv : List (Nat × Value)} {st : List Value} {Q : zP} {V D : zS} {X : zMem} {n m : Int} (hd : decode cc pc = .ok (.invokevirtual 94, 3)) (h : zDr Q V D m) (hm : V (200, 0, 0, 0) 2 + m ≤ 990000) (hL : (z_d Γ).2.2.2.2.1 ≤ 3072) (hn : 1 ≤ n ∧ n ≤ 1000000) (hro : (st.map fun v => v.category).sum ≤ 8) (hR : zRo R 2 0 0 3 nc ns)
    (kk : ∀ (r : Int) (D' : zS), (0 ≤ r ∧ r < n) → zDr Q V D' (m + 1) → G Γ R cc nL RX7 ad (pm (z_d Γ) ad Q D' X) nc ns (pc + 3) lv (.int (zI r) :: st)) : G Γ R cc nL RX7 ad (pm (z_d Γ) ad Q D X) nc ns pc lv (.int (zI n) :: .ref (ad (200, 0, 0, 0)) :: st) := by
  obtain ⟨hJ, h2, h3⟩ := h
  have hdw := hJ.wv.dw
  refine G_callV (pc := pc) gk_X7_94 hd pg_200 rfl (c_X7_draw (n := n) hJ.wv hL hn) rfl rfl hro hR (fun vx adx Mx hpo => ?_)
  obtain ⟨r, hr, rfl, rfl, rfl⟩ := hpo
  exact kk r _ hr ⟨zJ_dr hJ ⟨by omega, by omega⟩, by rw [zst_s]; omega, fun k f hk => by rw [zst_k _ _ _ _ hk]; exact h3 k f hk⟩
section ZSF
variable {Γ : zCx} {ad : zK → Nat} {Q : zP} {V : zS} {t x n k v e6 e7 : Int}
set_option maxHeartbeats 4000000 in
set_option maxRecDepth 100000 in
theorem f106_X7_send {D : zS} (hF : zFn Γ yX7_send.name (some .boolean) (zAct (z_d Γ) ad Q V 1000) 4 260) (htab : (z_c Γ).exceptionTable.toList = tableOf hhSend) (hNc : zNc (z_s Γ)) (hst : (z_l Γ).stackTraces = false) (h : zDr Q V D 8) (ht : inT Q t) (hx : 0 ≤ x ∧ x < 4) (hrn : zR n) (hk : -1 ≤ k ∧ k ≤ 9) (hv : 0 ≤ v ∧ v ≤ 999)
    (h6 : (e6 = 1 ∧ 0 ≤ n ∧ n < D (10, t, 0, 0) x) ∨ (e6 = 0 ∧ ¬ (0 ≤ n ∧ n < D (10, t, 0, 0) x))) :
    G Γ (zRm 11 4 260) cX7_send 11 RX7 ad (pm (z_d Γ) ad Q D (mm (z_d Γ) ad Q V z00)) 0 0 106 [(0, .ref (ad (200, 0, 0, 0))), (1, .int (zI t)), (2, .int (zI x)), (3, .int (zI n)), (4, .int (zI k)), (5, .int (zI v)), (6, .int (zI e6))] [] := by
  obtain ⟨hJ, hd, hf⟩ := h
  have hP := hJ.wp
  have hqn := hP.n
  have hV := hJ.wv
  have hnx := hV.nx t x
  have hf0 := hV.f0
  have ht1 := ht.1
  have ht2 := ht.2
  have go := fun (e7 : Int) h7 => w2_X7_send (V := V) (e7 := e7) hF htab hNc hst hJ (show mm (z_d Γ) ad Q V z00 = mm (z_d Γ) ad Q D z00 from (mm_cg (fun k f hk => hf k f (fun q => by rw [q] at hk; exact absurd hk (by show ¬ 200 < 80; decide)))).symm) ht hx hrn hk hv h6 h7 (by omega) (hf _ _ (by simp)) (hf _ _ (by simp)) (hf _ _ (by simp))
  have one : (0 ≤ n ∧ (n < D (10, t, 0, 0) x ∨ (n = D (10, t, 0, 0) x ∧ D (0, 0, 0, 0) 5 < 80))) → G Γ (zRm 11 4 260) cX7_send 11 RX7 ad (pm (z_d Γ) ad Q D (mm (z_d Γ) ad Q V z00)) 0 0 136 [(0, .ref (ad (200, 0, 0, 0))), (1, .int (zI t)), (2, .int (zI x)), (3, .int (zI n)), (4, .int (zI k)), (5, .int (zI v)), (6, .int (zI e6))] [] := fun q => by
    refine G_iconst (pc := 136) dX7_send_136 ?_
    refine G_goto (pc := 137) 141 dX7_send_137 (by decide) ?_
    refine G_istore (pc := 141) [(7, .int (zI 1)), (0, .ref (ad (200, 0, 0, 0))), (1, .int (zI t)), (2, .int (zI x)), (3, .int (zI n)), (4, .int (zI k)), (5, .int (zI v)), (6, .int (zI e6))] dX7_send_141 (by decide) rfl ?_
    exact G_perm [1, 2, 3, 4, 5, 6, 7, 0] rfl (go 1 (Or.inl ⟨rfl, q⟩))
  have zero : ¬ (0 ≤ n ∧ (n < D (10, t, 0, 0) x ∨ (n = D (10, t, 0, 0) x ∧ D (0, 0, 0, 0) 5 < 80))) → G Γ (zRm 11 4 260) cX7_send 11 RX7 ad (pm (z_d Γ) ad Q D (mm (z_d Γ) ad Q V z00)) 0 0 140 [(0, .ref (ad (200, 0, 0, 0))), (1, .int (zI t)), (2, .int (zI x)), (3, .int (zI n)), (4, .int (zI k)), (5, .int (zI v)), (6, .int (zI e6))] [] := fun q => by
    refine G_iconst (pc := 140) dX7_send_140 ?_
    refine G_istore (pc := 141) [(7, .int (zI 0)), (0, .ref (ad (200, 0, 0, 0))), (1, .int (zI t)), (2, .int (zI x)), (3, .int (zI n)), (4, .int (zI k)), (5, .int (zI v)), (6, .int (zI e6))] dX7_send_141 (by decide) rfl ?_
    exact G_perm [1, 2, 3, 4, 5, 6, 7, 0] rfl (go 0 (Or.inr ⟨rfl, q⟩))
  refine G_iload_n (pc := 106) 3 3 dX7_send_106 rfl rfl ?_
  refine G_if_lt (pc := 107) 140 dX7_send_107 (by decide) hrn (fun c => zero (by omega)) (fun c107 => ?_)
  refine G_iload (pc := 110) 6 dX7_send_110 rfl ?_
  refine G_if_ne (pc := 112) 136 dX7_send_112 (by decide) ⟨by omega, by omega⟩ (fun c => one (by omega)) (fun c112 => ?_)
  refine G_iload_n (pc := 115) 3 3 dX7_send_115 rfl rfl ?_
  refine G_aload_n (pc := 116) 0 0 dX7_send_116 rfl rfl ?_
  refine G_getf (pc := 117) fl_X7_42 dX7_send_117 pg_200 rfl ?_
  refine G_iload_n (pc := 120) 1 1 dX7_send_120 rfl rfl ?_
  refine G_aldA (pc := 121) (t := 5) rfl dX7_send_121 pg_209 ⟨by omega, by omega, by omega, by omega⟩ rfl ?_
  refine G_iload_n (pc := 122) 2 2 dX7_send_122 rfl rfl ?_
  refine G_ialdV (pc := 123) (D (10, t, 0, 0) x) dX7_send_123 (pg_210 ⟨by omega, by omega⟩) ⟨by omega, by omega, by omega, by omega⟩ rfl ?_
  refine G_icmp_ne (pc := 124) 140 dX7_send_124 (by decide) hrn ⟨by omega, by omega⟩ (fun c => zero (by omega)) (fun c124 => ?_)
  refine G_aload_n (pc := 127) 0 0 dX7_send_127 rfl rfl ?_
  refine G_getf (pc := 128) fl_X7_112 dX7_send_128 pg_200 rfl ?_
  refine G_bipush (pc := 131) dX7_send_131 (by decide) ?_
  exact G_icmp_ge (pc := 133) 140 dX7_send_133 (by decide) ⟨by omega, by omega⟩ ⟨by omega, by omega⟩ (fun c => zero (by omega)) (fun c133 => one (by omega))
set_option maxHeartbeats 4000000 in
set_option maxRecDepth 100000 in
theorem f74_X7_send {D : zS} (hF : zFn Γ yX7_send.name (some .boolean) (zAct (z_d Γ) ad Q V 1000) 4 260) (htab : (z_c Γ).exceptionTable.toList = tableOf hhSend) (hNc : zNc (z_s Γ)) (hst : (z_l Γ).stackTraces = false) (hL : (z_d Γ).2.2.2.2.1 ≤ 3072) (hD : V (200, 0, 0, 0) 2 ≤ 930000) (h : zDr Q V D 7) (ht : inT Q t) (hx : 0 ≤ x ∧ x < 4) (hrn : zR n) (hk : -1 ≤ k ∧ k ≤ 9) :
    G Γ (zRm 11 4 260) cX7_send 11 RX7 ad (pm (z_d Γ) ad Q D (mm (z_d Γ) ad Q V z00)) 0 0 74 [(0, .ref (ad (200, 0, 0, 0))), (1, .int (zI t)), (2, .int (zI x)), (3, .int (zI n)), (4, .int (zI k))] [] := by
  refine G_aload_n (pc := 74) 0 0 dX7_send_74 rfl rfl ?_
  refine G_sipush (pc := 75) dX7_send_75 (by decide) ?_
  refine G_drw (pc := 78) dX7_send_78 h (by omega) hL ⟨by omega, by omega⟩ (Nat.le_of_ble_eq_true rfl) ⟨⟨Nat.le_of_ble_eq_true rfl, Nat.le_of_ble_eq_true rfl⟩, Nat.le_of_ble_eq_true rfl, Nat.le_of_ble_eq_true rfl⟩ (fun v D' hv h' => ?_)
  have hP := h'.1.wp
  have hqn := hP.n
  have hnx := h'.1.wv.nx t x
  have ht1 := ht.1
  have ht2 := ht.2
  refine G_istore (pc := 81) [(5, .int (zI v)), (0, .ref (ad (200, 0, 0, 0))), (1, .int (zI t)), (2, .int (zI x)), (3, .int (zI n)), (4, .int (zI k))] dX7_send_81 (by decide) rfl ?_
  have go := fun (e6 : Int) h6 => f106_X7_send (e6 := e6) hF htab hNc hst (show zDr Q V D' 8 from h') ht hx hrn hk (show 0 ≤ v ∧ v ≤ 999 from ⟨by omega, by omega⟩) h6
  have zero : ¬ (0 ≤ n ∧ n < D' (10, t, 0, 0) x) → G Γ (zRm 11 4 260) cX7_send 11 RX7 ad (pm (z_d Γ) ad Q D' (mm (z_d Γ) ad Q V z00)) 0 0 103 [(5, .int (zI v)), (0, .ref (ad (200, 0, 0, 0))), (1, .int (zI t)), (2, .int (zI x)), (3, .int (zI n)), (4, .int (zI k))] [] := fun q => by
    refine G_iconst (pc := 103) dX7_send_103 ?_
    refine G_istore (pc := 104) [(6, .int (zI 0)), (5, .int (zI v)), (0, .ref (ad (200, 0, 0, 0))), (1, .int (zI t)), (2, .int (zI x)), (3, .int (zI n)), (4, .int (zI k))] dX7_send_104 (by decide) rfl ?_
    exact G_perm [2, 3, 4, 5, 6, 1, 0] rfl (go 0 (Or.inr ⟨rfl, q⟩))
  refine G_iload_n (pc := 83) 3 4 dX7_send_83 rfl rfl ?_
  refine G_if_lt (pc := 84) 103 dX7_send_84 (by decide) hrn (fun c => zero (by omega)) (fun c84 => ?_)
  refine G_iload_n (pc := 87) 3 4 dX7_send_87 rfl rfl ?_
  refine G_aload_n (pc := 88) 0 1 dX7_send_88 rfl rfl ?_
  refine G_getf (pc := 89) fl_X7_42 dX7_send_89 pg_200 rfl ?_
  refine G_iload_n (pc := 92) 1 2 dX7_send_92 rfl rfl ?_
  refine G_aldA (pc := 93) (t := 5) rfl dX7_send_93 pg_209 ⟨by omega, by omega, by omega, by omega⟩ rfl ?_
  refine G_iload_n (pc := 94) 2 3 dX7_send_94 rfl rfl ?_
  refine G_ialdV (pc := 95) (D' (10, t, 0, 0) x) dX7_send_95 (pg_210 ⟨by omega, by omega⟩) ⟨by omega, by omega, by omega, by omega⟩ rfl ?_
  refine G_icmp_ge (pc := 96) 103 dX7_send_96 (by decide) hrn ⟨by omega, by omega⟩ (fun c => zero (by omega)) (fun c96 => ?_)
  refine G_iconst (pc := 99) dX7_send_99 ?_
  refine G_goto (pc := 100) 104 dX7_send_100 (by decide) ?_
  refine G_istore (pc := 104) [(6, .int (zI 1)), (5, .int (zI v)), (0, .ref (ad (200, 0, 0, 0))), (1, .int (zI t)), (2, .int (zI x)), (3, .int (zI n)), (4, .int (zI k))] dX7_send_104 (by decide) rfl ?_
  exact G_perm [2, 3, 4, 5, 6, 1, 0] rfl (go 1 (Or.inl ⟨rfl, by omega, by omega⟩))
theorem zDr_up {D : zS} {a b : Int} (h : zDr Q V D a) (hab : a ≤ b) : zDr Q V D b := ⟨h.1, by have := h.2.1; omega, h.2.2⟩
set_option maxHeartbeats 4000000 in
set_option maxRecDepth 100000 in
theorem f55_X7_send {D : zS} (hF : zFn Γ yX7_send.name (some .boolean) (zAct (z_d Γ) ad Q V 1000) 4 260) (htab : (z_c Γ).exceptionTable.toList = tableOf hhSend) (hNc : zNc (z_s Γ)) (hst : (z_l Γ).stackTraces = false) (hL : (z_d Γ).2.2.2.2.1 ≤ 3072) (hD : V (200, 0, 0, 0) 2 ≤ 930000) (h : zDr Q V D 4) (ht : inT Q t) (hx : 0 ≤ x ∧ x < 4) (hrn : zR n) :
    G Γ (zRm 11 4 260) cX7_send 11 RX7 ad (pm (z_d Γ) ad Q D (mm (z_d Γ) ad Q V z00)) 0 0 55 [(0, .ref (ad (200, 0, 0, 0))), (1, .int (zI t)), (2, .int (zI x)), (3, .int (zI n))] [] := by
  refine G_aload_n (pc := 55) 0 0 dX7_send_55 rfl rfl ?_
  refine G_iconst (pc := 56) dX7_send_56 ?_
  refine G_drw (pc := 57) dX7_send_57 h (by omega) hL ⟨by omega, by omega⟩ (Nat.le_of_ble_eq_true rfl) ⟨⟨Nat.le_of_ble_eq_true rfl, Nat.le_of_ble_eq_true rfl⟩, Nat.le_of_ble_eq_true rfl, Nat.le_of_ble_eq_true rfl⟩ (fun r D' hr h' => ?_)
  refine G_if_ne (pc := 60) 67 dX7_send_60 (by decide) ⟨by omega, by omega⟩ (fun c => ?_) (fun c => ?_)
  · refine G_aload_n (pc := 67) 0 0 dX7_send_67 rfl rfl ?_
    refine G_iconst (pc := 68) dX7_send_68 ?_
    refine G_drw (pc := 69) dX7_send_69 h' (by omega) hL ⟨by omega, by omega⟩ (Nat.le_of_ble_eq_true rfl) ⟨⟨Nat.le_of_ble_eq_true rfl, Nat.le_of_ble_eq_true rfl⟩, Nat.le_of_ble_eq_true rfl, Nat.le_of_ble_eq_true rfl⟩ (fun k D2 hk h2 => ?_)
    refine G_istore (pc := 72) [(4, .int (zI k)), (0, .ref (ad (200, 0, 0, 0))), (1, .int (zI t)), (2, .int (zI x)), (3, .int (zI n))] dX7_send_72 (by decide) rfl ?_
    exact G_perm [1, 2, 3, 4, 0] rfl (f74_X7_send hF htab hNc hst hL hD (zDr_up h2 (by omega)) ht hx hrn ⟨by omega, by omega⟩)
  · refine G_iconst (pc := 63) dX7_send_63 ?_
    refine G_goto (pc := 64) 72 dX7_send_64 (by decide) ?_
    refine G_istore (pc := 72) [(4, .int (zI (-1))), (0, .ref (ad (200, 0, 0, 0))), (1, .int (zI t)), (2, .int (zI x)), (3, .int (zI n))] dX7_send_72 (by decide) rfl ?_
    exact G_perm [1, 2, 3, 4, 0] rfl (f74_X7_send hF htab hNc hst hL hD (zDr_up h' (by omega)) ht hx hrn ⟨by omega, by omega⟩)
set_option maxHeartbeats 4000000 in
set_option maxRecDepth 100000 in
theorem f38_X7_send {D : zS} {y : Int} (hF : zFn Γ yX7_send.name (some .boolean) (zAct (z_d Γ) ad Q V 1000) 4 260) (htab : (z_c Γ).exceptionTable.toList = tableOf hhSend) (hNc : zNc (z_s Γ)) (hst : (z_l Γ).stackTraces = false) (hL : (z_d Γ).2.2.2.2.1 ≤ 3072) (hD : V (200, 0, 0, 0) 2 ≤ 930000) (h : zDr Q V D 3) (ht : inT Q t) (hx : 0 ≤ x ∧ x < 4) (hn : 0 ≤ n ∧ n ≤ 80) (hy : y = 0 ∨ y = 1) :
    G Γ (zRm 11 4 260) cX7_send 11 RX7 ad (pm (z_d Γ) ad Q D (mm (z_d Γ) ad Q V z00)) 0 0 38 [(0, .ref (ad (200, 0, 0, 0))), (1, .int (zI t)), (2, .int (zI x))] [.int (zI y), .int (zI n)] := by
  refine G_isub (pc := 38) dX7_send_38 ?_
  refine G_aload_n (pc := 39) 0 0 dX7_send_39 rfl rfl ?_
  refine G_bipush (pc := 40) dX7_send_40 (by decide) ?_
  refine G_drw (pc := 42) dX7_send_42 h (by omega) hL ⟨by omega, by omega⟩ (Nat.le_of_ble_eq_true rfl) ⟨⟨Nat.le_of_ble_eq_true rfl, Nat.le_of_ble_eq_true rfl⟩, Nat.le_of_ble_eq_true rfl, Nat.le_of_ble_eq_true rfl⟩ (fun r D' hr h' => ?_)
  have fin := fun (z : Int) (hz : z = 0 ∨ z = 1) => f55_X7_send (n := n - y + z) hF htab hNc hst hL hD (show zDr Q V D' 4 from h') ht hx ⟨by omega, by omega⟩
  refine G_if_ne (pc := 45) 52 dX7_send_45 (by decide) ⟨by omega, by omega⟩ (fun c => ?_) (fun c => ?_)
  · refine G_iconst (pc := 52) dX7_send_52 ?_
    refine G_iadd (pc := 53) dX7_send_53 ?_
    refine G_istore_n (pc := 54) 3 [(3, .int (zI (n - y + 0))), (0, .ref (ad (200, 0, 0, 0))), (1, .int (zI t)), (2, .int (zI x))] dX7_send_54 rfl (by decide) rfl ?_
    exact G_perm [1, 2, 3, 0] rfl (fin 0 (Or.inl rfl))
  · refine G_iconst (pc := 48) dX7_send_48 ?_
    refine G_goto (pc := 49) 53 dX7_send_49 (by decide) ?_
    refine G_iadd (pc := 53) dX7_send_53 ?_
    refine G_istore_n (pc := 54) 3 [(3, .int (zI (n - y + 1))), (0, .ref (ad (200, 0, 0, 0))), (1, .int (zI t)), (2, .int (zI x))] dX7_send_54 rfl (by decide) rfl ?_
    exact G_perm [1, 2, 3, 0] rfl (fin 1 (Or.inr rfl))
end ZSF
set_option maxHeartbeats 4000000 in
set_option maxRecDepth 100000 in
theorem c_X7_send {l : Launch} {Δ : zDl} {ad : zK → Nat} {Q : zP} {V : zS} {X : zMem} (hJ : zJ Q V) (hX : X = mm Δ ad Q V z00) (hL : Δ.2.2.2.2.1 ≤ 3072) (hD : V (200, 0, 0, 0) 2 ≤ 930000) (h0 : 1 ≤ Q 0 0 0) (hst : l.stackTraces = false) : zMh l Δ yX7_send cX7_send 11 (some .boolean) hhSend 11 4 260 [.ref (ad (200, 0, 0, 0))] ad (pm Δ ad Q V X) (zAct Δ ad Q V 1000) := by
  refine zMh_of (by decide) (Nat.le_of_ble_eq_true rfl) (fun Γ hl hΔ hF htab hNc => ?_)
  subst hl hΔ hX
  show G Γ _ _ _ RX7 _ _ _ _ _ [(0, .ref (ad (200, 0, 0, 0)))] []
  have hP := hJ.wp
  have hqn := hP.n
  refine G_aload_n (pc := 0) 0 0 dX7_send_0 rfl rfl ?_
  refine G_aload_n (pc := 1) 0 0 dX7_send_1 rfl rfl ?_
  refine G_getf (pc := 2) fl_X7_25 dX7_send_2 pg_200 rfl ?_
  refine G_alenV (pc := 5) (t := 7) (Q 0 0 0) rfl dX7_send_5 pg_201 (by omega) ?_
  refine G_drw (pc := 6) dX7_send_6 (zDr_0 hJ) (by omega) hL ⟨by omega, by omega⟩ (Nat.le_of_ble_eq_true rfl) ⟨⟨Nat.le_of_ble_eq_true rfl, Nat.le_of_ble_eq_true rfl⟩, Nat.le_of_ble_eq_true rfl, Nat.le_of_ble_eq_true rfl⟩ (fun t D1 ht h1 => ?_)
  refine G_istore_n (pc := 9) 1 [(1, .int (zI t)), (0, .ref (ad (200, 0, 0, 0)))] dX7_send_9 rfl (by decide) rfl ?_
  refine G_aload_n (pc := 10) 0 1 dX7_send_10 rfl rfl ?_
  refine G_iconst (pc := 11) dX7_send_11 ?_
  refine G_drw (pc := 12) dX7_send_12 h1 (by omega) hL ⟨by omega, by omega⟩ (Nat.le_of_ble_eq_true rfl) ⟨⟨Nat.le_of_ble_eq_true rfl, Nat.le_of_ble_eq_true rfl⟩, Nat.le_of_ble_eq_true rfl, Nat.le_of_ble_eq_true rfl⟩ (fun x D2 hx h2 => ?_)
  refine G_istore_n (pc := 15) 2 [(2, .int (zI x)), (1, .int (zI t)), (0, .ref (ad (200, 0, 0, 0)))] dX7_send_15 rfl (by decide) rfl ?_
  have hnx := h2.1.wv.nx t x
  refine G_aload_n (pc := 16) 0 2 dX7_send_16 rfl rfl ?_
  refine G_getf (pc := 17) fl_X7_42 dX7_send_17 pg_200 rfl ?_
  refine G_iload_n (pc := 20) 1 1 dX7_send_20 rfl rfl ?_
  refine G_aldA (pc := 21) (t := 5) rfl dX7_send_21 pg_209 ⟨by omega, by omega, by omega, by omega⟩ rfl ?_
  refine G_iload_n (pc := 22) 2 0 dX7_send_22 rfl rfl ?_
  refine G_ialdV (pc := 23) (D2 (10, t, 0, 0) x) dX7_send_23 (pg_210 ⟨by omega, by omega⟩) ⟨by omega, by omega, by omega, by omega⟩ rfl ?_
  refine G_aload_n (pc := 24) 0 2 dX7_send_24 rfl rfl ?_
  refine G_bipush (pc := 25) dX7_send_25 (by decide) ?_
  refine G_drw (pc := 27) dX7_send_27 h2 (by omega) hL ⟨by omega, by omega⟩ (Nat.le_of_ble_eq_true rfl) ⟨⟨Nat.le_of_ble_eq_true rfl, Nat.le_of_ble_eq_true rfl⟩, Nat.le_of_ble_eq_true rfl, Nat.le_of_ble_eq_true rfl⟩ (fun r D3 hr h3 => ?_)
  have fin := fun (y : Int) (hy : y = 0 ∨ y = 1) => f38_X7_send (t := t) (x := x) (n := D2 (10, t, 0, 0) x) (y := y) hF htab hNc hst hL hD (show zDr Q V D3 3 from h3) ht hx hnx hy
  refine G_if_ne (pc := 30) 37 dX7_send_30 (by decide) ⟨by omega, by omega⟩ (fun c => ?_) (fun c => ?_)
  · refine G_iconst (pc := 37) dX7_send_37 ?_
    exact G_perm [2, 1, 0] rfl (fin 0 (Or.inl rfl))
  · refine G_iconst (pc := 33) dX7_send_33 ?_
    refine G_goto (pc := 34) 38 dX7_send_34 (by decide) ?_
    exact G_perm [2, 1, 0] rfl (fin 1 (Or.inr rfl))
