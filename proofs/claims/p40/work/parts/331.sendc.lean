/-! ===== the class's send, where it adds ===== -/
def zmR (k v now x st : Int) : Int → Int := fun f => if f = 0 then k else if f = 1 then v else if f = 2 then now else if f = 3 then x else if f = 4 then st else 0
abbrev zS1d (S : zS) (t x : Int) : zS := zst (zst S (0, 0, 0, 0) 5 (S (0, 0, 0, 0) 5 + 1)) (10, t, 0, 0) x (S (10, t, 0, 0) x + 1)
set_option maxHeartbeats 4000000 in
set_option maxRecDepth 100000 in
theorem c_X6_send {l : Launch} {Δ : zDl} {ad : zK → Nat} {P : zP} {S : zS} {X : zMem} {t x n k v : Int} (hP : zWP P) (ht : 0 ≤ t ∧ t < P 0 0 0) (hW : zWS P S) (hx : 0 ≤ x ∧ x < 4) (ha : 0 ≤ n ∧ (-1 ≤ k ∧ k ≤ 9) ∧ (0 ≤ v ∧ v ≤ 999)) (hn : S (10, t, 0, 0) x = n) (h80 : S (0, 0, 0, 0) 5 < 80) (hq : 0 ≤ zpa P t k ∧ zpa P t k < P 1 t 0) (hq80 : P 2 t (zpa P t k) < 80) (hX : X (91, 0, 0, 0) = none) : zMn l Δ yX6_send cX6_send 9 (some .int) 10 2 160 [.ref (ad (0, 0, 0, 0)), .int (zI t), .int (zI x), .int (zI n), .int (zI k), .int (zI v)] ad (mm Δ ad P S X) (fun w ad' M' => w = some (.int (zI (P 2 t (zpa P t k)))) ∧ ∃ c z : Int, (P 2 t (zpa P t k) < c ∧ c ≤ 200) ∧ zR z ∧ M' = mm Δ ad' (zPsd P t (zpa P t k) c) (zSsd P (zS1d S t x) t (zpa P t k) z (zmR k v (S (0, 0, 0, 0) 6) x (if S (3, 0, 0, 0) x = 0 then 0 else 2))) X ∧ ∀ k : zK, (k.1 = 0 ∨ 40 ≤ k.1) → k ≠ (91, 0, 0, 0) → ad' k = ad k) := by
  have hrn : zR n := by rw [← hn]; exact hW.R _ _
  refine zMn_of (by decide) (Nat.le_of_ble_eq_true rfl) (fun Γ hl hΔ hF => ?_)
  subst hl hΔ
  show G Γ _ _ _ RX6 _ _ _ _ _ [(0, .ref (ad (0, 0, 0, 0))), (1, .int (zI t)), (2, .int (zI x)), (3, .int (zI n)), (4, .int (zI k)), (5, .int (zI v))] []
  have hS := hW.R
  have hN := hP.n
  have hT := hP.t ht
  have hM := hP.m ht hq
  refine G_aload_n (pc := 0) 0 0 dX6_send_0 rfl rfl ?_
  refine G_iload_n (pc := 1) 1 1 dX6_send_1 rfl rfl ?_
  refine G_callVd (pc := 2) gk_X6_75 dX6_send_2 mg_0 rfl (c_X6_topicAt hP ht) rfl rfl (Nat.le_of_ble_eq_true rfl) ⟨⟨Nat.le_of_ble_eq_true rfl, Nat.le_of_ble_eq_true rfl⟩, Nat.le_of_ble_eq_true rfl, Nat.le_of_ble_eq_true rfl⟩ ?_
  refine G_astore (pc := 5) [(6, .ref (ad (8, t, 0, 0))), (0, .ref (ad (0, 0, 0, 0))), (1, .int (zI t)), (2, .int (zI x)), (3, .int (zI n)), (4, .int (zI k)), (5, .int (zI v))] dX6_send_5 (by decide) rfl ?_
  refine G_iload_n (pc := 7) 2 3 dX6_send_7 rfl rfl ?_
  refine G_callSv (pc := 8) gk_X6_79 dX6_send_8 (c_X6_refuseOtherProducers hx) rfl rfl (Nat.le_of_ble_eq_true rfl) ⟨⟨Nat.le_of_ble_eq_true rfl, Nat.le_of_ble_eq_true rfl⟩, Nat.le_of_ble_eq_true rfl, Nat.le_of_ble_eq_true rfl⟩ ?_
  refine G_iload_n (pc := 11) 3 4 dX6_send_11 rfl rfl ?_
  refine G_if_lt (pc := 12) 38 dX6_send_12 (by decide) hrn (fun c12 => absurd c12 (by omega)) (fun c12 => ?_)
  refine G_iload (pc := 15) 5 dX6_send_15 rfl ?_
  refine G_iconst (pc := 17) dX6_send_17 ?_
  refine G_bipush (pc := 18) dX6_send_18 (by decide) ?_
  refine G_callSd (pc := 20) gk_X6_46 dX6_send_20 (c_X6_isWithin ⟨by omega, by omega⟩ ⟨by omega, by omega⟩ ⟨by omega, by omega⟩) rfl rfl (Nat.le_of_ble_eq_true rfl) ⟨⟨Nat.le_of_ble_eq_true rfl, Nat.le_of_ble_eq_true rfl⟩, Nat.le_of_ble_eq_true rfl, Nat.le_of_ble_eq_true rfl⟩ ?_
  refine G_if_eq_b (pc := 23) 38 dX6_send_23 (by decide) (fun c23 => absurd ha.2.1 (by omega)) (fun c23 => ?_)
  refine G_iload (pc := 26) 6 dX6_send_26 rfl ?_
  refine G_iconst (pc := 28) dX6_send_28 ?_
  refine G_sipush (pc := 29) dX6_send_29 (by decide) ?_
  refine G_callSd (pc := 32) gk_X6_46 dX6_send_32 (c_X6_isWithin ⟨by omega, by omega⟩ ⟨by omega, by omega⟩ ⟨by omega, by omega⟩) rfl rfl (Nat.le_of_ble_eq_true rfl) ⟨⟨Nat.le_of_ble_eq_true rfl, Nat.le_of_ble_eq_true rfl⟩, Nat.le_of_ble_eq_true rfl, Nat.le_of_ble_eq_true rfl⟩ ?_
  refine G_if_ne_b (pc := 35) 48 dX6_send_35 (by decide) (fun c35 => ?_) (fun c35 => absurd ha.2.2 (by omega))
  refine G_aload (pc := 48) 0 dX6_send_48 rfl ?_
  refine G_getf (pc := 50) fl_X6_85 dX6_send_50 (mg_8 ht) rfl ?_
  refine G_iload_n (pc := 53) 2 3 dX6_send_53 rfl rfl ?_
  refine G_iald (pc := 54) dX6_send_54 (mg_10 ht) ⟨by omega, by omega, by omega, by omega⟩ ?_
  refine G_istore_e (pc := 55) (fun zw => [(7, .int (zI zw)), (6, .ref (ad (8, t, 0, 0))), (0, .ref (ad (0, 0, 0, 0))), (1, .int (zI t)), (2, .int (zI x)), (3, .int (zI n)), (4, .int (zI k)), (5, .int (zI v))]) dX6_send_55 (by decide) (fun _ => rfl) (fun v55 e55 => ?_)
  obtain rfl : v55 = n := e55.trans hn
  refine G_iload_n (pc := 57) 3 5 dX6_send_57 rfl rfl ?_
  refine G_iload (pc := 58) 0 dX6_send_58 rfl ?_
  refine G_icmp_le (pc := 60) 73 dX6_send_60 (by decide) hrn hrn (fun c60 => ?_) (fun c60 => absurd (Int.le_refl v55) (by omega))
  refine G_iload_n (pc := 73) 3 5 dX6_send_73 rfl rfl ?_
  refine G_iload (pc := 74) 0 dX6_send_74 rfl ?_
  refine G_icmp_ge (pc := 76) 82 dX6_send_76 (by decide) hrn hrn (fun c76 => ?_) (fun c76 => absurd (Int.le_refl v55) (by omega))
  refine G_aload_n (pc := 82) 0 2 dX6_send_82 rfl rfl ?_
  refine G_getf (pc := 83) fl_X6_34 dX6_send_83 mg_0 rfl ?_
  refine G_bipush (pc := 86) dX6_send_86 (by decide) ?_
  refine G_icmp_lt (pc := 88) 101 dX6_send_88 (by decide) (hS _ _) ⟨by omega, by omega⟩ (fun c88 => ?_) (fun c88 => absurd h80 (by omega))
  refine G_aload_n (pc := 101) 0 2 dX6_send_101 rfl rfl ?_
  refine G_dup (pc := 102) dX6_send_102 rfl ?_
  refine G_getf (pc := 103) fl_X6_34 dX6_send_103 mg_0 rfl ?_
  refine G_iconst (pc := 106) dX6_send_106 ?_
  refine G_iadd (pc := 107) dX6_send_107 ?_
  refine G_putf (pc := 108) fl_X6_34 fp_X6_5 dX6_send_108 mg_0 (Nat.le_of_ble_eq_true rfl) rfl rfl (mp_0_5 _) ?_
  refine G_aload (pc := 111) 1 dX6_send_111 rfl ?_
  refine G_getf (pc := 113) fl_X6_85 dX6_send_113 (mg_8 ht) rfl ?_
  refine G_iload_n (pc := 116) 2 4 dX6_send_116 rfl rfl ?_
  refine G_dup2 (pc := 117) dX6_send_117 rfl rfl ?_
  refine G_iald (pc := 118) dX6_send_118 (mg_10 ht) ⟨by omega, by omega, by omega, by omega⟩ ?_
  refine G_iconst (pc := 119) dX6_send_119 ?_
  refine G_iadd (pc := 120) dX6_send_120 ?_
  refine G_iast (pc := 121) dX6_send_121 (mg_10 ht) ⟨by omega, by omega, by omega, by omega⟩ (mp_10 _ _ ht) ?_
  rw [show zst S (0, 0, 0, 0) 5 (S (0, 0, 0, 0) 5 + 1) (10, t, 0, 0) x = S (10, t, 0, 0) x from zst_k _ _ _ _ (by simp)]
  refine G_name (fun S1 hS1 => ?_)
  have e3 : S1 (3, 0, 0, 0) x = S (3, 0, 0, 0) x := by rw [hS1, zst_k _ _ _ _ (by simp), zst_k _ _ _ _ (by simp)]
  have e6 : S1 (0, 0, 0, 0) 6 = S (0, 0, 0, 0) 6 := by rw [hS1, zst_k _ _ _ _ (by simp), zst_f _ _ _ (by decide)]
  refine G_aload_n (pc := 122) 0 2 dX6_send_122 rfl rfl ?_
  refine G_getf (pc := 123) fl_X6_26 dX6_send_123 mg_0 rfl ?_
  refine G_iload_n (pc := 126) 2 4 dX6_send_126 rfl rfl ?_
  refine G_zald (pc := 127) dX6_send_127 mg_3 ⟨by omega, by omega, by omega, by omega⟩ ?_
  rw [e3]
  have K : ∀ sd, sd = (if S (3, 0, 0, 0) x = 0 then 0 else 2) → G Γ (zRm 10 2 160) cX6_send 9 RX6 ad (mm (z_d Γ) ad P S1 X) 0 0 136 [(7, .int (zI v55)), (6, .ref (ad (8, t, 0, 0))), (0, .ref (ad (0, 0, 0, 0))), (1, .int (zI t)), (2, .int (zI x)), (3, .int (zI v55)), (4, .int (zI k)), (5, .int (zI v))] [.int (zI sd)] := by
    intro sd hsd
    refine G_istore (pc := 136) [(8, .int (zI sd)), (7, .int (zI v55)), (6, .ref (ad (8, t, 0, 0))), (0, .ref (ad (0, 0, 0, 0))), (1, .int (zI t)), (2, .int (zI x)), (3, .int (zI v55)), (4, .int (zI k)), (5, .int (zI v))] dX6_send_136 (by decide) rfl ?_
    refine G_aload (pc := 138) 2 dX6_send_138 rfl ?_
    refine G_iload (pc := 140) 7 dX6_send_140 rfl ?_
    refine G_callVd (pc := 142) gk_X6_93 dX6_send_142 (mg_8 ht) rfl (c_X5_partitionFor hP ht ha.2.1) rfl rfl (Nat.le_of_ble_eq_true rfl) ⟨⟨Nat.le_of_ble_eq_true rfl, Nat.le_of_ble_eq_true rfl⟩, Nat.le_of_ble_eq_true rfl, Nat.le_of_ble_eq_true rfl⟩ ?_
    generalize zpa P t k = q at hq hq80 hM hF ⊢
    have m14 : mm (z_d Γ) ad P S1 X (14, t, q, P 2 t q) = none := by
      cases hm : mm (z_d Γ) ad P S1 X (14, t, q, P 2 t q) with
      | none => rfl
      | some e =>
        exfalso
        rw [mm_lt _ (Nat.le_of_ble_eq_true rfl)] at hm
        have := ((zcnt_in hm).2.1 ⟨Nat.le_of_ble_eq_true rfl, Nat.le_of_ble_eq_true rfl⟩).2.2.2.2.2 rfl
        simp only at this
        omega
    refine G_new (pc := 145) (fs := [.int (zI 0), .int (zI 0), .int (zI 0), .int (zI 0), .int (zI 0), .int (zI 0)]) (14, t, q, P 2 t q) nw_X6_97 dX6_send_145 m14 (by decide) ⟨Nat.le_of_ble_eq_true rfl, Nat.le_of_ble_eq_true rfl⟩ (fun ad1 had => ?_)
    rw [← had (11, t, q, 0) (by simp), ← had (0, 0, 0, 0) (by simp)]
    refine G_dup (pc := 148) dX6_send_148 rfl ?_
    refine G_iload (pc := 149) 7 dX6_send_149 rfl ?_
    refine G_iload (pc := 151) 8 dX6_send_151 rfl ?_
    refine G_aload_n (pc := 153) 0 3 dX6_send_153 rfl rfl ?_
    refine G_getf (pc := 154) fl_X6_37 dX6_send_154 ((zup1_n _ _ (by simp)).trans mg_0) rfl ?_
    refine G_iload_n (pc := 157) 2 5 dX6_send_157 rfl rfl ?_
    refine G_iload (pc := 158) 0 dX6_send_158 rfl ?_
    refine G_callI (pc := 160) (mc := 0) (ms := 0) gk_X6_99 dX6_send_160 (c_X2_initE (zup1_s _ _ _)) rfl rfl (Nat.le_of_ble_eq_true rfl) ⟨⟨Nat.le_of_ble_eq_true rfl, Nat.le_of_ble_eq_true rfl⟩, Nat.le_of_ble_eq_true rfl, Nat.le_of_ble_eq_true rfl⟩ (fun w ad2 M2 hpo => ?_)
    obtain ⟨rfl, ifr, i14, iad⟩ := hpo
    have hfr : ∀ k, k ≠ (14, t, q, P 2 t q) → M2 k = mm (z_d Γ) ad P S1 X k ∧ ad2 k = ad k := fun k hk => ⟨(ifr k hk).1.trans (zup1_n _ _ hk), (ifr k hk).2.trans (had k hk)⟩
    rw [← iad, show ad1 (11, t, q, 0) = ad2 (11, t, q, 0) from ((ifr _ (by simp)).2).symm]
    have f11 : M2 (11, t, q, 0) = some (.inr (4, [.ref (ad2 (12, t, q, 0)), .int (zI (S1 (11, t, q, 0) 1))])) := by
      rw [(hfr _ (by simp)).1, (hfr (12, t, q, 0) (by simp)).2]
      exact mg_11 ⟨ht, hq⟩
    have f12 : M2 (12, t, q, 0) = some (.inr (0, [.int (zI (S1 (12, t, q, 0) 0)), .ref (if P 13 t q = 0 then (z_d Γ).2.2.1 else ad2 (13, t, q, 0)), .int (zI (P 2 t q))])) := by
      rw [(hfr _ (by simp)).1, (hfr (13, t, q, 0) (by simp)).2]
      exact mg_12 ⟨ht, hq⟩
    have hL : zLst (z_d Γ) ad2 M2 3 (12, t, q, 0) (13, t, q, 0) (S1 (12, t, q, 0) 0) (P 2 t q) (P 13 t q).toNat (fun x => if 0 ≤ x ∧ x < P 2 t q then some (ad (14, t, q, x)) else none) := by
      by_cases h5 : P 13 t q = 0
      · refine Or.inl ⟨by omega, by omega, ?_, ?_⟩
        · rw [f12, if_pos h5, show P 2 t q = 0 by omega]
          rfl
        · funext x
          rw [if_neg (by omega)]
      · refine Or.inr ⟨by omega, ?_, ?_, by simp, ⟨by omega, by omega, by omega⟩, fun x h0 h1 => ?_, zSel_id rfl⟩
        · rw [f12, if_neg h5]
          rfl
        · rw [(hfr _ (by simp)).1]
          exact mg_13 ⟨⟨ht, hq⟩, by omega⟩
        · have hne : ((14, t, q, x) : zK) ≠ (14, t, q, P 2 t q) := fun e => by simp only [Prod.mk.injEq] at e; omega
          exact ⟨(14, t, q, x), _, (if_pos ⟨h0, h1⟩).trans (by rw [(hfr _ hne).2]), (hfr _ hne).1.trans (mg_14 ⟨⟨ht, hq⟩, h0, h1⟩)⟩
    refine G_callV (pc := 163) gk_X6_102 dX6_send_163 f11 rfl (c_X3_add f11 i14 hL ((hfr _ (by simp)).1.trans ((mm_ge _ (by simp)).trans hX)) ⟨hM.1, hq80⟩ (by simp)) rfl rfl (Nat.le_of_ble_eq_true rfl) ⟨⟨Nat.le_of_ble_eq_true rfl, Nat.le_of_ble_eq_true rfl⟩, Nat.le_of_ble_eq_true rfl, Nat.le_of_ble_eq_true rfl⟩ (fun w ad3 M3 hpo => ?_)
    obtain ⟨rfl, ha3, kb, c, hkb, hc, hM3⟩ := hpo
    have hkb' : kb = (13, t, q, 0) ∨ kb = (91, 0, 0, 0) := by
      rcases hkb with q | q
      · exact Or.inl q.1
      · exact Or.inr q.1
    have nkb : ∀ k : zK, k ≠ (13, t, q, 0) → k ≠ (91, 0, 0, 0) → k ≠ kb := fun k h1 h2 q => by
      rcases hkb' with q' | q'
      · exact h1 (q.trans q')
      · exact h2 (q.trans q')
    have hm : ∀ k : zK, k ≠ (12, t, q, 0) → k ≠ (13, t, q, 0) → k ≠ (91, 0, 0, 0) → M3 k = M2 k := fun k h1 h2 h3 => by
      rw [hM3, zup1_n _ _ h1, zup1_n _ _ (nkb k h2 h3)]
    obtain ⟨z, hzR, hz⟩ := zI_of (zI (S1 (12, t, q, 0) 0 + 1))
    have key := mm_send (Δ := z_d Γ) (ad := ad) (ad3 := ad3) (P := P) (S := S1) (X := X) (M3 := M3) (t := t) (q := q) (m1 := S1 (12, t, q, 0) 0 + 1) (z := z) (r := zmR k v (S (0, 0, 0, 0) 6) x (if S (3, 0, 0, 0) x = 0 then 0 else 2)) (c := c) (kb := kb) hP hX ht hq hc.1 hz.symm (fun k h1 h2 h3 h5 => by
        rw [hm k h1 h2 h5]
        exact (hfr k h3).1) (fun k h1 h2 => (ha3 k h2).trans (hfr k h1).2)
      (by rw [hm _ (by simp) (by simp) (by simp), i14, e6, hsd]; rfl)
      (by rw [hM3, zup1_s])
      (by rw [hM3, zup1_n _ _ (by rcases hkb' with q | q <;> rw [q] <;> simp), zup1_s, ha3 (14, t, q, P 2 t q) (by simp)]) hkb'
    refine G_ren (ad' := zup1 ad3 (13, t, q, 0) (ad3 kb)) (M' := mm (z_d Γ) (zup1 ad3 (13, t, q, 0) (ad3 kb)) (zPsd P t q c) (zSsd P S1 t q z (zmR k v (S (0, 0, 0, 0) 6) x (if S (3, 0, 0, 0) x = 0 then 0 else 2))) X) (fun k => if k = (13, t, q, 0) then kb else k) key (fun y y' hy hy' e => ?_) ?_
    · have n91 : ∀ y, mm (z_d Γ) (zup1 ad3 (13, t, q, 0) (ad3 kb)) (zPsd P t q c) (zSsd P S1 t q z (zmR k v (S (0, 0, 0, 0) 6) x (if S (3, 0, 0, 0) x = 0 then 0 else 2))) X y ≠ none → y ≠ (91, 0, 0, 0) := fun y hy q => hy (by rw [q]; exact (mm_ge _ (by simp)).trans hX)
      have g1 := n91 y hy
      have g2 := n91 y' hy'
      by_cases q1 : y = (13, t, q, 0) <;> by_cases q2 : y' = (13, t, q, 0)
      · rw [q1, q2]
      · simp only [if_pos q1, if_neg q2] at e
        exact absurd e.symm (nkb y' q2 g2)
      · simp only [if_neg q1, if_pos q2] at e
        exact absurd e (nkb y q1 g1)
      · simpa only [if_neg q1, if_neg q2] using e
    have hadF : ∀ k : zK, (k.1 = 0 ∨ 40 ≤ k.1) → k ≠ (91, 0, 0, 0) → zup1 ad3 (13, t, q, 0) (ad3 kb) k = ad k := fun k h1 h2 => by
      rw [zup1_n _ _ (fun q => by rw [q] at h1; simp at h1), ha3 k h2, (hfr k (fun q => by rw [q] at h1; simp at h1)).2]
    refine G_iret (pc := 166) hF dX6_send_166 ⟨Nat.le_of_ble_eq_true rfl, Nat.le_of_ble_eq_true rfl⟩ ⟨rfl, c, z, ⟨hc.1, by omega⟩, hzR, ?_, hadF⟩
    rw [hS1]
  refine G_if_eq (pc := 128) 135 dX6_send_128 (by decide) (hS _ _) (fun c => ?_) (fun c => ?_)
  · refine G_iconst (pc := 135) dX6_send_135 ?_
    exact K 0 (by rw [if_pos c])
  · refine G_iconst (pc := 131) dX6_send_131 ?_
    refine G_goto (pc := 132) 136 dX6_send_132 (by decide) ?_
    exact K 2 (by rw [if_neg c])
