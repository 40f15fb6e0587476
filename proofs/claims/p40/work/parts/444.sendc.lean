/-! ===== send, the partition ===== -/
theorem zJ_q5 {Q : zP} {D : zS} {t q : Int} (h : zJ Q D) (ht : inT Q t) (hq : inP Q t q) : Q 2 t q ≤ D (0, 0, 0, 0) 5 := by
  obtain ⟨-, ⟨M, hM⟩, -⟩ := h
  have h1 := r_one_le hM.1.1.E hM.2.2.2.2.2.1 ht hq
  have h2 := hM.1.1.A.2.2.2.1
  omega
set_option maxHeartbeats 4000000 in
set_option maxRecDepth 100000 in
theorem w3_X7_send {Γ : zCx} {R : Room} {ad : zK → Nat} {nc ns : Nat} {Q : zP} {D : zS} {X : zMem} {t x n k v e6 e7 td : Int} (hP : zWP Q) (ht : inT Q t) (hk : -1 ≤ k ∧ k ≤ 9)
    (kk : G Γ R cX7_send 11 RX7 ad (pm (z_d Γ) ad Q D X) nc ns 256 [(0, .ref (ad (200, 0, 0, 0))), (1, .int (zI t)), (2, .int (zI x)), (3, .int (zI n)), (4, .int (zI k)), (5, .int (zI v)), (6, .int (zI e6)), (7, .int (zI e7)), (8, .int (zI td)), (9, .int (zI (zpa Q t k)))] []) :
    ∀ (m : Nat) (j r : Int), (1 ≤ j ∧ j ≤ Q 1 t 0) → (0 ≤ r ∧ r < Q 1 t 0) → (k = -1 → lp (zpf Q t) j (Q 1 t 0) r = zpa Q t k) → (0 ≤ k → r = zpa Q t k) → (Q 1 t 0 - j).toNat < m → G Γ R cX7_send 11 RX7 ad (pm (z_d Γ) ad Q D X) nc ns 206 [(0, .ref (ad (200, 0, 0, 0))), (1, .int (zI t)), (2, .int (zI x)), (3, .int (zI n)), (4, .int (zI k)), (5, .int (zI v)), (6, .int (zI e6)), (7, .int (zI e7)), (8, .int (zI td)), (9, .int (zI r)), (10, .int (zI j))] [] := by
  have hqn := hP.n
  have hN := hP.t ht
  have ht1 := ht.1
  have ht2 := ht.2
  intro m
  induction m with
  | zero => intro j r _ _ _ _ hm; omega
  | succ m ih =>
    intro j r hj hr h1 h0 hm
    refine G_iload (pc := 206) 10 dX7_send_206 rfl ?_
    refine G_aload_n (pc := 208) 0 0 dX7_send_208 rfl rfl ?_
    refine G_getf (pc := 209) fl_X7_25 dX7_send_209 pg_200 rfl ?_
    refine G_iload_n (pc := 212) 1 1 dX7_send_212 rfl rfl ?_
    refine G_aldA (pc := 213) (t := 7) rfl dX7_send_213 pg_201 ⟨by omega, by omega, by omega, by omega⟩ rfl ?_
    refine G_alenV (pc := 214) (t := 6) (Q 1 t 0) rfl dX7_send_214 (pg_202 ht) (by omega) ?_
    refine G_icmp_ge (pc := 215) 256 dX7_send_215 (by decide) ⟨by omega, by omega⟩ ⟨by omega, by omega⟩ (fun c215 => ?_) (fun c215 => ?_)
    · have e : r = zpa Q t k := by
        by_cases hk1 : k = -1
        · rw [← h1 hk1, lp_end c215]
        · exact h0 (by omega)
      rw [e]
      exact G_perm [0, 1, 2, 3, 4, 5, 6, 7, 8, 9] rfl kk
    · refine G_iload (pc := 218) 4 dX7_send_218 rfl ?_
      refine G_if_ge (pc := 220) 256 dX7_send_220 (by decide) ⟨by omega, by omega⟩ (fun c220 => ?_) (fun c220 => ?_)
      · rw [h0 c220]
        exact G_perm [0, 1, 2, 3, 4, 5, 6, 7, 8, 9] rfl kk
      · have hMj := hP.m ht (p := j) ⟨by omega, by omega⟩
        have hMr := hP.m ht (p := r) hr
        have h1' := h1 (by omega)
        rw [lp_step (by omega)] at h1'
        refine G_aload_n (pc := 223) 0 0 dX7_send_223 rfl rfl ?_
        refine G_getf (pc := 224) fl_X7_25 dX7_send_224 pg_200 rfl ?_
        refine G_iload_n (pc := 227) 1 1 dX7_send_227 rfl rfl ?_
        refine G_aldA (pc := 228) (t := 7) rfl dX7_send_228 pg_201 ⟨by omega, by omega, by omega, by omega⟩ rfl ?_
        refine G_iload (pc := 229) 10 dX7_send_229 rfl ?_
        refine G_aldA (pc := 231) (t := 6) rfl dX7_send_231 (pg_202 ht) ⟨by omega, by omega, by omega, by omega⟩ rfl ?_
        refine G_alenV (pc := 232) (t := 5) (Q 2 t j) rfl dX7_send_232 (pg_203 ⟨ht, by omega, by omega⟩) (by omega) ?_
        refine G_aload_n (pc := 233) 0 0 dX7_send_233 rfl rfl ?_
        refine G_getf (pc := 234) fl_X7_25 dX7_send_234 pg_200 rfl ?_
        refine G_iload_n (pc := 237) 1 1 dX7_send_237 rfl rfl ?_
        refine G_aldA (pc := 238) (t := 7) rfl dX7_send_238 pg_201 ⟨by omega, by omega, by omega, by omega⟩ rfl ?_
        refine G_iload (pc := 239) 9 dX7_send_239 rfl ?_
        refine G_aldA (pc := 241) (t := 6) rfl dX7_send_241 (pg_202 ht) ⟨by omega, by omega, by omega, by omega⟩ rfl ?_
        refine G_alenV (pc := 242) (t := 5) (Q 2 t r) rfl dX7_send_242 (pg_203 ⟨ht, hr⟩) (by omega) ?_
        refine G_icmp_ge (pc := 243) 250 dX7_send_243 (by decide) ⟨by omega, by omega⟩ ⟨by omega, by omega⟩ (fun c243 => ?_) (fun c243 => ?_)
        · refine G_iinc (pc := 250) 10 [(10, .int (zI (j + 1))), (0, .ref (ad (200, 0, 0, 0))), (1, .int (zI t)), (2, .int (zI x)), (3, .int (zI n)), (4, .int (zI k)), (5, .int (zI v)), (6, .int (zI e6)), (7, .int (zI e7)), (8, .int (zI td)), (9, .int (zI r))] dX7_send_250 rfl (by decide) rfl ?_
          refine G_goto (pc := 253) 206 dX7_send_253 (by decide) ?_
          refine G_perm (lv' := [(0, .ref (ad (200, 0, 0, 0))), (1, .int (zI t)), (2, .int (zI x)), (3, .int (zI n)), (4, .int (zI k)), (5, .int (zI v)), (6, .int (zI e6)), (7, .int (zI e7)), (8, .int (zI td)), (9, .int (zI r)), (10, .int (zI (j + 1)))]) [1, 2, 3, 4, 5, 6, 7, 8, 9, 10, 0] rfl ?_
          exact ih (j + 1) r ⟨by omega, by omega⟩ hr (fun _ => by rw [← h1']; unfold zpf; rw [if_neg (by omega)]) h0 (by omega)
        · refine G_iload (pc := 246) 10 dX7_send_246 rfl ?_
          refine G_istore (pc := 248) [(9, .int (zI j)), (0, .ref (ad (200, 0, 0, 0))), (1, .int (zI t)), (2, .int (zI x)), (3, .int (zI n)), (4, .int (zI k)), (5, .int (zI v)), (6, .int (zI e6)), (7, .int (zI e7)), (8, .int (zI td)), (10, .int (zI j))] dX7_send_248 (by decide) rfl ?_
          refine G_iinc (pc := 250) 10 [(10, .int (zI (j + 1))), (9, .int (zI j)), (0, .ref (ad (200, 0, 0, 0))), (1, .int (zI t)), (2, .int (zI x)), (3, .int (zI n)), (4, .int (zI k)), (5, .int (zI v)), (6, .int (zI e6)), (7, .int (zI e7)), (8, .int (zI td))] dX7_send_250 rfl (by decide) rfl ?_
          refine G_goto (pc := 253) 206 dX7_send_253 (by decide) ?_
          refine G_perm (lv' := [(0, .ref (ad (200, 0, 0, 0))), (1, .int (zI t)), (2, .int (zI x)), (3, .int (zI n)), (4, .int (zI k)), (5, .int (zI v)), (6, .int (zI e6)), (7, .int (zI e7)), (8, .int (zI td)), (9, .int (zI j)), (10, .int (zI (j + 1)))]) [2, 3, 4, 5, 6, 7, 8, 9, 10, 1, 0] rfl ?_
          exact ih (j + 1) j ⟨by omega, by omega⟩ ⟨by omega, by omega⟩ (fun _ => by rw [← h1']; unfold zpf; rw [if_pos (by omega)]) (fun _ => by omega) (by omega)
/-! ===== send, from the call on ===== -/
set_option maxHeartbeats 4000000 in
set_option maxRecDepth 100000 in
theorem w2_X7_send {Γ : zCx} {ad : zK → Nat} {Q : zP} {V D : zS} {X : zMem} {t x n k v e6 e7 : Int} (hF : zFn Γ yX7_send.name (some .boolean) (zAct (z_d Γ) ad Q V 1000) 4 260) (htab : (z_c Γ).exceptionTable.toList = tableOf hhSend) (hNc : zNc (z_s Γ)) (hst : (z_l Γ).stackTraces = false) (hJ : zJ Q D) (hX : X = mm (z_d Γ) ad Q D z00) (ht : inT Q t) (hx : 0 ≤ x ∧ x < 4) (hrn : zR n) (hk : -1 ≤ k ∧ k ≤ 9) (hv : 0 ≤ v ∧ v ≤ 999)
    (h6 : (e6 = 1 ∧ 0 ≤ n ∧ n < D (10, t, 0, 0) x) ∨ (e6 = 0 ∧ ¬ (0 ≤ n ∧ n < D (10, t, 0, 0) x)))
    (h7 : (e7 = 1 ∧ 0 ≤ n ∧ (n < D (10, t, 0, 0) x ∨ (n = D (10, t, 0, 0) x ∧ D (0, 0, 0, 0) 5 < 80))) ∨ (e7 = 0 ∧ ¬ (0 ≤ n ∧ (n < D (10, t, 0, 0) x ∨ (n = D (10, t, 0, 0) x ∧ D (0, 0, 0, 0) 5 < 80)))))
    (hDd : D (200, 0, 0, 0) 2 ≤ V (200, 0, 0, 0) 2 + 1000) (hD4 : D (0, 0, 0, 0) 4 = V (0, 0, 0, 0) 4) (hD6 : D (0, 0, 0, 0) 6 = V (0, 0, 0, 0) 6) (hD1 : D (1, 0, 0, 0) 1 = V (1, 0, 0, 0) 1) :
    G Γ (zRm 11 4 260) cX7_send 11 RX7 ad (pm (z_d Γ) ad Q D X) 0 0 143 [(0, .ref (ad (200, 0, 0, 0))), (1, .int (zI t)), (2, .int (zI x)), (3, .int (zI n)), (4, .int (zI k)), (5, .int (zI v)), (6, .int (zI e6)), (7, .int (zI e7))] [] := by
  have hP := hJ.wp
  have hqn := hP.n
  have hN := hP.t ht
  have hV := hJ.wv
  have hW := hV.W
  have hnx := hV.nx t x
  have hf0 := hV.f0
  have ht1 := ht.1
  have ht2 := ht.2
  have hrk : zR k := ⟨by omega, by omega⟩
  have hrv : zR v := ⟨by omega, by omega⟩
  have same : zAct (z_d Γ) ad Q V 1000 (some (.int (zI 1))) ad (pm (z_d Γ) ad Q D (mm (z_d Γ) ad Q D z00)) := ⟨rfl, Q, D, ⟨rfl, rfl⟩, rfl, hJ, by omega, by omega, by omega, by omega, Int.le_refl _, Int.le_refl _⟩
  refine G_aload_n (pc := 143) 0 0 dX7_send_143 rfl rfl ?_
  refine G_getf (pc := 144) fl_X7_10 dX7_send_144 pg_200 rfl ?_
  refine G_iload_n (pc := 147) 1 1 dX7_send_147 rfl rfl ?_
  refine G_iload_n (pc := 148) 2 2 dX7_send_148 rfl rfl ?_
  refine G_iload_n (pc := 149) 3 3 dX7_send_149 rfl rfl ?_
  refine G_iload (pc := 150) 4 dX7_send_150 rfl ?_
  refine G_iload (pc := 152) 5 dX7_send_152 rfl ?_
  rw [hX, pm_mm]
  by_cases hn0 : 0 ≤ n
  · by_cases hz : D (10, t, 0, 0) x < n ∨ D (10, t, 0, 0) x = n ∧ 80 ≤ D (0, 0, 0, 0) 5
    · have e7' : e7 = 0 := by omega
      subst e7'
      refine G_callVx (pc := 154) gk_X7_115 dX7_send_154 mg_0 rfl (c_X6_send_z hP ht hW hx hrn hrk hrv ⟨hn0, hk, hv⟩ hz hst) rfl rfl (Nat.le_of_ble_eq_true rfl) ⟨⟨Nat.le_of_ble_eq_true rfl, Nat.le_of_ble_eq_true rfl⟩, Nat.le_of_ble_eq_true rfl, Nat.le_of_ble_eq_true rfl⟩ (fun E ad1 M1 hE => ?_) (fun v ad1 M1 h => h.elim)
      obtain ⟨e1, e2, e3⟩ := hE
      rw [e1, e2, e3, ← pm_mm]
      refine zGX_catch [⟨143, 181, 369, 129⟩, ⟨182, 368, 369, 129⟩] ⟨143, 181, 381, 131⟩ [⟨182, 368, 381, 131⟩] (htab.trans rfl) (fun z hz => ?_) rfl (by decide) cl_131 ct_ISE (fun q => ?_)
      · rcases List.mem_cons.mp hz with rfl | hz
        · exact ⟨by decide, _, cl_129, hNc.2.2⟩
        · rw [List.mem_singleton.mp hz]
          exact ⟨by decide, _, cl_129, hNc.2.2⟩
      · refine G_astore (pc := 381) [(8, .ref q), (0, .ref (ad (200, 0, 0, 0))), (1, .int (zI t)), (2, .int (zI x)), (3, .int (zI n)), (4, .int (zI k)), (5, .int (zI v)), (6, .int (zI e6)), (7, .int (zI 0))] dX7_send_381 (by decide) rfl ?_
        refine G_iload (pc := 383) 8 dX7_send_383 rfl ?_
        refine G_if_ne (pc := 385) 396 dX7_send_385 (by decide) ⟨by omega, by omega⟩ (fun c => absurd rfl c) (fun _ => ?_)
        refine G_iload_n (pc := 388) 3 4 dX7_send_388 rfl rfl ?_
        refine G_if_lt (pc := 389) 396 dX7_send_389 (by decide) hrn (fun c => absurd hn0 (by omega)) (fun _ => ?_)
        refine G_iconst (pc := 392) dX7_send_392 ?_
        refine G_goto (pc := 393) 397 dX7_send_393 (by decide) ?_
        exact G_zret (pc := 397) hF dX7_send_397 ⟨Nat.le_of_ble_eq_true rfl, Nat.le_of_ble_eq_true rfl⟩ (Or.inr rfl) same
    · have e7' : e7 = 1 := by omega
      subst e7'
      by_cases hd : n < D (10, t, 0, 0) x
      · have e6' : e6 = 1 := by omega
        subst e6'
        refine G_callV (pc := 154) gk_X7_115 dX7_send_154 mg_0 rfl (c_X6_send_d hP ht hW hx hrn hrk hrv ⟨hn0, hk, hv⟩ hd) rfl rfl (Nat.le_of_ble_eq_true rfl) ⟨⟨Nat.le_of_ble_eq_true rfl, Nat.le_of_ble_eq_true rfl⟩, Nat.le_of_ble_eq_true rfl, Nat.le_of_ble_eq_true rfl⟩ (fun w ad1 M1 hpo => ?_)
        obtain ⟨rfl, e2, rfl⟩ := hpo
        rw [e2, ← pm_mm]
        refine G_istore (pc := 157) [(8, .int (zI (-2))), (0, .ref (ad (200, 0, 0, 0))), (1, .int (zI t)), (2, .int (zI x)), (3, .int (zI n)), (4, .int (zI k)), (5, .int (zI v)), (6, .int (zI 1)), (7, .int (zI 1))] dX7_send_157 (by decide) rfl ?_
        refine G_iload (pc := 159) 7 dX7_send_159 rfl ?_
        refine G_if_eq (pc := 161) 182 dX7_send_161 (by decide) ⟨by omega, by omega⟩ (fun c => absurd c (by decide)) (fun _ => ?_)
        refine G_iload (pc := 164) 8 dX7_send_164 rfl ?_
        refine G_if_eq (pc := 166) 180 dX7_send_166 (by decide) ⟨by omega, by omega⟩ (fun c => absurd c (by decide)) (fun _ => ?_)
        refine G_iload (pc := 169) 0 dX7_send_169 rfl ?_
        refine G_bipush (pc := 171) dX7_send_171 (by decide) ?_
        refine G_icmp_ne (pc := 173) 180 dX7_send_173 (by decide) ⟨by omega, by omega⟩ ⟨by omega, by omega⟩ (fun c => absurd rfl c) (fun _ => ?_)
        refine G_iconst (pc := 176) dX7_send_176 ?_
        refine G_goto (pc := 177) 181 dX7_send_177 (by decide) ?_
        exact G_zret (pc := 181) hF dX7_send_181 ⟨Nat.le_of_ble_eq_true rfl, Nat.le_of_ble_eq_true rfl⟩ (Or.inr rfl) same
      · have e6' : e6 = 0 := by omega
        subst e6'
        have hn : D (10, t, 0, 0) x = n := by omega
        have h80 : D (0, 0, 0, 0) 5 < 80 := by omega
        have hq := zpa_le (Q := Q) (t := t) (k := k) ⟨by omega, by omega⟩ hk.1
        have hq80 : Q 2 t (zpa Q t k) < 80 := by have := zJ_q5 hJ ht hq; omega
        have hMq := hP.m ht hq
        have hs6 := hJ.xy.2.2 t x ht hx.1 hx.2
        refine G_callV (pc := 154) gk_X7_115 dX7_send_154 mg_0 rfl (c_X6_send hP ht hW hx ⟨hn0, hk, hv⟩ hn h80 hq hq80 rfl) rfl rfl (Nat.le_of_ble_eq_true rfl) ⟨⟨Nat.le_of_ble_eq_true rfl, Nat.le_of_ble_eq_true rfl⟩, Nat.le_of_ble_eq_true rfl, Nat.le_of_ble_eq_true rfl⟩ (fun w ad1 M1 hpo => ?_)
        obtain ⟨rfl, c, z, hc, hz2, rfl, had⟩ := hpo
        have b0 : ad1 (0, 0, 0, 0) = ad (0, 0, 0, 0) := had _ (Or.inl rfl) (by decide)
        have b2 : ad1 (200, 0, 0, 0) = ad (200, 0, 0, 0) := had _ (Or.inr (by decide)) (by decide)
        rw [← pm_mm, ← pm_ad2 (ad := ad) (ad' := ad1) (fun k hk => had k (by omega) (fun q => by rw [q] at hk; revert hk; decide)), ← b2]
        have hJ2 := zJ_send (c := c) (z := z) hJ ht hx hk hv h80 (by omega) hq hq80 hc hz2
        rw [show mm (z_d Γ) ad1 (zPsd Q t (zpa Q t k) c) (zSsd Q (zS1d D t x) t (zpa Q t k) z (zmR k v (D (0, 0, 0, 0) 6) x (if D (3, 0, 0, 0) x = 0 then 0 else 2))) z00 = mm (z_d Γ) ad1 (zPsd Q t (zpa Q t k) c) (zSn Q D t (zpa Q t k) x k v z) z00 from mm_146.symm]
        show G Γ _ _ _ _ _ _ 2 160 157 _ [.int (zI (Q 2 t (zpa Q t k)))]
        have fin := w_X7_send (V := V) (x := x) (n := n) (k := k) (v := v) (e6 := 0) (ad0 := ad) hF hJ hJ2 rfl ⟨b0, b2⟩ ht hx hq hq80 hDd hD4 hD6 hD1
        have lpk := w3_X7_send (R := zRm 11 4 260) (td := Q 2 t (zpa Q t k)) hP ht hk fin
        refine G_istore (pc := 157) [(8, .int (zI (Q 2 t (zpa Q t k)))), (0, .ref (ad1 (200, 0, 0, 0))), (1, .int (zI t)), (2, .int (zI x)), (3, .int (zI n)), (4, .int (zI k)), (5, .int (zI v)), (6, .int (zI 0)), (7, .int (zI 1))] dX7_send_157 (by decide) rfl ?_
        refine G_iload (pc := 159) 7 dX7_send_159 rfl ?_
        refine G_if_eq (pc := 161) 182 dX7_send_161 (by decide) ⟨by omega, by omega⟩ (fun _ => ?_) (fun c => absurd rfl c)
        refine G_iload (pc := 182) 5 dX7_send_182 rfl ?_
        refine G_if_ge (pc := 184) 191 dX7_send_184 (by decide) hrk (fun c184 => ?_) (fun c184 => ?_)
        · refine G_iload (pc := 191) 5 dX7_send_191 rfl ?_
          refine G_aload_n (pc := 193) 0 1 dX7_send_193 rfl rfl ?_
          refine G_getf (pc := 194) fl_X7_25 dX7_send_194 pg_200 rfl ?_
          refine G_iload_n (pc := 197) 1 2 dX7_send_197 rfl rfl ?_
          refine G_aldA (pc := 198) (t := 7) rfl dX7_send_198 pg_201 ⟨by omega, by omega, by omega, by omega⟩ rfl ?_
          refine G_alenV (pc := 199) (t := 6) (Q 1 t 0) rfl dX7_send_199 (pg_202 ht) (by omega) ?_
          refine G_irem (pc := 200) dX7_send_200 ⟨by omega, by omega, by omega⟩ ⟨by omega, by omega, by omega⟩ ?_
          rw [show k % Q 1 t 0 = zpa Q t k from by unfold zpa; rw [if_neg (by omega)]]
          refine G_istore (pc := 201) [(9, .int (zI (zpa Q t k))), (8, .int (zI (Q 2 t (zpa Q t k)))), (0, .ref (ad1 (200, 0, 0, 0))), (1, .int (zI t)), (2, .int (zI x)), (3, .int (zI n)), (4, .int (zI k)), (5, .int (zI v)), (6, .int (zI 0)), (7, .int (zI 1))] dX7_send_201 (by decide) rfl ?_
          refine G_iconst (pc := 203) dX7_send_203 ?_
          refine G_istore (pc := 204) [(10, .int (zI 1)), (9, .int (zI (zpa Q t k))), (8, .int (zI (Q 2 t (zpa Q t k)))), (0, .ref (ad1 (200, 0, 0, 0))), (1, .int (zI t)), (2, .int (zI x)), (3, .int (zI n)), (4, .int (zI k)), (5, .int (zI v)), (6, .int (zI 0)), (7, .int (zI 1))] dX7_send_204 (by decide) rfl ?_
          refine G_perm (lv' := [(0, .ref (ad1 (200, 0, 0, 0))), (1, .int (zI t)), (2, .int (zI x)), (3, .int (zI n)), (4, .int (zI k)), (5, .int (zI v)), (6, .int (zI 0)), (7, .int (zI 1)), (8, .int (zI (Q 2 t (zpa Q t k)))), (9, .int (zI (zpa Q t k))), (10, .int (zI 1))]) [3, 4, 5, 6, 7, 8, 9, 10, 2, 1, 0] rfl ?_
          exact lpk _ 1 (zpa Q t k) ⟨by omega, by omega⟩ hq (fun q => by omega) (fun _ => rfl) (Nat.lt_succ_self _)
        · refine G_iconst (pc := 187) dX7_send_187 ?_
          refine G_goto (pc := 188) 201 dX7_send_188 (by decide) ?_
          refine G_istore (pc := 201) [(9, .int (zI 0)), (8, .int (zI (Q 2 t (zpa Q t k)))), (0, .ref (ad1 (200, 0, 0, 0))), (1, .int (zI t)), (2, .int (zI x)), (3, .int (zI n)), (4, .int (zI k)), (5, .int (zI v)), (6, .int (zI 0)), (7, .int (zI 1))] dX7_send_201 (by decide) rfl ?_
          refine G_iconst (pc := 203) dX7_send_203 ?_
          refine G_istore (pc := 204) [(10, .int (zI 1)), (9, .int (zI 0)), (8, .int (zI (Q 2 t (zpa Q t k)))), (0, .ref (ad1 (200, 0, 0, 0))), (1, .int (zI t)), (2, .int (zI x)), (3, .int (zI n)), (4, .int (zI k)), (5, .int (zI v)), (6, .int (zI 0)), (7, .int (zI 1))] dX7_send_204 (by decide) rfl ?_
          refine G_perm (lv' := [(0, .ref (ad1 (200, 0, 0, 0))), (1, .int (zI t)), (2, .int (zI x)), (3, .int (zI n)), (4, .int (zI k)), (5, .int (zI v)), (6, .int (zI 0)), (7, .int (zI 1)), (8, .int (zI (Q 2 t (zpa Q t k)))), (9, .int (zI 0)), (10, .int (zI 1))]) [3, 4, 5, 6, 7, 8, 9, 10, 2, 1, 0] rfl ?_
          exact lpk _ 1 0 ⟨by omega, by omega⟩ ⟨by omega, by omega⟩ (fun q => by unfold zpa; rw [if_pos q]) (fun q => by omega) (Nat.lt_succ_self _)
  · refine G_callVx (pc := 154) gk_X7_115 dX7_send_154 mg_0 rfl (c_X6_send_y hP ht hW hx hrn hrk hrv (fun q => hn0 q.1) hst) rfl rfl (Nat.le_of_ble_eq_true rfl) ⟨⟨Nat.le_of_ble_eq_true rfl, Nat.le_of_ble_eq_true rfl⟩, Nat.le_of_ble_eq_true rfl, Nat.le_of_ble_eq_true rfl⟩ (fun E ad1 M1 hE => ?_) (fun v ad1 M1 h => h.elim)
    obtain ⟨e1, e2, e3⟩ := hE
    rw [e1, e2, e3, ← pm_mm]
    refine zGX_catch [] ⟨143, 181, 369, 129⟩ [⟨182, 368, 369, 129⟩, ⟨143, 181, 381, 131⟩, ⟨182, 368, 381, 131⟩] (htab.trans rfl) (fun z hz => absurd hz List.not_mem_nil) rfl (by decide) cl_129 ct_IAE (fun q => ?_)
    refine G_astore (pc := 369) [(8, .ref q), (0, .ref (ad (200, 0, 0, 0))), (1, .int (zI t)), (2, .int (zI x)), (3, .int (zI n)), (4, .int (zI k)), (5, .int (zI v)), (6, .int (zI e6)), (7, .int (zI e7))] dX7_send_369 (by decide) rfl ?_
    refine G_iload_n (pc := 371) 3 4 dX7_send_371 rfl rfl ?_
    refine G_if_ge (pc := 372) 379 dX7_send_372 (by decide) hrn (fun c => absurd c hn0) (fun _ => ?_)
    refine G_iconst (pc := 375) dX7_send_375 ?_
    refine G_goto (pc := 376) 380 dX7_send_376 (by decide) ?_
    exact G_zret (pc := 380) hF dX7_send_380 ⟨Nat.le_of_ble_eq_true rfl, Nat.le_of_ble_eq_true rfl⟩ (Or.inr rfl) same
