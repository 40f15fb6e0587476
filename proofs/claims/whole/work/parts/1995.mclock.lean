set_option maxHeartbeats 4000000 in
set_option maxRecDepth 100000 in
theorem c_X7_setClock_y {l : Launch} {Δ : zDl} {ad : zK → Nat} {P : zP} {S : zS} {X : zMem} {Q : zP} {x : Int} (hV : zWM Q S) (h61 : Q 61 0 0 = P 61 0 0) (hX0 : X (90, 0, 0, 0) = none) (hrx : zR x) (hn : ¬ (S (40, 0, 0, 0) 1 < x ∧ x ≤ 9999)) : zMn l Δ yX7_setClock cX7_setClock 7 (some .int) 9 0 0 [.ref (ad (40, 0, 0, 0)), .int (zI x)] ad (mm Δ ad P S X) (zD (some (.int (zI 0))) ad (mm Δ ad P (zst S (40, 0, 0, 0) 0 1) X)) := by
  refine zMn_of (by decide) (Nat.le_of_ble_eq_true rfl) (fun Γ hl hΔ hF => ?_)
  subst hl hΔ
  show G Γ _ _ _ RX7 _ _ _ _ _ [(0, .ref (ad (40, 0, 0, 0))), (1, .int (zI x))] []
  have hq := hV.q
  refine G_aload_n (pc := 0) 0 0 dX7_setClock_0 rfl rfl ?_
  refine G_iconst (pc := 1) dX7_setClock_1 ?_
  refine G_putf (pc := 2) fl_X7_93 fp_X7_0 dX7_setClock_2 mg_40 (Nat.le_of_ble_eq_true rfl) rfl rfl (mp_40_0 _) ?_
  refine G_name (fun S1_2 hS1_2 => ?_)
  have hVS1_2 : zWM Q S1_2 := by rw [hS1_2]; exact hV.s40_0 (by first | assumption | exact ⟨by omega, by omega⟩)
  have h401 : S1_2 (40, 0, 0, 0) 1 = S (40, 0, 0, 0) 1 := by rw [hS1_2, zst_f _ _ _ (by decide)]
  refine G_iload_n (pc := 5) 1 1 dX7_setClock_5 rfl rfl ?_
  refine G_aload_n (pc := 6) 0 0 dX7_setClock_6 rfl rfl ?_
  refine G_getf (pc := 7) fl_X7_143 dX7_setClock_7 mg_40 rfl ?_
  have hb7 := hVS1_2.f1
  refine G_icmp_le (pc := 10) 20 dX7_setClock_10 (by decide) (by first | exact hS _ _ | exact hT _ _ | exact ⟨by omega, by omega⟩ | assumption | exact zWM.r (by assumption) _ _ (by decide)) (by first | exact hS _ _ | exact hT _ _ | exact ⟨by omega, by omega⟩ | assumption | exact zWM.r (by assumption) _ _ (by decide)) (fun c10 => ?_) (fun c10 => ?_)
  · refine G_aload_n (pc := 20) 0 0 dX7_setClock_20 rfl rfl ?_
    refine G_iconst (pc := 21) dX7_setClock_21 ?_
    refine G_callVd (pc := 22) gk_X7_134 dX7_setClock_22 mg_40 rfl (c_X7_no (Q := Q) (by first | assumption | omega | exact ⟨by omega, by omega⟩ | exact hS _ _ | exact hT _ _) (by first | assumption | omega | exact ⟨by omega, by omega⟩ | exact hS _ _ | exact hT _ _)) rfl rfl (Nat.le_of_ble_eq_true rfl) ⟨⟨Nat.le_of_ble_eq_true rfl, Nat.le_of_ble_eq_true rfl⟩, Nat.le_of_ble_eq_true rfl, Nat.le_of_ble_eq_true rfl⟩ ?_
    refine G_name (fun S2_22 hS2_22 => ?_)
    have hVS2_22 : zWM Q S2_22 := by rw [hS2_22]; exact hVS1_2.s40_0 (by first | assumption | exact ⟨by omega, by omega⟩)
    exact G_iret_m (pc := 25) hF dX7_setClock_25 ⟨Nat.le_of_ble_eq_true rfl, Nat.le_of_ble_eq_true rfl⟩ (by first | rfl | omega | simp_all) (by rw [hS2_22, hS1_2, zst_zst])
  · refine G_iload_n (pc := 13) 1 1 dX7_setClock_13 rfl rfl ?_
    refine G_sipush (pc := 14) dX7_setClock_14 (by decide) ?_
    refine G_icmp_le (pc := 17) 26 dX7_setClock_17 (by decide) (by first | exact hS _ _ | exact hT _ _ | exact ⟨by omega, by omega⟩ | assumption | exact zWM.r (by assumption) _ _ (by decide)) (by first | exact hS _ _ | exact hT _ _ | exact ⟨by omega, by omega⟩ | assumption | exact zWM.r (by assumption) _ _ (by decide)) (fun c17 => ?_) (fun c17 => ?_)
    · exfalso
      omega
    · refine G_aload_n (pc := 20) 0 0 dX7_setClock_20 rfl rfl ?_
      refine G_iconst (pc := 21) dX7_setClock_21 ?_
      refine G_callVd (pc := 22) gk_X7_134 dX7_setClock_22 mg_40 rfl (c_X7_no (Q := Q) (by first | assumption | omega | exact ⟨by omega, by omega⟩ | exact hS _ _ | exact hT _ _) (by first | assumption | omega | exact ⟨by omega, by omega⟩ | exact hS _ _ | exact hT _ _)) rfl rfl (Nat.le_of_ble_eq_true rfl) ⟨⟨Nat.le_of_ble_eq_true rfl, Nat.le_of_ble_eq_true rfl⟩, Nat.le_of_ble_eq_true rfl, Nat.le_of_ble_eq_true rfl⟩ ?_
      refine G_name (fun S3_22 hS3_22 => ?_)
      have hVS3_22 : zWM Q S3_22 := by rw [hS3_22]; exact hVS1_2.s40_0 (by first | assumption | exact ⟨by omega, by omega⟩)
      exact G_iret_m (pc := 25) hF dX7_setClock_25 ⟨Nat.le_of_ble_eq_true rfl, Nat.le_of_ble_eq_true rfl⟩ (by first | rfl | omega | simp_all) (by rw [hS3_22, hS1_2, zst_zst])
set_option maxHeartbeats 4000000 in
set_option maxRecDepth 100000 in
theorem c_X7_setClock {l : Launch} {Δ : zDl} {ad : zK → Nat} {P : zP} {S : zS} {X : zMem} {Q : zP} {x : Int} (hV : zWM Q S) (h61 : Q 61 0 0 = P 61 0 0) (hX0 : X (90, 0, 0, 0) = none) (hx : S (40, 0, 0, 0) 1 < x ∧ x ≤ 9999) (hto : (∀ k, S (69, 0, 0, 0) k = 1 → 1 ≤ S (70, 0, 0, 0) k)) (hsum : ∀ g, 0 ≤ g ∧ g < Q 3 0 0 → sm (mqw Q g) (Q 4 g 0 * 4) (Q 4 g 0 * 4 + Q 1 (Q 4 g 0) 0) ≤ 80) : zMn l Δ yX7_setClock cX7_setClock 7 (some .int) 9 640 3200 [.ref (ad (40, 0, 0, 0)), .int (zI x)] ad (mm Δ ad P S X) (zD (some (.int (zI ((lp (mv3 Q) 0 (Q 3 0 0) ((zst (zst S (40, 0, 0, 0) 0 0) (40, 0, 0, 0) 1 x), 0)).2)))) ad (mm Δ ad P (msa Q (lp (mv5 Q) 0 (Q 0 0 0) (lp (mv3 Q) 0 (Q 3 0 0) ((zst (zst S (40, 0, 0, 0) 0 0) (40, 0, 0, 0) 1 x), 0)).1)) X)) := by
  refine zMn_of (by decide) (Nat.le_of_ble_eq_true rfl) (fun Γ hl hΔ hF => ?_)
  subst hl hΔ
  show G Γ _ _ _ RX7 _ _ _ _ _ [(0, .ref (ad (40, 0, 0, 0))), (1, .int (zI x))] []
  have hq := hV.q
  have hf1 := hV.f1
  refine G_aload_n (pc := 0) 0 0 dX7_setClock_0 rfl rfl ?_
  refine G_iconst (pc := 1) dX7_setClock_1 ?_
  refine G_putf (pc := 2) fl_X7_93 fp_X7_0 dX7_setClock_2 mg_40 (Nat.le_of_ble_eq_true rfl) rfl rfl (mp_40_0 _) ?_
  refine G_name (fun S1_2 hS1_2 => ?_)
  have hVS1_2 : zWM Q S1_2 := by rw [hS1_2]; exact hV.s40_0 (by first | assumption | exact ⟨by omega, by omega⟩)
  have h401 : S1_2 (40, 0, 0, 0) 1 = S (40, 0, 0, 0) 1 := by rw [hS1_2, zst_f _ _ _ (by decide)]
  refine G_iload_n (pc := 5) 1 1 dX7_setClock_5 rfl rfl ?_
  refine G_aload_n (pc := 6) 0 0 dX7_setClock_6 rfl rfl ?_
  refine G_getf (pc := 7) fl_X7_143 dX7_setClock_7 mg_40 rfl ?_
  have hb7 := hVS1_2.f1
  refine G_icmp_le (pc := 10) 20 dX7_setClock_10 (by decide) (by first | exact hS _ _ | exact hT _ _ | exact ⟨by omega, by omega⟩ | assumption | exact zWM.r (by assumption) _ _ (by decide)) (by first | exact hS _ _ | exact hT _ _ | exact ⟨by omega, by omega⟩ | assumption | exact zWM.r (by assumption) _ _ (by decide)) (fun c10 => ?_) (fun c10 => ?_)
  · exfalso
    omega
  · refine G_iload_n (pc := 13) 1 1 dX7_setClock_13 rfl rfl ?_
    refine G_sipush (pc := 14) dX7_setClock_14 (by decide) ?_
    refine G_icmp_le (pc := 17) 26 dX7_setClock_17 (by decide) (by first | exact hS _ _ | exact hT _ _ | exact ⟨by omega, by omega⟩ | assumption | exact zWM.r (by assumption) _ _ (by decide)) (by first | exact hS _ _ | exact hT _ _ | exact ⟨by omega, by omega⟩ | assumption | exact zWM.r (by assumption) _ _ (by decide)) (fun c17 => ?_) (fun c17 => ?_)
    · refine G_aload_n (pc := 26) 0 0 dX7_setClock_26 rfl rfl ?_
      refine G_iload_n (pc := 27) 1 1 dX7_setClock_27 rfl rfl ?_
      refine G_putf (pc := 28) fl_X7_143 fp_X7_1 dX7_setClock_28 mg_40 (Nat.le_of_ble_eq_true rfl) rfl rfl (mp_40_1 _) ?_
      refine G_name (fun S2_28 hS2_28 => ?_)
      have hVS2_28 : zWM Q S2_28 := by rw [hS2_28]; exact hVS1_2.s40_1 (by first | assumption | exact ⟨by omega, by omega⟩)
      have hto2 : (∀ k, S2_28 (69, 0, 0, 0) k = 1 → 1 ≤ S2_28 (70, 0, 0, 0) k) := fun k hk => by rw [hS2_28, zst_k _ _ _ _ (by simp), hS1_2, zst_k _ _ _ _ (by simp)] at hk ⊢; exact hto k hk
      refine G_iconst (pc := 31) dX7_setClock_31 ?_
      refine G_istore_ne (pc := 32) 2 (fun zw => [(2, .int (zI zw)), (0, .ref (ad (40, 0, 0, 0))), (1, .int (zI x))]) dX7_setClock_32 rfl (by decide) (fun _ => rfl) (fun v32 e32 => ?_)
      refine G_iconst (pc := 33) dX7_setClock_33 ?_
      refine G_istore_ne (pc := 34) 3 (fun zw => [(3, .int (zI zw)), (2, .int (zI v32)), (0, .ref (ad (40, 0, 0, 0))), (1, .int (zI x))]) dX7_setClock_34 rfl (by decide) (fun _ => rfl) (fun v34 e34 => ?_)
      have L35 : ∀ (n : Nat) (k : Int) (g : Int) (nc ns : Nat) (T : zS), (((0 ≤ g ∧ g ≤ Q 3 0 0) ∧ (nc : Int) + 160 * (Q 3 0 0 - g) ≤ 640 ∧ (ns : Int) + 800 * (Q 3 0 0 - g) ≤ 3200) ∧ lp (mv3 Q) g (Q 3 0 0) (T, k) = lp (mv3 Q) 0 (Q 3 0 0) ((zst (zst S (40, 0, 0, 0) 0 0) (40, 0, 0, 0) 1 x), 0) ∧ zWM Q T ∧ (∀ k, T (69, 0, 0, 0) k = 1 → 1 ≤ T (70, 0, 0, 0) k)) → (Q 3 0 0 - g).toNat < n → G Γ (zRm 9 640 3200) cX7_setClock 7 RX7 ad (mm (z_d Γ) ad P T X) nc ns 35 [(0, .ref (ad (40, 0, 0, 0))), (1, .int (zI x)), (2, .int (zI k)), (3, .int (zI g))] [] := by
        intro n
        induction n with
        | zero => intro k g nc ns T _ hn; omega
        | succ n ih35 =>
          intro k g nc ns T hi35 hn35
          obtain ⟨⟨hg0, hnc, hns⟩, hz1, hTV, htoT⟩ := hi35
          have h23 := hTV.g23
          refine G_iload_n (pc := 35) 3 3 dX7_setClock_35 rfl rfl ?_
          refine G_aload_n (pc := 36) 0 0 dX7_setClock_36 rfl rfl ?_
          refine G_getf (pc := 37) fl_X7_107 dX7_setClock_37 mg_40 rfl ?_
          refine G_icmp_ge (pc := 40) 176 dX7_setClock_40 (by decide) (by first | exact hS _ _ | exact hT _ _ | exact ⟨by omega, by omega⟩ | assumption | exact zWM.r (by assumption) _ _ (by decide)) (by first | exact hS _ _ | exact hT _ _ | exact ⟨by omega, by omega⟩ | assumption | exact zWM.r (by assumption) _ _ (by decide)) (fun c40 => ?_) (fun c40 => ?_)
          · have hz10 := hz1
            rw [lp_end (a := g) (by omega)] at hz10
            refine G_iconst (pc := 176) dX7_setClock_176 ?_
            refine G_istore_ne (pc := 177) 3 (fun zw => [(3, .int (zI zw)), (0, .ref (ad (40, 0, 0, 0))), (1, .int (zI x)), (2, .int (zI k))]) dX7_setClock_177 rfl (by decide) (fun _ => rfl) (fun v177 e177 => ?_)
            have L178 : ∀ (n : Nat) (t : Int) (T4 : zS), ((0 ≤ t ∧ t ≤ Q 0 0 0) ∧ lp (mv5 Q) t (Q 0 0 0) T4 = lp (mv5 Q) 0 (Q 0 0 0) (lp (mv3 Q) 0 (Q 3 0 0) ((zst (zst S (40, 0, 0, 0) 0 0) (40, 0, 0, 0) 1 x), 0)).1 ∧ zWM Q T4) → (Q 0 0 0 - t).toNat < n → G Γ (zRm 9 640 3200) cX7_setClock 7 RX7 ad (mm (z_d Γ) ad P T4 X) nc ns 178 [(0, .ref (ad (40, 0, 0, 0))), (1, .int (zI x)), (2, .int (zI k)), (3, .int (zI t))] [] := by
              intro n
              induction n with
              | zero => intro t T4 _ hn; omega
              | succ n ih178 =>
                intro t T4 hi178 hn178
                obtain ⟨ht0, hzt, hT4V⟩ := hi178
                have h44 := hT4V.t4
                refine G_iload_n (pc := 178) 3 3 dX7_setClock_178 rfl rfl ?_
                refine G_aload_n (pc := 179) 0 0 dX7_setClock_179 rfl rfl ?_
                refine G_getf (pc := 180) fl_X7_96 dX7_setClock_180 mg_40 rfl ?_
                refine G_icmp_ge (pc := 183) 228 dX7_setClock_183 (by decide) (by first | exact hS _ _ | exact hT _ _ | exact ⟨by omega, by omega⟩ | assumption | exact zWM.r (by assumption) _ _ (by decide)) (by first | exact hS _ _ | exact hT _ _ | exact ⟨by omega, by omega⟩ | assumption | exact zWM.r (by assumption) _ _ (by decide)) (fun c183 => ?_) (fun c183 => ?_)
                · have hz13 := hzt
                  rw [lp_end (a := t) (by omega)] at hz13
                  refine G_aload_n (pc := 228) 0 0 dX7_setClock_228 rfl rfl ?_
                  refine G_callVv (pc := 229) gk_X7_146 dX7_setClock_229 mg_40 rfl (c_X7_settle (Q := Q) (by first | assumption | omega | exact ⟨by omega, by omega⟩ | exact hS _ _ | exact hT _ _) (by first | assumption | omega | exact ⟨by omega, by omega⟩ | exact hS _ _ | exact hT _ _)) rfl rfl (Nat.le_of_ble_eq_true rfl) ⟨⟨Nat.le_of_ble_eq_true rfl, Nat.le_of_ble_eq_true rfl⟩, (by show nc + 0 ≤ 640; omega), (by show ns + 0 ≤ 3200; omega)⟩ ?_
                  refine G_name (fun S3_229 hS3_229 => ?_)
                  have hVS3_229 : zWM Q S3_229 := by rw [hS3_229]; exact msa_W hT4V
                  refine G_iload_n (pc := 232) 2 2 dX7_setClock_232 rfl rfl ?_
                  exact G_iret_m (pc := 233) hF dX7_setClock_233 ⟨by omega, by omega⟩ (by rw [← hz10]) (by rw [hS3_229, ← hz13])
                · refine G_iconst (pc := 186) dX7_setClock_186 ?_
                  refine G_istore_e (pc := 187) (fun zw => [(4, .int (zI zw)), (0, .ref (ad (40, 0, 0, 0))), (1, .int (zI x)), (2, .int (zI k)), (3, .int (zI t))]) dX7_setClock_187 (by decide) (fun _ => rfl) (fun v187 e187 => ?_)
                  have ht : 0 ≤ t ∧ t < Q 0 0 0 := by omega
                  have hqtt := hT4V.qt ht
                  have L189 : ∀ (n : Nat) (p : Int) (T5 : zS), ((0 ≤ p ∧ p ≤ Q 1 t 0) ∧ lp (mv4 Q t) p (Q 1 t 0) T5 = mv5 Q t T4 ∧ zWM Q T5) → (Q 1 t 0 - p).toNat < n → G Γ (zRm 9 640 3200) cX7_setClock 7 RX7 ad (mm (z_d Γ) ad P T5 X) nc ns 189 [(0, .ref (ad (40, 0, 0, 0))), (1, .int (zI x)), (2, .int (zI k)), (3, .int (zI t)), (4, .int (zI p))] [] := by
                    intro n
                    induction n with
                    | zero => intro p T5 _ hn; omega
                    | succ n ih189 =>
                      intro p T5 hi189 hn189
                      obtain ⟨hp0, hz11, hT5V⟩ := hi189
                      have hpn5 := hT5V.pn ht
                      refine G_iload (pc := 189) 4 dX7_setClock_189 rfl ?_
                      refine G_aload_n (pc := 191) 0 0 dX7_setClock_191 rfl rfl ?_
                      refine G_getf (pc := 192) fl_X7_16 dX7_setClock_192 mg_40 rfl ?_
                      refine G_iload_n (pc := 195) 3 3 dX7_setClock_195 rfl rfl ?_
                      refine G_iald (pc := 196) dX7_setClock_196 mg_45 ⟨by omega, by omega, by omega, by omega⟩ ?_
                      have hb196 := hT5V.b45 (t)
                      refine G_icmp_ge (pc := 197) 222 dX7_setClock_197 (by decide) (by first | exact hS _ _ | exact hT _ _ | exact ⟨by omega, by omega⟩ | assumption | exact zWM.r (by assumption) _ _ (by decide)) (by first | exact hS _ _ | exact hT _ _ | exact ⟨by omega, by omega⟩ | assumption | exact zWM.r (by assumption) _ _ (by decide)) (fun c197 => ?_) (fun c197 => ?_)
                      · have hz12 : mv5 Q t T4 = T5 := by rw [← hz11, lp_end (by omega)]
                        refine G_iinc_e (pc := 222) 3 (fun zw => [(3, .int (zI zw)), (0, .ref (ad (40, 0, 0, 0))), (1, .int (zI x)), (2, .int (zI k)), (4, .int (zI p))]) dX7_setClock_222 rfl (by decide) (fun _ => rfl) (fun v222 e222 => ?_)
                        refine G_goto (pc := 225) 178 dX7_setClock_225 (by decide) ?_
                        refine G_perm (lv' := [(0, .ref (ad (40, 0, 0, 0))), (1, .int (zI x)), (2, .int (zI k)), (3, .int (zI v222))]) [1, 2, 3, 0] rfl ?_
                        exact ih178 v222 T5 ⟨by omega, by rw [e222, ← hzt, lp_step (a := t) (n := Q 0 0 0) (by omega), hz12], hT5V⟩ (by omega)
                      · have hp : 0 ≤ p ∧ p < Q 1 t 0 := by omega
                        have hb46 := hT5V.b46 t
                        refine G_aload_n (pc := 200) 0 0 dX7_setClock_200 rfl rfl ?_
                        refine G_iload_n (pc := 201) 3 3 dX7_setClock_201 rfl rfl ?_
                        refine G_iconst (pc := 202) dX7_setClock_202 ?_
                        refine G_imul (pc := 203) dX7_setClock_203 ?_
                        refine G_iload (pc := 204) 4 dX7_setClock_204 rfl ?_
                        refine G_iadd (pc := 206) dX7_setClock_206 ?_
                        refine G_aload_n (pc := 207) 0 0 dX7_setClock_207 rfl rfl ?_
                        refine G_getf (pc := 208) fl_X7_20 dX7_setClock_208 mg_40 rfl ?_
                        refine G_iload_n (pc := 211) 3 3 dX7_setClock_211 rfl rfl ?_
                        refine G_iald (pc := 212) dX7_setClock_212 mg_46 ⟨by omega, by omega, by omega, by omega⟩ ?_
                        have hb212 := hT5V.b46 (t)
                        refine G_callVv (pc := 213) gk_X7_172 dX7_setClock_213 mg_40 rfl (c_X7_dropOld (Q := Q) (by first | assumption | omega | exact ⟨by omega, by omega⟩ | exact hS _ _ | exact hT _ _) (by first | assumption | omega | exact ⟨by omega, by omega⟩ | exact hS _ _ | exact hT _ _) (by first | assumption | omega | exact ⟨by omega, by omega⟩ | exact hS _ _ | exact hT _ _) (by first | assumption | omega | exact ⟨by omega, by omega⟩ | exact hS _ _ | exact hT _ _) (by first | assumption | omega | exact ⟨by omega, by omega⟩ | exact hS _ _ | exact hT _ _) (by first | assumption | omega | exact ⟨by omega, by omega⟩ | exact hS _ _ | exact hT _ _)) rfl rfl (Nat.le_of_ble_eq_true rfl) ⟨⟨Nat.le_of_ble_eq_true rfl, Nat.le_of_ble_eq_true rfl⟩, (by show nc + 0 ≤ 640; omega), (by show ns + 0 ≤ 3200; omega)⟩ ?_
                        refine G_name (fun S4_213 hS4_213 => ?_)
                        have hVS4_213 : zWM Q S4_213 := by rw [hS4_213]; exact mdo_W _ _ hT5V (by first | assumption | exact ⟨by omega, by omega⟩) (by first | assumption | exact ⟨by omega, by omega⟩)
                        have hz14 : mv4 Q t p T5 = S4_213 := by rw [hS4_213]; rfl
                        refine G_iinc_e (pc := 216) 4 (fun zw => [(4, .int (zI zw)), (0, .ref (ad (40, 0, 0, 0))), (1, .int (zI x)), (2, .int (zI k)), (3, .int (zI t))]) dX7_setClock_216 rfl (by decide) (fun _ => rfl) (fun v216 e216 => ?_)
                        refine G_goto (pc := 219) 189 dX7_setClock_219 (by decide) ?_
                        refine G_perm (lv' := [(0, .ref (ad (40, 0, 0, 0))), (1, .int (zI x)), (2, .int (zI k)), (3, .int (zI t)), (4, .int (zI v216))]) [1, 2, 3, 4, 0] rfl ?_
                        exact ih189 v216 S4_213 ⟨by omega, by rw [e216, ← hz11, lp_step (a := p) (n := Q 1 t 0) (by omega), hz14], by assumption⟩ (by omega)
                  refine G_perm (lv' := [(0, .ref (ad (40, 0, 0, 0))), (1, .int (zI x)), (2, .int (zI k)), (3, .int (zI t)), (4, .int (zI v187))]) [1, 2, 3, 4, 0] rfl ?_
                  exact L189 _ v187 T4 ⟨by omega, by rw [e187]; rfl, hT4V⟩ (Nat.lt_succ_self _)
            refine G_perm (lv' := [(0, .ref (ad (40, 0, 0, 0))), (1, .int (zI x)), (2, .int (zI k)), (3, .int (zI v177))]) [1, 2, 3, 0] rfl ?_
            exact L178 _ v177 T ⟨by omega, by rw [e177, ← hz10], hTV⟩ (Nat.lt_succ_self _)
          · have hg : 0 ≤ g ∧ g < Q 3 0 0 := by omega
            have hqg := hTV.qg hg
            have hqt := hTV.qt hqg
            have hgt := hTV.gt hg
            have hsg := hsum g hg
            refine G_aload_n (pc := 43) 0 0 dX7_setClock_43 rfl rfl ?_
            refine G_getf (pc := 44) fl_X7_66 dX7_setClock_44 mg_40 rfl ?_
            refine G_iload_n (pc := 47) 3 3 dX7_setClock_47 rfl rfl ?_
            refine G_iald (pc := 48) dX7_setClock_48 mg_64 ⟨by omega, by omega, by omega, by omega⟩ ?_
            have hb48 := hTV.b64 (g)
            refine G_iconst (pc := 49) dX7_setClock_49 ?_
            refine G_imul (pc := 50) dX7_setClock_50 ?_
            refine G_istore_e (pc := 51) (fun zw => [(4, .int (zI zw)), (0, .ref (ad (40, 0, 0, 0))), (1, .int (zI x)), (2, .int (zI k)), (3, .int (zI g))]) dX7_setClock_51 (by decide) (fun _ => rfl) (fun v51 e51 => ?_)
            have h51 : v51 = Q 4 g 0 * 4 := by rw [e51, hgt]
            have L53 : ∀ (n : Nat) (k2 : Int) (w : Int) (nc2 ns2 : Nat) (T2 : zS), (((Q 4 g 0 * 4 ≤ w ∧ w ≤ (Q 4 g 0 * 4 + Q 1 (Q 4 g 0) 0)) ∧ (nc2 : Int) + 2 * sm (mqw Q g) w (Q 4 g 0 * 4 + Q 1 (Q 4 g 0) 0) + 160 * (Q 3 0 0 - g - 1) ≤ 640 ∧ (ns2 : Int) + 10 * sm (mqw Q g) w (Q 4 g 0 * 4 + Q 1 (Q 4 g 0) 0) + 800 * (Q 3 0 0 - g - 1) ≤ 3200) ∧ lp (mv2 Q g) w (Q 4 g 0 * 4 + Q 1 (Q 4 g 0) 0) (T2, k2) = mv3 Q g (T, k) ∧ zWM Q T2 ∧ (∀ k, T2 (69, 0, 0, 0) k = 1 → 1 ≤ T2 (70, 0, 0, 0) k)) → ((Q 4 g 0 * 4 + Q 1 (Q 4 g 0) 0) - w).toNat < n → G Γ (zRm 9 640 3200) cX7_setClock 7 RX7 ad (mm (z_d Γ) ad P T2 X) nc2 ns2 53 [(0, .ref (ad (40, 0, 0, 0))), (1, .int (zI x)), (2, .int (zI k2)), (3, .int (zI g)), (4, .int (zI w))] [] := by
              intro n
              induction n with
              | zero => intro k2 w nc2 ns2 T2 _ hn; omega
              | succ n ih53 =>
                intro k2 w nc2 ns2 T2 hi53 hn53
                obtain ⟨⟨hw0, hnc2, hns2⟩, hz2, hT2V, htoT2⟩ := hi53
                have hgt2 := hT2V.gt hg
                have hgn2 := hT2V.gn hg
                refine G_iload (pc := 53) 4 dX7_setClock_53 rfl ?_
                refine G_aload_n (pc := 55) 0 0 dX7_setClock_55 rfl rfl ?_
                refine G_getf (pc := 56) fl_X7_66 dX7_setClock_56 mg_40 rfl ?_
                refine G_iload_n (pc := 59) 3 3 dX7_setClock_59 rfl rfl ?_
                refine G_iald (pc := 60) dX7_setClock_60 mg_64 ⟨by omega, by omega, by omega, by omega⟩ ?_
                have hb60 := hT2V.b64 (g)
                refine G_iconst (pc := 61) dX7_setClock_61 ?_
                refine G_imul (pc := 62) dX7_setClock_62 ?_
                refine G_aload_n (pc := 63) 0 0 dX7_setClock_63 rfl rfl ?_
                refine G_getf (pc := 64) fl_X7_16 dX7_setClock_64 mg_40 rfl ?_
                refine G_aload_n (pc := 67) 0 0 dX7_setClock_67 rfl rfl ?_
                refine G_getf (pc := 68) fl_X7_66 dX7_setClock_68 mg_40 rfl ?_
                refine G_iload_n (pc := 71) 3 3 dX7_setClock_71 rfl rfl ?_
                refine G_iald (pc := 72) dX7_setClock_72 mg_64 ⟨by omega, by omega, by omega, by omega⟩ ?_
                have hb72 := hT2V.b64 (g)
                refine G_iald (pc := 73) dX7_setClock_73 mg_45 ⟨by omega, by omega, by omega, by omega⟩ ?_
                have hb73 := hT2V.b45 (T2 (64, 0, 0, 0) g)
                refine G_iadd (pc := 74) dX7_setClock_74 ?_
                refine G_icmp_ge (pc := 75) 170 dX7_setClock_75 (by decide) (by first | exact hS _ _ | exact hT _ _ | exact ⟨by omega, by omega⟩ | assumption | exact zWM.r (by assumption) _ _ (by decide)) (by first | exact hS _ _ | exact hT _ _ | exact ⟨by omega, by omega⟩ | assumption | exact zWM.r (by assumption) _ _ (by decide)) (fun c75 => ?_) (fun c75 => ?_)
                · have hnn2 := mqw_nn hT2V hg (a := w) hw0.1
                  have hz9 : mv3 Q g (T, k) = (T2, k2) := by rw [← hz2, lp_end (by omega)]
                  refine G_iinc_e (pc := 170) 3 (fun zw => [(3, .int (zI zw)), (0, .ref (ad (40, 0, 0, 0))), (1, .int (zI x)), (2, .int (zI k2)), (4, .int (zI w))]) dX7_setClock_170 rfl (by decide) (fun _ => rfl) (fun v170 e170 => ?_)
                  refine G_goto (pc := 173) 35 dX7_setClock_173 (by decide) ?_
                  refine G_perm (lv' := [(0, .ref (ad (40, 0, 0, 0))), (1, .int (zI x)), (2, .int (zI k2)), (3, .int (zI v170))]) [1, 2, 3, 0] rfl ?_
                  exact ih35 k2 v170 nc2 ns2 T2 ⟨⟨by omega, by omega, by omega⟩, by rw [e170, ← hz1, lp_step (a := g) (n := Q 3 0 0) (by omega), hz9], hT2V, htoT2⟩ (by omega)
                · have hw : Q 4 g 0 * 4 ≤ w ∧ w < (Q 4 g 0 * 4 + Q 1 (Q 4 g 0) 0) := by omega
                  have hp : 0 ≤ w - Q 4 g 0 * 4 ∧ w - Q 4 g 0 * 4 < Q 1 (Q 4 g 0) 0 := by omega
                  have hqm := hT2V.qm hqg hp
                  have hsw := sm_step (f := (mqw Q g)) (a := w) (n := (Q 4 g 0 * 4 + Q 1 (Q 4 g 0) 0)) (by omega)
                  have hsw : sm (mqw Q g) w (Q 4 g 0 * 4 + Q 1 (Q 4 g 0) 0) = Q 2 (Q 4 g 0) (w - Q 4 g 0 * 4) + sm (mqw Q g) (w + 1) (Q 4 g 0 * 4 + Q 1 (Q 4 g 0) 0) := hsw
                  have hnn := mqw_nn hT2V hg (a := w + 1) (by omega)
                  refine G_iconst (pc := 78) dX7_setClock_78 ?_
                  refine G_istore_e (pc := 79) (fun zw => [(5, .int (zI zw)), (0, .ref (ad (40, 0, 0, 0))), (1, .int (zI x)), (2, .int (zI k2)), (3, .int (zI g)), (4, .int (zI w))]) dX7_setClock_79 (by decide) (fun _ => rfl) (fun v79 e79 => ?_)
                  have L81 : ∀ (n : Nat) (k3 : Int) (o : Int) (nc3 ns3 : Nat) (T3 : zS), (((0 ≤ o ∧ o ≤ Q 2 (Q 4 g 0) (w - Q 4 g 0 * 4)) ∧ (nc3 : Int) + 2 * (Q 2 (Q 4 g 0) (w - Q 4 g 0 * 4) - o) + 2 * sm (mqw Q g) (w + 1) (Q 4 g 0 * 4 + Q 1 (Q 4 g 0) 0) + 160 * (Q 3 0 0 - g - 1) ≤ 640 ∧ (ns3 : Int) + 10 * (Q 2 (Q 4 g 0) (w - Q 4 g 0 * 4) - o) + 10 * sm (mqw Q g) (w + 1) (Q 4 g 0 * 4 + Q 1 (Q 4 g 0) 0) + 800 * (Q 3 0 0 - g - 1) ≤ 3200) ∧ lp (mv1 g w) o (Q 2 (Q 4 g 0) (w - Q 4 g 0 * 4)) (T3, k3) = mv2 Q g w (T2, k2) ∧ zWM Q T3 ∧ (∀ k, T3 (69, 0, 0, 0) k = 1 → 1 ≤ T3 (70, 0, 0, 0) k)) → (Q 2 (Q 4 g 0) (w - Q 4 g 0 * 4) - o).toNat < n → G Γ (zRm 9 640 3200) cX7_setClock 7 RX7 ad (mm (z_d Γ) ad P T3 X) nc3 ns3 81 [(0, .ref (ad (40, 0, 0, 0))), (1, .int (zI x)), (2, .int (zI k3)), (3, .int (zI g)), (4, .int (zI w)), (5, .int (zI o))] [] := by
                    intro n
                    induction n with
                    | zero => intro k3 o nc3 ns3 T3 _ hn; omega
                    | succ n ih81 =>
                      intro k3 o nc3 ns3 T3 hi81 hn81
                      obtain ⟨⟨ho0, hnc3, hns3⟩, hz3, hT3V, htoT3⟩ := hi81
                      have hen3 : T3 (48, 0, 0, 0) w = Q 2 (Q 4 g 0) (w - Q 4 g 0 * 4) := by have h9 := hT3V.en hqg hp; rw [show Q 4 g 0 * 4 + (w - Q 4 g 0 * 4) = w by omega] at h9; exact h9
                      have hf13 := hT3V.f1
                      have hf33 := hT3V.f3
                      refine G_iload (pc := 81) 5 dX7_setClock_81 rfl ?_
                      refine G_aload_n (pc := 83) 0 0 dX7_setClock_83 rfl rfl ?_
                      refine G_getf (pc := 84) fl_X7_26 dX7_setClock_84 mg_40 rfl ?_
                      refine G_iload (pc := 87) 4 dX7_setClock_87 rfl ?_
                      refine G_iald (pc := 89) dX7_setClock_89 mg_48 ⟨by omega, by omega, by omega, by omega⟩ ?_
                      have hb89 := hT3V.b48 (w)
                      refine G_icmp_ge (pc := 90) 164 dX7_setClock_90 (by decide) (by first | exact hS _ _ | exact hT _ _ | exact ⟨by omega, by omega⟩ | assumption | exact zWM.r (by assumption) _ _ (by decide)) (by first | exact hS _ _ | exact hT _ _ | exact ⟨by omega, by omega⟩ | assumption | exact zWM.r (by assumption) _ _ (by decide)) (fun c90 => ?_) (fun c90 => ?_)
                      · have hz8 : mv2 Q g w (T2, k2) = (T3, k3) := by rw [← hz3, lp_end (by omega)]
                        refine G_iinc_e (pc := 164) 4 (fun zw => [(4, .int (zI zw)), (0, .ref (ad (40, 0, 0, 0))), (1, .int (zI x)), (2, .int (zI k3)), (3, .int (zI g)), (5, .int (zI o))]) dX7_setClock_164 rfl (by decide) (fun _ => rfl) (fun v164 e164 => ?_)
                        refine G_goto (pc := 167) 53 dX7_setClock_167 (by decide) ?_
                        refine G_perm (lv' := [(0, .ref (ad (40, 0, 0, 0))), (1, .int (zI x)), (2, .int (zI k3)), (3, .int (zI g)), (4, .int (zI v164))]) [1, 2, 3, 4, 0] rfl ?_
                        exact ih53 k3 v164 nc3 ns3 T3 ⟨⟨by omega, by rw [e164]; omega, by rw [e164]; omega⟩, by rw [e164, ← hz2, lp_step (a := w) (n := (Q 4 g 0 * 4 + Q 1 (Q 4 g 0) 0)) (by omega), hz8], hT3V, htoT3⟩ (by omega)
                      · refine G_iload_n (pc := 93) 3 3 dX7_setClock_93 rfl rfl ?_
                        refine G_bipush (pc := 94) dX7_setClock_94 (by decide) ?_
                        refine G_imul (pc := 96) dX7_setClock_96 ?_
                        refine G_aload_n (pc := 97) 0 0 dX7_setClock_97 rfl rfl ?_
                        refine G_iload (pc := 98) 4 dX7_setClock_98 rfl ?_
                        refine G_iload (pc := 100) 5 dX7_setClock_100 rfl ?_
                        refine G_callVd (pc := 102) gk_X7_113 dX7_setClock_102 mg_40 rfl (c_X7_messageAt (Q := Q) (by first | assumption | omega | exact ⟨by omega, by omega⟩ | exact hS _ _ | exact hT _ _) (by first | assumption | omega | exact ⟨by omega, by omega⟩ | exact hS _ _ | exact hT _ _) (by first | assumption | omega | exact ⟨by omega, by omega⟩ | exact hS _ _ | exact hT _ _)) rfl rfl (Nat.le_of_ble_eq_true rfl) ⟨⟨Nat.le_of_ble_eq_true rfl, Nat.le_of_ble_eq_true rfl⟩, (by show nc3 + 0 ≤ 640; omega), (by show ns3 + 0 ≤ 3200; omega)⟩ ?_
                        have hb102 := hT3V.b59 (w * 80 + o)
                        refine G_iadd (pc := 105) dX7_setClock_105 ?_
                        refine G_istore (pc := 106) [(6, .int (zI ((g * 80) + (T3 (59, 0, 0, 0) (w * 80 + o))))), (0, .ref (ad (40, 0, 0, 0))), (1, .int (zI x)), (2, .int (zI k3)), (3, .int (zI g)), (4, .int (zI w)), (5, .int (zI o))] dX7_setClock_106 (by decide) rfl ?_
                        refine G_aload_n (pc := 108) 0 1 dX7_setClock_108 rfl rfl ?_
                        refine G_getf (pc := 109) fl_X7_81 dX7_setClock_109 mg_40 rfl ?_
                        refine G_iload (pc := 112) 0 dX7_setClock_112 rfl ?_
                        refine G_iald (pc := 114) dX7_setClock_114 mg_69 ⟨by omega, by omega, by omega, by omega⟩ ?_
                        have hb114 := hT3V.b69 ((g * 80) + (T3 (59, 0, 0, 0) (w * 80 + o)))
                        refine G_iconst (pc := 115) dX7_setClock_115 ?_
                        refine G_icmp_ne (pc := 116) 158 dX7_setClock_116 (by decide) (by first | exact hS _ _ | exact hT _ _ | exact ⟨by omega, by omega⟩ | assumption | exact zWM.r (by assumption) _ _ (by decide)) (by first | exact hS _ _ | exact hT _ _ | exact ⟨by omega, by omega⟩ | assumption | exact zWM.r (by assumption) _ _ (by decide)) (fun c116 => ?_) (fun c116 => ?_)
                        · first | (have hz7 : mv1 g w o (T3, k3) = (T3, k3) := by rw [hT3, e155]; exact if_pos hov) | (have hz7 : mv1 g w o (T3, k3) = (T3, k3) := if_neg (fun h => by first | exact c116 h.1 | exact h.2 (by show T3 (40, 0, 0, 0) 1 < T3 (71, 0, 0, 0) (g * 80 + T3 (59, 0, 0, 0) (w * 80 + o)) + T3 (40, 0, 0, 0) 3; omega)))
                          refine G_iinc_e (pc := 158) 6 (fun zw => [(5, .int (zI zw)), (6, .int (zI ((g * 80) + (T3 (59, 0, 0, 0) (w * 80 + o))))), (0, .ref (ad (40, 0, 0, 0))), (1, .int (zI x)), (2, .int (zI k3)), (3, .int (zI g)), (4, .int (zI w))]) dX7_setClock_158 rfl (by decide) (fun _ => rfl) (fun v158 e158 => ?_)
                          refine G_goto (pc := 161) 81 dX7_setClock_161 (by decide) ?_
                          refine G_perm (lv' := [(0, .ref (ad (40, 0, 0, 0))), (1, .int (zI x)), (2, .int (zI k3)), (3, .int (zI g)), (4, .int (zI w)), (5, .int (zI v158))]) [2, 3, 4, 5, 6, 0] rfl ?_
                          exact ih81 k3 v158 nc3 ns3 T3 ⟨⟨by omega, by omega, by omega⟩, by rw [e158, ← hz3, lp_step (a := o) (n := Q 2 (Q 4 g 0) (w - Q 4 g 0 * 4)) (by omega), hz7], by assumption, by first | exact htoT3 | (rw [hT3]; exact mnk_to htoT3)⟩ (by omega)
                        · refine G_aload_n (pc := 119) 0 1 dX7_setClock_119 rfl rfl ?_
                          refine G_getf (pc := 120) fl_X7_87 dX7_setClock_120 mg_40 rfl ?_
                          refine G_iload (pc := 123) 0 dX7_setClock_123 rfl ?_
                          refine G_iald (pc := 125) dX7_setClock_125 mg_71 ⟨by omega, by omega, by omega, by omega⟩ ?_
                          have hb125 := hT3V.b71 ((g * 80) + (T3 (59, 0, 0, 0) (w * 80 + o)))
                          refine G_aload_n (pc := 126) 0 1 dX7_setClock_126 rfl rfl ?_
                          refine G_getf (pc := 127) fl_X7_13 dX7_setClock_127 mg_40 rfl ?_
                          have hb127 := hT3V.f3
                          refine G_iadd (pc := 130) dX7_setClock_130 ?_
                          refine G_aload_n (pc := 131) 0 1 dX7_setClock_131 rfl rfl ?_
                          refine G_getf (pc := 132) fl_X7_143 dX7_setClock_132 mg_40 rfl ?_
                          have hb132 := hT3V.f1
                          refine G_icmp_le (pc := 135) 141 dX7_setClock_135 (by decide) (by first | exact hS _ _ | exact hT _ _ | exact ⟨by omega, by omega⟩ | assumption | exact zWM.r (by assumption) _ _ (by decide)) (by first | exact hS _ _ | exact hT _ _ | exact ⟨by omega, by omega⟩ | assumption | exact zWM.r (by assumption) _ _ (by decide)) (fun c135 => ?_) (fun c135 => ?_)
                          · have hto3 := htoT3 _ c116
                            have hov : mov T3 (g * 80 + T3 (59, 0, 0, 0) (w * 80 + o)) := ⟨c116, by omega⟩
                            refine G_aload_n (pc := 141) 0 1 dX7_setClock_141 rfl rfl ?_
                            refine G_iload_n (pc := 142) 3 4 dX7_setClock_142 rfl rfl ?_
                            refine G_aload_n (pc := 143) 0 1 dX7_setClock_143 rfl rfl ?_
                            refine G_iload (pc := 144) 5 dX7_setClock_144 rfl ?_
                            refine G_iload (pc := 146) 6 dX7_setClock_146 rfl ?_
                            refine G_callVd (pc := 148) gk_X7_113 dX7_setClock_148 mg_40 rfl (c_X7_messageAt (Q := Q) (by first | assumption | omega | exact ⟨by omega, by omega⟩ | exact hS _ _ | exact hT _ _) (by first | assumption | omega | exact ⟨by omega, by omega⟩ | exact hS _ _ | exact hT _ _) (by first | assumption | omega | exact ⟨by omega, by omega⟩ | exact hS _ _ | exact hT _ _)) rfl rfl (Nat.le_of_ble_eq_true rfl) ⟨⟨Nat.le_of_ble_eq_true rfl, Nat.le_of_ble_eq_true rfl⟩, (by show nc3 + 0 ≤ 640; omega), (by show ns3 + 0 ≤ 3200; omega)⟩ ?_
                            have hb148 := hT3V.b59 (w * 80 + o)
                            refine G_callVdA (pc := 151) gk_X7_169 dX7_setClock_151 mg_40 rfl (c_X7_nackNow (Q := Q) (by first | assumption | omega | exact ⟨by omega, by omega⟩ | exact hS _ _ | exact hT _ _) (by first | assumption | omega | exact ⟨by omega, by omega⟩ | exact hS _ _ | exact hT _ _) (by first | assumption | omega | exact ⟨by omega, by omega⟩ | exact hS _ _ | exact hT _ _) (by first | assumption | omega | exact ⟨by omega, by omega⟩ | exact hS _ _ | exact hT _ _) (by first | assumption | omega | exact ⟨by omega, by omega⟩ | exact hS _ _ | exact hT _ _)) rfl rfl (Nat.le_of_ble_eq_true rfl) ⟨⟨Nat.le_of_ble_eq_true rfl, Nat.le_of_ble_eq_true rfl⟩, (by show nc3 + 2 ≤ 640; omega), (by show ns3 + 10 ≤ 3200; omega)⟩ ?_
                            show G Γ _ _ _ _ _ _ (nc3 + 2) (ns3 + 10) _ _ _
                            refine G_name (fun S5_151 hS5_151 => ?_)
                            have hVS5_151 : zWM Q S5_151 := by rw [hS5_151]; exact mnk_W hT3V (by exact ⟨by omega, by omega⟩)
                            refine G_pop (pc := 154) dX7_setClock_154 rfl ?_
                            refine G_iinc_e (pc := 155) 3 (fun zw => [(2, .int (zI zw)), (6, .int (zI ((g * 80) + (T3 (59, 0, 0, 0) (w * 80 + o))))), (0, .ref (ad (40, 0, 0, 0))), (1, .int (zI x)), (3, .int (zI g)), (4, .int (zI w)), (5, .int (zI o))]) dX7_setClock_155 rfl (by decide) (fun _ => rfl) (fun v155 e155 => ?_)
                            first | (have hz7 : mv1 g w o (T3, k3) = (S5_151, v155) := by rw [hS5_151, e155]; exact if_pos hov) | (have hz7 : mv1 g w o (T3, k3) = (S5_151, v155) := if_neg (fun h => by first | exact c116 h.1 | exact h.2 (by show T3 (40, 0, 0, 0) 1 < T3 (71, 0, 0, 0) (g * 80 + T3 (59, 0, 0, 0) (w * 80 + o)) + T3 (40, 0, 0, 0) 3; omega)))
                            refine G_iinc_e (pc := 158) 6 (fun zw => [(5, .int (zI zw)), (2, .int (zI v155)), (6, .int (zI ((g * 80) + (T3 (59, 0, 0, 0) (w * 80 + o))))), (0, .ref (ad (40, 0, 0, 0))), (1, .int (zI x)), (3, .int (zI g)), (4, .int (zI w))]) dX7_setClock_158 rfl (by decide) (fun _ => rfl) (fun v158 e158 => ?_)
                            refine G_goto (pc := 161) 81 dX7_setClock_161 (by decide) ?_
                            refine G_perm (lv' := [(0, .ref (ad (40, 0, 0, 0))), (1, .int (zI x)), (2, .int (zI v155)), (3, .int (zI g)), (4, .int (zI w)), (5, .int (zI v158))]) [3, 4, 1, 5, 6, 0] rfl ?_
                            exact ih81 v155 v158 (nc3 + 2) (ns3 + 10) S5_151 ⟨⟨by omega, by omega, by omega⟩, by rw [e158, ← hz3, lp_step (a := o) (n := Q 2 (Q 4 g 0) (w - Q 4 g 0 * 4)) (by omega), hz7], by assumption, by first | exact htoT3 | (rw [hS5_151]; exact mnk_to htoT3)⟩ (by omega)
                          · refine G_goto (pc := 138) 158 dX7_setClock_138 (by decide) ?_
                            first | (have hz7 : mv1 g w o (T3, k3) = (T3, k3) := by rw [hT3, e155]; exact if_pos hov) | (have hz7 : mv1 g w o (T3, k3) = (T3, k3) := if_neg (fun h => by first | exact c116 h.1 | exact h.2 (by show T3 (40, 0, 0, 0) 1 < T3 (71, 0, 0, 0) (g * 80 + T3 (59, 0, 0, 0) (w * 80 + o)) + T3 (40, 0, 0, 0) 3; omega)))
                            refine G_iinc_e (pc := 158) 6 (fun zw => [(5, .int (zI zw)), (6, .int (zI ((g * 80) + (T3 (59, 0, 0, 0) (w * 80 + o))))), (0, .ref (ad (40, 0, 0, 0))), (1, .int (zI x)), (2, .int (zI k3)), (3, .int (zI g)), (4, .int (zI w))]) dX7_setClock_158 rfl (by decide) (fun _ => rfl) (fun v158 e158 => ?_)
                            refine G_goto (pc := 161) 81 dX7_setClock_161 (by decide) ?_
                            refine G_perm (lv' := [(0, .ref (ad (40, 0, 0, 0))), (1, .int (zI x)), (2, .int (zI k3)), (3, .int (zI g)), (4, .int (zI w)), (5, .int (zI v158))]) [2, 3, 4, 5, 6, 0] rfl ?_
                            exact ih81 k3 v158 nc3 ns3 T3 ⟨⟨by omega, by omega, by omega⟩, by rw [e158, ← hz3, lp_step (a := o) (n := Q 2 (Q 4 g 0) (w - Q 4 g 0 * 4)) (by omega), hz7], by assumption, by first | exact htoT3 | (rw [hT3]; exact mnk_to htoT3)⟩ (by omega)
                  refine G_perm (lv' := [(0, .ref (ad (40, 0, 0, 0))), (1, .int (zI x)), (2, .int (zI k2)), (3, .int (zI g)), (4, .int (zI w)), (5, .int (zI v79))]) [1, 2, 3, 4, 5, 0] rfl ?_
                  exact L81 _ k2 v79 nc2 ns2 T2 ⟨⟨by omega, by rw [e79]; omega, by rw [e79]; omega⟩, by rw [e79]; rfl, hT2V, htoT2⟩ (Nat.lt_succ_self _)
            refine G_perm (lv' := [(0, .ref (ad (40, 0, 0, 0))), (1, .int (zI x)), (2, .int (zI k)), (3, .int (zI g)), (4, .int (zI v51))]) [1, 2, 3, 4, 0] rfl ?_
            exact L53 _ k v51 nc ns T ⟨⟨by omega, by rw [h51]; omega, by rw [h51]; omega⟩, by rw [h51]; rfl, hTV, htoT⟩ (Nat.lt_succ_self _)
      refine G_perm (lv' := [(0, .ref (ad (40, 0, 0, 0))), (1, .int (zI x)), (2, .int (zI v32)), (3, .int (zI v34))]) [2, 3, 1, 0] rfl ?_
      exact L35 _ v32 v34 0 0 S2_28 ⟨⟨by omega, by omega, by omega⟩, by rw [e32, e34, hS2_28, hS1_2], hVS2_28, hto2⟩ (Nat.lt_succ_self _)
    · exfalso
      omega
