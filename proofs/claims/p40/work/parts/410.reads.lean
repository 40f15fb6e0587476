/-! ===== the Pier: reads, forget, settle ===== -/
/-- nothing dropped is out, or to be given again -/
def zSet (Q : zP) (V : zS) : Prop := ∀ g p o, inG Q g → inQ Q g p → inM Q (Q 4 g 0) p o → ¬ (¬ V (14, Q 4 g 0, p, o) 5 = 0 ∧ ju V g p o)
theorem zku_no {Q : zP} {V : zS} {g p : Int} (h : ∀ o, inM Q (Q 4 g 0) p o → ¬ (¬ V (14, Q 4 g 0, p, o) 5 = 0 ∧ ju V g p o)) : zku Q V g p = zst (zmk Q g p (Q 2 (Q 4 g 0) p - V (18, g, p, 0) 5).toNat V) (18, g, p, 0) 6 (max (zmk Q g p (Q 2 (Q 4 g 0) p - V (18, g, p, 0) 5).toNat V (18, g, p, 0) 6) (zmk Q g p (Q 2 (Q 4 g 0) p - V (18, g, p, 0) 5).toNat V (18, g, p, 0) 5)) := by
  have e1 : lp (zk1 Q g p) 0 (Q 2 (Q 4 g 0) p) V = V := lp_id _ _ _ _ rfl (fun o g1 g2 => if_neg (h o ⟨g1, g2⟩))
  unfold zku
  rw [e1]
theorem zSet_fr {Q : zP} {V V' : zS} (h14 : ∀ t p o, V' (14, t, p, o) 5 = V (14, t, p, o) 5) (h19 : ∀ g p o, V' (19, g, p, 0) o = V (19, g, p, 0) o ∨ V' (19, g, p, 0) o = 0) (h : zSet Q V) : zSet Q V' := fun g p o hg hp ho q => by
  obtain ⟨q1, q2⟩ := q
  rw [h14] at q1
  have q3 : V' (19, g, p, 0) o = 1 ∨ V' (19, g, p, 0) o = 2 := q2
  rcases h19 g p o with e | e
  · rw [e] at q3
    exact h g p o hg hp ho ⟨q1, q3⟩
  · omega
theorem zku_19 {Q : zP} {V : zS} {g p g' p' o : Int} (hs : ∀ o, inM Q (Q 4 g 0) p o → ¬ (¬ V (14, Q 4 g 0, p, o) 5 = 0 ∧ ju V g p o)) : zku Q V g p (19, g', p', 0) o = V (19, g', p', 0) o := by
  rw [zku_no hs, zst_k _ _ _ _ (by simp)]
  exact zmk_fr (K := fun m => m == 18) rfl _ V _ _ rfl
theorem zSet_ku {Q : zP} {V : zS} {g p : Int} (h : zSet Q V) : zSet Q (zku Q V g p) := by
  by_cases hc : ∀ o, inM Q (Q 4 g 0) p o → ¬ (¬ V (14, Q 4 g 0, p, o) 5 = 0 ∧ ju V g p o)
  · exact zSet_fr (fun t p o => zku_k rfl) (fun g' p' o => Or.inl (zku_19 hc)) h
  · refine zSet_fr (fun t p o => zku_k rfl) (fun g' p' o => ?_) h
    have h1 : ∀ k : Nat, ∀ a n : Int, ∀ s : zS, (n - a).toNat = k → lp (zk1 Q g p) a n s (19, g', p', 0) o = s (19, g', p', 0) o ∨ lp (zk1 Q g p) a n s (19, g', p', 0) o = 0 := by
      intro k
      induction k with
      | zero => intro a n s hk; rw [lp_end (by omega)]; exact Or.inl rfl
      | succ k ih =>
        intro a n s hk
        rw [lp_step (by omega)]
        rcases ih (a + 1) n (zk1 Q g p a s) (by omega) with e | e
        · rw [e]
          unfold zk1
          split
          · unfold zfg
            rw [zst_k _ _ _ _ (by simp), zst_at]
            split
            · exact Or.inr rfl
            · exact Or.inl rfl
          · exact Or.inl rfl
        · exact Or.inr e
    unfold zku
    rw [zst_k _ _ _ _ (by simp), zmk_fr (K := fun m => m == 18) rfl _ _ _ _ rfl]
    exact h1 _ _ _ _ rfl
set_option maxHeartbeats 4000000 in
set_option maxRecDepth 100000 in
theorem c_X7_seen {l : Launch} {Δ : zDl} {ad : zK → Nat} {Q : zP} {V : zS} {X : zMem} {t p o : Int} (hP : zWP Q) (hV : zWV Q V) (ht : 0 ≤ t ∧ t < Q 0 0 0) (hp : 0 ≤ p ∧ p < Q 1 t 0) (ho : 0 ≤ o ∧ o < Q 2 t p) : zMn l Δ yX7_seen cX7_seen 2 (some .int) 1 0 0 [.ref (ad (200, 0, 0, 0)), .ref (ad (204, t, p, o))] ad (pm Δ ad Q V X) (zD (some (.int (zI (V (14, t, p, o) 4)))) ad (pm Δ ad Q V X)) := by
  refine zMn_of (by decide) (Nat.le_of_ble_eq_true rfl) (fun Γ hl hΔ hF => ?_)
  subst hl hΔ
  show G Γ _ _ _ RX7 _ _ _ _ _ [(0, .ref (ad (200, 0, 0, 0))), (1, .ref (ad (204, t, p, o)))] []
  have hM := hP.m ht hp
  have hN := hP.t ht
  have hq := hP.n
  have htr := hV.tr t p o
  refine G_aload_n (pc := 0) 1 1 dX7_seen_0 rfl rfl ?_
  refine G_iconst (pc := 1) dX7_seen_1 ?_
  refine G_ialdV (pc := 2) (V (14, t, p, o) 6) dX7_seen_2 (pg_204 (by first | assumption | omega | exact ⟨by omega, by omega⟩ | exact ⟨⟨by omega, by omega⟩, by omega⟩ | exact zWV.R (by assumption) _ _)) ⟨by omega, by omega, by omega, by omega⟩ zpr_3 ?_
  refine G_if_ge (pc := 3) 10 dX7_seen_3 (by decide) (by first | exact zWV.R (by assumption) _ _ | exact ⟨by omega, by omega⟩ | assumption) (fun c3 => ?_) (fun c3 => ?_)
  · refine G_aload_n (pc := 10) 0 0 dX7_seen_10 rfl rfl ?_
    refine G_getf (pc := 11) fl_X7_45 dX7_seen_11 pg_200 rfl ?_
    refine G_aload_n (pc := 14) 1 1 dX7_seen_14 rfl rfl ?_
    refine G_iconst (pc := 15) dX7_seen_15 ?_
    refine G_ialdV (pc := 16) (V (14, t, p, o) 6) dX7_seen_16 (pg_204 (by first | assumption | omega | exact ⟨by omega, by omega⟩ | exact ⟨⟨by omega, by omega⟩, by omega⟩ | exact zWV.R (by assumption) _ _)) ⟨by omega, by omega, by omega, by omega⟩ zpr_3 ?_
    refine G_ialdV (pc := 17) (V (211, 0, 0, 0) (V (14, t, p, o) 6)) dX7_seen_17 pg_211 ⟨by omega, by omega, by omega, by omega⟩ rfl ?_
    refine G_iconst (pc := 18) dX7_seen_18 ?_
    refine G_icmp_ne (pc := 19) 26 dX7_seen_19 (by decide) (by first | exact zWV.R (by assumption) _ _ | exact ⟨by omega, by omega⟩ | assumption) (by first | exact zWV.R (by assumption) _ _ | exact ⟨by omega, by omega⟩ | assumption) (fun c19 => ?_) (fun c19 => ?_)
    · refine G_aload_n (pc := 26) 0 0 dX7_seen_26 rfl rfl ?_
      refine G_getf (pc := 27) fl_X7_45 dX7_seen_27 pg_200 rfl ?_
      refine G_aload_n (pc := 30) 1 1 dX7_seen_30 rfl rfl ?_
      refine G_iconst (pc := 31) dX7_seen_31 ?_
      refine G_ialdV (pc := 32) (V (14, t, p, o) 6) dX7_seen_32 (pg_204 (by first | assumption | omega | exact ⟨by omega, by omega⟩ | exact ⟨⟨by omega, by omega⟩, by omega⟩ | exact zWV.R (by assumption) _ _)) ⟨by omega, by omega, by omega, by omega⟩ zpr_3 ?_
      refine G_ialdV (pc := 33) (V (211, 0, 0, 0) (V (14, t, p, o) 6)) dX7_seen_33 pg_211 ⟨by omega, by omega, by omega, by omega⟩ rfl ?_
      refine G_iconst (pc := 34) dX7_seen_34 ?_
      refine G_icmp_ne (pc := 35) 42 dX7_seen_35 (by decide) (by first | exact zWV.R (by assumption) _ _ | exact ⟨by omega, by omega⟩ | assumption) (by first | exact zWV.R (by assumption) _ _ | exact ⟨by omega, by omega⟩ | assumption) (fun c35 => ?_) (fun c35 => ?_)
      · refine G_iconst (pc := 42) dX7_seen_42 ?_
        exact G_iret_d (pc := 43) hF dX7_seen_43 ⟨Nat.le_of_ble_eq_true rfl, Nat.le_of_ble_eq_true rfl⟩ (by have hs := hV.sn ht hp ho; unfold zsn at hs; (repeat' split at hs) <;> omega)
      · refine G_iconst (pc := 38) dX7_seen_38 ?_
        refine G_goto (pc := 39) 43 dX7_seen_39 (by decide) ?_
        exact G_iret_d (pc := 43) hF dX7_seen_43 ⟨Nat.le_of_ble_eq_true rfl, Nat.le_of_ble_eq_true rfl⟩ (by have hs := hV.sn ht hp ho; unfold zsn at hs; (repeat' split at hs) <;> omega)
    · refine G_iconst (pc := 22) dX7_seen_22 ?_
      refine G_goto (pc := 23) 43 dX7_seen_23 (by decide) ?_
      exact G_iret_d (pc := 43) hF dX7_seen_43 ⟨Nat.le_of_ble_eq_true rfl, Nat.le_of_ble_eq_true rfl⟩ (by have hs := hV.sn ht hp ho; unfold zsn at hs; (repeat' split at hs) <;> omega)
  · refine G_iconst (pc := 6) dX7_seen_6 ?_
    refine G_goto (pc := 7) 43 dX7_seen_7 (by decide) ?_
    exact G_iret_d (pc := 43) hF dX7_seen_43 ⟨Nat.le_of_ble_eq_true rfl, Nat.le_of_ble_eq_true rfl⟩ (by have hs := hV.sn ht hp ho; unfold zsn at hs; (repeat' split at hs) <;> omega)
set_option maxHeartbeats 4000000 in
set_option maxRecDepth 100000 in
theorem c_X7_stable {l : Launch} {Δ : zDl} {ad : zK → Nat} {Q : zP} {V : zS} {X : zMem} {t p : Int} (hP : zWP Q) (hV : zWV Q V) (ht : 0 ≤ t ∧ t < Q 0 0 0) (hp : 0 ≤ p ∧ p < Q 1 t 0) : zMn l Δ yX7_stable cX7_stable 3 (some .int) 2 0 0 [.ref (ad (200, 0, 0, 0)), .ref (ad (203, t, p, 0))] ad (pm Δ ad Q V X) (zD (some (.int (zI (zse Q V t p)))) ad (pm Δ ad Q V X)) := by
  refine zMn_of (by decide) (Nat.le_of_ble_eq_true rfl) (fun Γ hl hΔ hF => ?_)
  subst hl hΔ
  show G Γ _ _ _ RX7 _ _ _ _ _ [(0, .ref (ad (200, 0, 0, 0))), (1, .ref (ad (203, t, p, 0)))] []
  have hM := hP.m ht hp
  have hN := hP.t ht
  have hq := hP.n
  refine G_iconst (pc := 0) dX7_stable_0 ?_
  refine G_istore_ne (pc := 1) 2 (fun zw => [(2, .int (zI zw)), (0, .ref (ad (200, 0, 0, 0))), (1, .ref (ad (203, t, p, 0)))]) dX7_stable_1 rfl (by decide) (fun _ => rfl) (fun v1 e1 => ?_)
  have L2 : ∀ (n : Nat) (o : Int), ((0 ≤ o ∧ o ≤ Q 2 t p) ∧ fi (fun o => V (14, t, p, o) 4 = 2) o (Q 2 t p) = zse Q V t p) → (Q 2 t p - o).toNat < n → G Γ (zRm 2 0 0) cX7_stable 3 RX7 ad (pm (z_d Γ) ad Q V X) 0 0 2 [(0, .ref (ad (200, 0, 0, 0))), (1, .ref (ad (203, t, p, 0))), (2, .int (zI o))] [] := by
    intro n
    induction n with
    | zero => intro o _ hn; omega
    | succ n ih2 =>
      intro o hi2 hn2
      refine G_iload_n (pc := 2) 2 2 dX7_stable_2 rfl rfl ?_
      refine G_aload_n (pc := 3) 1 1 dX7_stable_3 rfl rfl ?_
      refine G_alenV (pc := 4) (t := 5) (Q 2 t p) rfl dX7_stable_4 (pg_203 (by first | assumption | omega | exact ⟨by omega, by omega⟩ | exact ⟨⟨by omega, by omega⟩, by omega⟩ | exact zWV.R (by assumption) _ _)) (by omega) ?_
      refine G_icmp_ge (pc := 5) 27 dX7_stable_5 (by decide) (by first | exact zWV.R (by assumption) _ _ | exact ⟨by omega, by omega⟩ | assumption) (by first | exact zWV.R (by assumption) _ _ | exact ⟨by omega, by omega⟩ | assumption) (fun c5 => ?_) (fun c5 => ?_)
      · refine G_aload_n (pc := 27) 1 1 dX7_stable_27 rfl rfl ?_
        refine G_alenV (pc := 28) (t := 5) (Q 2 t p) rfl dX7_stable_28 (pg_203 (by first | assumption | omega | exact ⟨by omega, by omega⟩ | exact ⟨⟨by omega, by omega⟩, by omega⟩ | exact zWV.R (by assumption) _ _)) (by omega) ?_
        exact G_iret_d (pc := 29) hF dX7_stable_29 ⟨Nat.le_of_ble_eq_true rfl, Nat.le_of_ble_eq_true rfl⟩ (by rw [← hi2.2, fi_end (by omega)]; omega)
      · refine G_aload_n (pc := 8) 0 0 dX7_stable_8 rfl rfl ?_
        refine G_aload_n (pc := 9) 1 1 dX7_stable_9 rfl rfl ?_
        refine G_iload_n (pc := 10) 2 2 dX7_stable_10 rfl rfl ?_
        refine G_aldA (pc := 11) (t := 5) rfl dX7_stable_11 (pg_203 (by first | assumption | omega | exact ⟨by omega, by omega⟩ | exact ⟨⟨by omega, by omega⟩, by omega⟩ | exact zWV.R (by assumption) _ _)) ⟨by omega, by omega, by omega, by omega⟩ rfl ?_
        refine G_callVd (pc := 12) gk_X7_101 dX7_stable_12 pg_200 rfl (c_X7_seen (by first | assumption | omega | exact ⟨by omega, by omega⟩ | exact ⟨⟨by omega, by omega⟩, by omega⟩ | exact zWV.R (by assumption) _ _) (by first | assumption | omega | exact ⟨by omega, by omega⟩ | exact ⟨⟨by omega, by omega⟩, by omega⟩ | exact zWV.R (by assumption) _ _) (by first | assumption | omega | exact ⟨by omega, by omega⟩ | exact ⟨⟨by omega, by omega⟩, by omega⟩ | exact zWV.R (by assumption) _ _) (by first | assumption | omega | exact ⟨by omega, by omega⟩ | exact ⟨⟨by omega, by omega⟩, by omega⟩ | exact zWV.R (by assumption) _ _) (by first | assumption | omega | exact ⟨by omega, by omega⟩ | exact ⟨⟨by omega, by omega⟩, by omega⟩ | exact zWV.R (by assumption) _ _)) rfl rfl (Nat.le_of_ble_eq_true rfl) ⟨⟨Nat.le_of_ble_eq_true rfl, Nat.le_of_ble_eq_true rfl⟩, Nat.le_of_ble_eq_true rfl, Nat.le_of_ble_eq_true rfl⟩ ?_
        refine G_iconst (pc := 15) dX7_stable_15 ?_
        refine G_icmp_ne (pc := 16) 21 dX7_stable_16 (by decide) (by first | exact zWV.R (by assumption) _ _ | exact ⟨by omega, by omega⟩ | assumption) (by first | exact zWV.R (by assumption) _ _ | exact ⟨by omega, by omega⟩ | assumption) (fun c16 => ?_) (fun c16 => ?_)
        · refine G_iinc_e (pc := 21) 2 (fun zw => [(2, .int (zI zw)), (0, .ref (ad (200, 0, 0, 0))), (1, .ref (ad (203, t, p, 0)))]) dX7_stable_21 rfl (by decide) (fun _ => rfl) (fun v21 e21 => ?_)
          refine G_goto (pc := 24) 2 dX7_stable_24 (by decide) ?_
          refine G_perm (lv' := [(0, .ref (ad (200, 0, 0, 0))), (1, .ref (ad (203, t, p, 0))), (2, .int (zI v21))]) [1, 2, 0] rfl ?_
          exact ih2 v21  ⟨by omega, by rw [e21, ← hi2.2]; exact (fi_miss (a := o) (n := Q 2 t p) (by omega) c16).symm⟩ (by omega)
        · refine G_iload_n (pc := 19) 2 2 dX7_stable_19 rfl rfl ?_
          exact G_iret_d (pc := 20) hF dX7_stable_20 ⟨Nat.le_of_ble_eq_true rfl, Nat.le_of_ble_eq_true rfl⟩ (by rw [← hi2.2]; exact (fi_hit (a := o) (n := Q 2 t p) (by omega) c16).symm)
  refine G_perm (lv' := [(0, .ref (ad (200, 0, 0, 0))), (1, .ref (ad (203, t, p, 0))), (2, .int (zI v1))]) [1, 2, 0] rfl ?_
  exact L2 _ v1  ⟨by omega, by subst e1; rfl⟩ (Nat.lt_succ_self _)
set_option maxHeartbeats 4000000 in
set_option maxRecDepth 100000 in
theorem c_X7_isPast {l : Launch} {Δ : zDl} {ad : zK → Nat} {Q : zP} {V : zS} {X : zMem} {g p o : Int} (hP : zWP Q) (hV : zWV Q V) (hg : 0 ≤ g ∧ g < Q 3 0 0) (hp : 0 ≤ p ∧ p < Q 1 (Q 4 g 0) 0) (ho : 0 ≤ o ∧ o < Q 2 (Q 4 g 0) p) : zMn l Δ yX7_isPast cX7_isPast 3 (some .boolean) 2 0 0 [.ref (ad (200, 0, 0, 0)), .ref (ad (204, Q 4 g 0, p, o)), .int (zI g)] ad (pm Δ ad Q V X) (zD (some (.int (zI (if jb Q V g p o then 1 else 0)))) ad (pm Δ ad Q V X)) := by
  refine zMn_of (by decide) (Nat.le_of_ble_eq_true rfl) (fun Γ hl hΔ hF => ?_)
  subst hl hΔ
  show G Γ _ _ _ RX7 _ _ _ _ _ [(0, .ref (ad (200, 0, 0, 0))), (1, .ref (ad (204, Q 4 g 0, p, o))), (2, .int (zI g))] []
  have hG := hP.g hg
  have hM := hP.m hG hp
  have hN := hP.t hG
  have hq := hP.n
  have hW5 := hV.W.m hg hp
  have h19 := hV.st4 g p o
  have h5 := hV.dr (Q 4 g 0) p o
  refine G_aload_n (pc := 0) 1 1 dX7_isPast_0 rfl rfl ?_
  refine G_iconst (pc := 1) dX7_isPast_1 ?_
  refine G_iconst (pc := 2) dX7_isPast_2 ?_
  refine G_iload_n (pc := 3) 2 2 dX7_isPast_3 rfl rfl ?_
  refine G_imul (pc := 4) dX7_isPast_4 ?_
  refine G_iadd (pc := 5) dX7_isPast_5 ?_
  refine G_ialdV (pc := 6) (V (19, g, p, 0) o) dX7_isPast_6 (pg_204 (by first | assumption | omega | exact ⟨by omega, by omega⟩ | exact ⟨⟨by omega, by omega⟩, by omega⟩ | exact zWV.R (by assumption) _ _)) ⟨by omega, by omega, by omega, by omega⟩ (zpr_5 (by first | assumption | omega | exact ⟨by omega, by omega⟩ | exact ⟨⟨by omega, by omega⟩, by omega⟩ | exact zWV.R (by assumption) _ _) rfl) ?_
  refine G_iconst (pc := 7) dX7_isPast_7 ?_
  refine G_icmp_gt (pc := 8) 27 dX7_isPast_8 (by decide) (by first | exact zWV.R (by assumption) _ _ | exact ⟨by omega, by omega⟩ | assumption) (by first | exact zWV.R (by assumption) _ _ | exact ⟨by omega, by omega⟩ | assumption) (fun c8 => ?_) (fun c8 => ?_)
  · refine G_iconst (pc := 27) dX7_isPast_27 ?_
    refine G_goto (pc := 28) 32 dX7_isPast_28 (by decide) ?_
    exact G_zret_d (pc := 32) hF dX7_isPast_32 ⟨Nat.le_of_ble_eq_true rfl, Nat.le_of_ble_eq_true rfl⟩ (by first | exact zb_ite | omega) (by first | exact (if_pos (by first | assumption | omega)).symm | exact (if_neg (by first | assumption | omega)).symm | rfl | omega)
  · refine G_aload_n (pc := 11) 0 0 dX7_isPast_11 rfl rfl ?_
    refine G_aload_n (pc := 12) 1 1 dX7_isPast_12 rfl rfl ?_
    refine G_callVd (pc := 13) gk_X7_101 dX7_isPast_13 pg_200 rfl (c_X7_seen (by first | assumption | omega | exact ⟨by omega, by omega⟩ | exact ⟨⟨by omega, by omega⟩, by omega⟩ | exact zWV.R (by assumption) _ _) (by first | assumption | omega | exact ⟨by omega, by omega⟩ | exact ⟨⟨by omega, by omega⟩, by omega⟩ | exact zWV.R (by assumption) _ _) (by first | assumption | omega | exact ⟨by omega, by omega⟩ | exact ⟨⟨by omega, by omega⟩, by omega⟩ | exact zWV.R (by assumption) _ _) (by first | assumption | omega | exact ⟨by omega, by omega⟩ | exact ⟨⟨by omega, by omega⟩, by omega⟩ | exact zWV.R (by assumption) _ _) (by first | assumption | omega | exact ⟨by omega, by omega⟩ | exact ⟨⟨by omega, by omega⟩, by omega⟩ | exact zWV.R (by assumption) _ _)) rfl rfl (Nat.le_of_ble_eq_true rfl) ⟨⟨Nat.le_of_ble_eq_true rfl, Nat.le_of_ble_eq_true rfl⟩, Nat.le_of_ble_eq_true rfl, Nat.le_of_ble_eq_true rfl⟩ ?_
    refine G_iconst (pc := 16) dX7_isPast_16 ?_
    refine G_icmp_eq (pc := 17) 27 dX7_isPast_17 (by decide) (by first | exact zWV.R (by assumption) _ _ | exact ⟨by omega, by omega⟩ | assumption) (by first | exact zWV.R (by assumption) _ _ | exact ⟨by omega, by omega⟩ | assumption) (fun c17 => ?_) (fun c17 => ?_)
    · refine G_iconst (pc := 27) dX7_isPast_27 ?_
      refine G_goto (pc := 28) 32 dX7_isPast_28 (by decide) ?_
      exact G_zret_d (pc := 32) hF dX7_isPast_32 ⟨Nat.le_of_ble_eq_true rfl, Nat.le_of_ble_eq_true rfl⟩ (by first | exact zb_ite | omega) (by first | exact (if_pos (by first | assumption | omega)).symm | exact (if_neg (by first | assumption | omega)).symm | rfl | omega)
    · refine G_aload_n (pc := 20) 1 1 dX7_isPast_20 rfl rfl ?_
      refine G_iconst (pc := 21) dX7_isPast_21 ?_
      refine G_ialdV (pc := 22) (V (14, (Q 4 g 0), p, o) 5) dX7_isPast_22 (pg_204 (by first | assumption | omega | exact ⟨by omega, by omega⟩ | exact ⟨⟨by omega, by omega⟩, by omega⟩ | exact zWV.R (by assumption) _ _)) ⟨by omega, by omega, by omega, by omega⟩ zpr_4 ?_
      refine G_iconst (pc := 23) dX7_isPast_23 ?_
      refine G_icmp_ne (pc := 24) 31 dX7_isPast_24 (by decide) (by first | exact zWV.R (by assumption) _ _ | exact ⟨by omega, by omega⟩ | assumption) (by first | exact zWV.R (by assumption) _ _ | exact ⟨by omega, by omega⟩ | assumption) (fun c24 => ?_) (fun c24 => ?_)
      · refine G_iconst (pc := 31) dX7_isPast_31 ?_
        exact G_zret_d (pc := 32) hF dX7_isPast_32 ⟨Nat.le_of_ble_eq_true rfl, Nat.le_of_ble_eq_true rfl⟩ (by first | exact zb_ite | omega) (by first | exact (if_pos (by first | assumption | omega)).symm | exact (if_neg (by first | assumption | omega)).symm | rfl | omega)
      · refine G_iconst (pc := 27) dX7_isPast_27 ?_
        refine G_goto (pc := 28) 32 dX7_isPast_28 (by decide) ?_
        exact G_zret_d (pc := 32) hF dX7_isPast_32 ⟨Nat.le_of_ble_eq_true rfl, Nat.le_of_ble_eq_true rfl⟩ (by first | exact zb_ite | omega) (by first | exact (if_pos (by first | assumption | omega)).symm | exact (if_neg (by first | assumption | omega)).symm | rfl | omega)
set_option maxHeartbeats 4000000 in
set_option maxRecDepth 100000 in
theorem c_X7_forget {l : Launch} {Δ : zDl} {ad : zK → Nat} {Q : zP} {V : zS} {X : zMem} {t p o g : Int} (hP : zWP Q) (hV : zWV Q V) (ht : 0 ≤ t ∧ t < Q 0 0 0) (hp : 0 ≤ p ∧ p < Q 1 t 0) (ho : 0 ≤ o ∧ o < Q 2 t p) (hg : 0 ≤ g ∧ g < Q 3 0 0) (hgt : Q 4 g 0 = t) : zMn l Δ yX7_forget cX7_forget 3 none 1 0 0 [.ref (ad (200, 0, 0, 0)), .ref (ad (204, t, p, o)), .int (zI g)] ad (pm Δ ad Q V X) (zD none ad (pm Δ ad Q (zfg V g p o) X)) := by
  refine zMn_of (by decide) (Nat.le_of_ble_eq_true rfl) (fun Γ hl hΔ hF => ?_)
  subst hl hΔ
  show G Γ _ _ _ RX7 _ _ _ _ _ [(0, .ref (ad (200, 0, 0, 0))), (1, .ref (ad (204, t, p, o))), (2, .int (zI g))] []
  have hM := hP.m ht hp
  have hN := hP.t ht
  have hq := hP.n
  refine G_aload_n (pc := 0) 1 1 dX7_forget_0 rfl rfl ?_
  refine G_iconst (pc := 1) dX7_forget_1 ?_
  refine G_iconst (pc := 2) dX7_forget_2 ?_
  refine G_iload_n (pc := 3) 2 2 dX7_forget_3 rfl rfl ?_
  refine G_imul (pc := 4) dX7_forget_4 ?_
  refine G_iadd (pc := 5) dX7_forget_5 ?_
  refine G_iconst (pc := 6) dX7_forget_6 ?_
  refine G_iast (pc := 7) dX7_forget_7 (pg_204 (by first | assumption | omega | exact ⟨by omega, by omega⟩ | exact ⟨⟨by omega, by omega⟩, by omega⟩ | exact zWV.R (by assumption) _ _)) ⟨by omega, by omega, by omega, by omega⟩ (pp_204_5 (by first | assumption | omega | exact ⟨by omega, by omega⟩ | exact ⟨⟨by omega, by omega⟩, by omega⟩ | exact zWV.R (by assumption) _ _) (by first | assumption | omega | exact ⟨by omega, by omega⟩ | exact ⟨⟨by omega, by omega⟩, by omega⟩ | exact zWV.R (by assumption) _ _) hgt) ?_
  refine G_nameV (fun V1_7 hV1_7 => ?_)
  have hVV1_7 : zWV Q V1_7 := by rw [hV1_7]; exact hV.s19 ⟨by omega, by omega⟩ (by first | assumption | omega | exact fun q => by omega)
  refine G_aload_n (pc := 8) 1 1 dX7_forget_8 rfl rfl ?_
  refine G_bipush (pc := 9) dX7_forget_9 (by decide) ?_
  refine G_iconst (pc := 11) dX7_forget_11 ?_
  refine G_iload_n (pc := 12) 2 2 dX7_forget_12 rfl rfl ?_
  refine G_imul (pc := 13) dX7_forget_13 ?_
  refine G_iadd (pc := 14) dX7_forget_14 ?_
  refine G_iconst (pc := 15) dX7_forget_15 ?_
  refine G_iast (pc := 16) dX7_forget_16 (pg_204 (by first | assumption | omega | exact ⟨by omega, by omega⟩ | exact ⟨⟨by omega, by omega⟩, by omega⟩ | exact zWV.R (by assumption) _ _)) ⟨by omega, by omega, by omega, by omega⟩ (pp_204_6 (by first | assumption | omega | exact ⟨by omega, by omega⟩ | exact ⟨⟨by omega, by omega⟩, by omega⟩ | exact zWV.R (by assumption) _ _) (by first | assumption | omega | exact ⟨by omega, by omega⟩ | exact ⟨⟨by omega, by omega⟩, by omega⟩ | exact zWV.R (by assumption) _ _) hgt) ?_
  refine G_nameV (fun V2_16 hV2_16 => ?_)
  have hVV2_16 : zWV Q V2_16 := by rw [hV2_16]; exact hVV1_7.s20 ⟨by omega, fun q => by rw [hV1_7, zst_s] at q; omega⟩
  exact G_vret_d (pc := 17) hF dX7_forget_17 ⟨Nat.le_of_ble_eq_true rfl, Nat.le_of_ble_eq_true rfl⟩ (by rw [hV2_16, hV1_7]; rfl)
set_option maxHeartbeats 4000000 in
set_option maxRecDepth 100000 in
theorem c_X7_gives {l : Launch} {Δ : zDl} {ad : zK → Nat} {Q : zP} {V : zS} {X : zMem} {g p : Int} (hP : zWP Q) (hV : zWV Q V) (hg : 0 ≤ g ∧ g < Q 3 0 0) (hp : 0 ≤ p ∧ p < Q 1 (Q 4 g 0) 0) : zMn l Δ yX7_gives cX7_gives 5 (some .int) 3 0 0 [.ref (ad (200, 0, 0, 0)), .int (zI g), .int (zI p)] ad (pm Δ ad Q V X) (zD (some (.int (zI (zno Q V g p (V (0, 0, 0, 0) 6))))) ad (pm Δ ad Q V X)) := by
  refine zMn_of (by decide) (Nat.le_of_ble_eq_true rfl) (fun Γ hl hΔ hF => ?_)
  subst hl hΔ
  show G Γ _ _ _ RX7 _ _ _ _ _ [(0, .ref (ad (200, 0, 0, 0))), (1, .int (zI g)), (2, .int (zI p))] []
  have hG := hP.g hg
  have hM := hP.m hG hp
  have hN := hP.t hG
  have hq := hP.n
  have hW5 := hV.W.m hg hp
  have hE := fi_le (Q := fun o => V (14, Q 4 g 0, p, o) 4 = 2) (a := 0) (n := Q 2 (Q 4 g 0) p) hM.1
  have hE : 0 ≤ zse Q V (Q 4 g 0) p ∧ zse Q V (Q 4 g 0) p ≤ Q 2 (Q 4 g 0) p := hE
  have hw := hV.W.w
  refine G_aload_n (pc := 0) 0 0 dX7_gives_0 rfl rfl ?_
  refine G_getf (pc := 1) fl_X7_25 dX7_gives_1 pg_200 rfl ?_
  refine G_aload_n (pc := 4) 0 0 dX7_gives_4 rfl rfl ?_
  refine G_getf (pc := 5) fl_X7_51 dX7_gives_5 pg_200 rfl ?_
  refine G_iload_n (pc := 8) 1 1 dX7_gives_8 rfl rfl ?_
  refine G_ialdV (pc := 9) (Q 4 g 0) dX7_gives_9 pg_213 ⟨by omega, by omega, by omega, by omega⟩ (hV.of (by first | assumption | omega | exact ⟨by omega, by omega⟩ | exact ⟨⟨by omega, by omega⟩, by omega⟩ | exact zWV.R (by assumption) _ _)) ?_
  refine G_aldA (pc := 10) (t := 7) rfl dX7_gives_10 pg_201 ⟨by omega, by omega, by omega, by omega⟩ rfl ?_
  refine G_iload_n (pc := 11) 2 2 dX7_gives_11 rfl rfl ?_
  refine G_aldA (pc := 12) (t := 6) rfl dX7_gives_12 (pg_202 (by first | assumption | omega | exact ⟨by omega, by omega⟩ | exact ⟨⟨by omega, by omega⟩, by omega⟩ | exact zWV.R (by assumption) _ _)) ⟨by omega, by omega, by omega, by omega⟩ rfl ?_
  refine G_astore_n (pc := 13) 3 [(3, .ref (ad (203, Q 4 g 0, p, 0))), (0, .ref (ad (200, 0, 0, 0))), (1, .int (zI g)), (2, .int (zI p))] dX7_gives_13 rfl (by decide) rfl ?_
  refine G_aload_n (pc := 14) 0 1 dX7_gives_14 rfl rfl ?_
  refine G_getf (pc := 15) fl_X7_54 dX7_gives_15 pg_200 rfl ?_
  refine G_iload_n (pc := 18) 1 2 dX7_gives_18 rfl rfl ?_
  refine G_aldA (pc := 19) (t := 5) rfl dX7_gives_19 pg_214 ⟨by omega, by omega, by omega, by omega⟩ rfl ?_
  refine G_iload_n (pc := 20) 2 3 dX7_gives_20 rfl rfl ?_
  refine G_ialdV (pc := 21) (V (18, g, p, 0) 5) dX7_gives_21 (pg_215 (by first | assumption | omega | exact ⟨by omega, by omega⟩ | exact ⟨⟨by omega, by omega⟩, by omega⟩ | exact zWV.R (by assumption) _ _)) ⟨by omega, by omega, by omega, by omega⟩ rfl ?_
  refine G_istore_e (pc := 22) (fun zw => [(4, .int (zI zw)), (3, .ref (ad (203, Q 4 g 0, p, 0))), (0, .ref (ad (200, 0, 0, 0))), (1, .int (zI g)), (2, .int (zI p))]) dX7_gives_22 (by decide) (fun _ => rfl) (fun v22 e22 => ?_)
  have L24 : ∀ (n : Nat) (o : Int), ((0 ≤ o ∧ o ≤ Q 2 (Q 4 g 0) p) ∧ fi (fun o => V (19, g, p, 0) o = 2 ∧ V (21, g, p, 0) o ≤ V (0, 0, 0, 0) 6) o (Q 2 (Q 4 g 0) p) = fi (fun o => V (19, g, p, 0) o = 2 ∧ V (21, g, p, 0) o ≤ V (0, 0, 0, 0) 6) (V (18, g, p, 0) 5) (Q 2 (Q 4 g 0) p)) → (Q 2 (Q 4 g 0) p - o).toNat < n → G Γ (zRm 3 0 0) cX7_gives 5 RX7 ad (pm (z_d Γ) ad Q V X) 0 0 24 [(0, .ref (ad (200, 0, 0, 0))), (1, .int (zI g)), (2, .int (zI p)), (3, .ref (ad (203, Q 4 g 0, p, 0))), (4, .int (zI o))] [] := by
    intro n
    induction n with
    | zero => intro o _ hn; omega
    | succ n ih24 =>
      intro o hi24 hn24
      have hwo := hw g p o
      refine G_iload (pc := 24) 4 dX7_gives_24 rfl ?_
      refine G_aload_n (pc := 26) 3 3 dX7_gives_26 rfl rfl ?_
      refine G_alenV (pc := 27) (t := 5) (Q 2 (Q 4 g 0) p) rfl dX7_gives_27 (pg_203 (by first | assumption | omega | exact ⟨by omega, by omega⟩ | exact ⟨⟨by omega, by omega⟩, by omega⟩ | exact zWV.R (by assumption) _ _)) (by omega) ?_
      refine G_icmp_ge (pc := 28) 72 dX7_gives_28 (by decide) (by first | exact zWV.R (by assumption) _ _ | exact ⟨by omega, by omega⟩ | assumption) (by first | exact zWV.R (by assumption) _ _ | exact ⟨by omega, by omega⟩ | assumption) (fun c28 => ?_) (fun c28 => ?_)
      · refine G_aload_n (pc := 72) 0 0 dX7_gives_72 rfl rfl ?_
        refine G_getf (pc := 73) fl_X7_57 dX7_gives_73 pg_200 rfl ?_
        refine G_iload_n (pc := 76) 1 1 dX7_gives_76 rfl rfl ?_
        refine G_aldA (pc := 77) (t := 5) rfl dX7_gives_77 pg_216 ⟨by omega, by omega, by omega, by omega⟩ rfl ?_
        refine G_iload_n (pc := 78) 2 2 dX7_gives_78 rfl rfl ?_
        refine G_ialdV (pc := 79) (V (18, g, p, 0) 6) dX7_gives_79 (pg_217 (by first | assumption | omega | exact ⟨by omega, by omega⟩ | exact ⟨⟨by omega, by omega⟩, by omega⟩ | exact zWV.R (by assumption) _ _)) ⟨by omega, by omega, by omega, by omega⟩ rfl ?_
        refine G_istore_e (pc := 80) (fun zw => [(4, .int (zI zw)), (0, .ref (ad (200, 0, 0, 0))), (1, .int (zI g)), (2, .int (zI p)), (3, .ref (ad (203, Q 4 g 0, p, 0)))]) dX7_gives_80 (by decide) (fun _ => rfl) (fun v80 e80 => ?_)
        have L82 : ∀ (n : Nat) (o2 : Int), ((0 ≤ o2 ∧ o2 ≤ Q 2 (Q 4 g 0) p) ∧ fi (fun o => V (19, g, p, 0) o = 0 ∧ zkp V (Q 4 g 0) p o) o2 (zse Q V (Q 4 g 0) p) = fi (fun o => V (19, g, p, 0) o = 0 ∧ zkp V (Q 4 g 0) p o) (V (18, g, p, 0) 6) (zse Q V (Q 4 g 0) p)) → (Q 2 (Q 4 g 0) p - o2).toNat < n → G Γ (zRm 3 0 0) cX7_gives 5 RX7 ad (pm (z_d Γ) ad Q V X) 0 0 82 [(0, .ref (ad (200, 0, 0, 0))), (1, .int (zI g)), (2, .int (zI p)), (3, .ref (ad (203, Q 4 g 0, p, 0))), (4, .int (zI o2))] [] := by
          intro n
          induction n with
          | zero => intro o2 _ hn; omega
          | succ n ih82 =>
            intro o2 hi82 hn82
            refine G_iload (pc := 82) 4 dX7_gives_82 rfl ?_
            refine G_aload_n (pc := 84) 0 0 dX7_gives_84 rfl rfl ?_
            refine G_aload_n (pc := 85) 3 3 dX7_gives_85 rfl rfl ?_
            refine G_callVd (pc := 86) gk_X7_149 dX7_gives_86 pg_200 rfl (c_X7_stable (by first | assumption | omega | exact ⟨by omega, by omega⟩ | exact ⟨⟨by omega, by omega⟩, by omega⟩ | exact zWV.R (by assumption) _ _) (by first | assumption | omega | exact ⟨by omega, by omega⟩ | exact ⟨⟨by omega, by omega⟩, by omega⟩ | exact zWV.R (by assumption) _ _) (by first | assumption | omega | exact ⟨by omega, by omega⟩ | exact ⟨⟨by omega, by omega⟩, by omega⟩ | exact zWV.R (by assumption) _ _) (by first | assumption | omega | exact ⟨by omega, by omega⟩ | exact ⟨⟨by omega, by omega⟩, by omega⟩ | exact zWV.R (by assumption) _ _)) rfl rfl (Nat.le_of_ble_eq_true rfl) ⟨⟨Nat.le_of_ble_eq_true rfl, Nat.le_of_ble_eq_true rfl⟩, Nat.le_of_ble_eq_true rfl, Nat.le_of_ble_eq_true rfl⟩ ?_
            refine G_icmp_ge (pc := 89) 134 dX7_gives_89 (by decide) (by first | exact zWV.R (by assumption) _ _ | exact ⟨by omega, by omega⟩ | assumption) (by first | exact zWV.R (by assumption) _ _ | exact ⟨by omega, by omega⟩ | assumption) (fun c89 => ?_) (fun c89 => ?_)
            · refine G_iconst (pc := 134) dX7_gives_134 ?_
              exact G_iret_d (pc := 135) hF dX7_gives_135 ⟨Nat.le_of_ble_eq_true rfl, Nat.le_of_ble_eq_true rfl⟩ (by unfold zno; rw [if_neg (by rw [← hi24.2, fi_end (by omega)]; omega), ← hi82.2, fi_end (by omega), if_neg (by omega)])
            · refine G_aload_n (pc := 92) 3 3 dX7_gives_92 rfl rfl ?_
              refine G_iload (pc := 93) 4 dX7_gives_93 rfl ?_
              refine G_aldA (pc := 95) (t := 5) rfl dX7_gives_95 (pg_203 (by first | assumption | omega | exact ⟨by omega, by omega⟩ | exact ⟨⟨by omega, by omega⟩, by omega⟩ | exact zWV.R (by assumption) _ _)) ⟨by omega, by omega, by omega, by omega⟩ rfl ?_
              refine G_iconst (pc := 96) dX7_gives_96 ?_
              refine G_iconst (pc := 97) dX7_gives_97 ?_
              refine G_iload_n (pc := 98) 1 1 dX7_gives_98 rfl rfl ?_
              refine G_imul (pc := 99) dX7_gives_99 ?_
              refine G_iadd (pc := 100) dX7_gives_100 ?_
              refine G_ialdV (pc := 101) (V (19, g, p, 0) o2) dX7_gives_101 (pg_204 (by first | assumption | omega | exact ⟨by omega, by omega⟩ | exact ⟨⟨by omega, by omega⟩, by omega⟩ | exact zWV.R (by assumption) _ _)) ⟨by omega, by omega, by omega, by omega⟩ (zpr_5 (by first | assumption | omega | exact ⟨by omega, by omega⟩ | exact ⟨⟨by omega, by omega⟩, by omega⟩ | exact zWV.R (by assumption) _ _) rfl) ?_
              refine G_if_ne (pc := 102) 128 dX7_gives_102 (by decide) (by first | exact zWV.R (by assumption) _ _ | exact ⟨by omega, by omega⟩ | assumption) (fun c102 => ?_) (fun c102 => ?_)
              · refine G_iinc_e (pc := 128) 4 (fun zw => [(4, .int (zI zw)), (0, .ref (ad (200, 0, 0, 0))), (1, .int (zI g)), (2, .int (zI p)), (3, .ref (ad (203, Q 4 g 0, p, 0)))]) dX7_gives_128 rfl (by decide) (fun _ => rfl) (fun v128 e128 => ?_)
                refine G_goto (pc := 131) 82 dX7_gives_131 (by decide) ?_
                refine G_perm (lv' := [(0, .ref (ad (200, 0, 0, 0))), (1, .int (zI g)), (2, .int (zI p)), (3, .ref (ad (203, Q 4 g 0, p, 0))), (4, .int (zI v128))]) [1, 2, 3, 4, 0] rfl ?_
                exact ih82 v128  ⟨by omega, by rw [e128, ← hi82.2]; exact (fi_miss (a := o2) (n := zse Q V (Q 4 g 0) p) (by omega) (fun h => by obtain ⟨h1, h2, h3⟩ := h; omega)).symm⟩ (by omega)
              · refine G_aload_n (pc := 105) 0 0 dX7_gives_105 rfl rfl ?_
                refine G_aload_n (pc := 106) 3 3 dX7_gives_106 rfl rfl ?_
                refine G_iload (pc := 107) 4 dX7_gives_107 rfl ?_
                refine G_aldA (pc := 109) (t := 5) rfl dX7_gives_109 (pg_203 (by first | assumption | omega | exact ⟨by omega, by omega⟩ | exact ⟨⟨by omega, by omega⟩, by omega⟩ | exact zWV.R (by assumption) _ _)) ⟨by omega, by omega, by omega, by omega⟩ rfl ?_
                refine G_callVd (pc := 110) gk_X7_101 dX7_gives_110 pg_200 rfl (c_X7_seen (by first | assumption | omega | exact ⟨by omega, by omega⟩ | exact ⟨⟨by omega, by omega⟩, by omega⟩ | exact zWV.R (by assumption) _ _) (by first | assumption | omega | exact ⟨by omega, by omega⟩ | exact ⟨⟨by omega, by omega⟩, by omega⟩ | exact zWV.R (by assumption) _ _) (by first | assumption | omega | exact ⟨by omega, by omega⟩ | exact ⟨⟨by omega, by omega⟩, by omega⟩ | exact zWV.R (by assumption) _ _) (by first | assumption | omega | exact ⟨by omega, by omega⟩ | exact ⟨⟨by omega, by omega⟩, by omega⟩ | exact zWV.R (by assumption) _ _) (by first | assumption | omega | exact ⟨by omega, by omega⟩ | exact ⟨⟨by omega, by omega⟩, by omega⟩ | exact zWV.R (by assumption) _ _)) rfl rfl (Nat.le_of_ble_eq_true rfl) ⟨⟨Nat.le_of_ble_eq_true rfl, Nat.le_of_ble_eq_true rfl⟩, Nat.le_of_ble_eq_true rfl, Nat.le_of_ble_eq_true rfl⟩ ?_
                refine G_if_ne (pc := 113) 128 dX7_gives_113 (by decide) (by first | exact zWV.R (by assumption) _ _ | exact ⟨by omega, by omega⟩ | assumption) (fun c113 => ?_) (fun c113 => ?_)
                · refine G_iinc_e (pc := 128) 4 (fun zw => [(4, .int (zI zw)), (0, .ref (ad (200, 0, 0, 0))), (1, .int (zI g)), (2, .int (zI p)), (3, .ref (ad (203, Q 4 g 0, p, 0)))]) dX7_gives_128 rfl (by decide) (fun _ => rfl) (fun v128 e128 => ?_)
                  refine G_goto (pc := 131) 82 dX7_gives_131 (by decide) ?_
                  refine G_perm (lv' := [(0, .ref (ad (200, 0, 0, 0))), (1, .int (zI g)), (2, .int (zI p)), (3, .ref (ad (203, Q 4 g 0, p, 0))), (4, .int (zI v128))]) [1, 2, 3, 4, 0] rfl ?_
                  exact ih82 v128  ⟨by omega, by rw [e128, ← hi82.2]; exact (fi_miss (a := o2) (n := zse Q V (Q 4 g 0) p) (by omega) (fun h => by obtain ⟨h1, h2, h3⟩ := h; omega)).symm⟩ (by omega)
                · refine G_aload_n (pc := 116) 3 3 dX7_gives_116 rfl rfl ?_
                  refine G_iload (pc := 117) 4 dX7_gives_117 rfl ?_
                  refine G_aldA (pc := 119) (t := 5) rfl dX7_gives_119 (pg_203 (by first | assumption | omega | exact ⟨by omega, by omega⟩ | exact ⟨⟨by omega, by omega⟩, by omega⟩ | exact zWV.R (by assumption) _ _)) ⟨by omega, by omega, by omega, by omega⟩ rfl ?_
                  refine G_iconst (pc := 120) dX7_gives_120 ?_
                  refine G_ialdV (pc := 121) (V (14, (Q 4 g 0), p, o2) 5) dX7_gives_121 (pg_204 (by first | assumption | omega | exact ⟨by omega, by omega⟩ | exact ⟨⟨by omega, by omega⟩, by omega⟩ | exact zWV.R (by assumption) _ _)) ⟨by omega, by omega, by omega, by omega⟩ zpr_4 ?_
                  refine G_if_ne (pc := 122) 128 dX7_gives_122 (by decide) (by first | exact zWV.R (by assumption) _ _ | exact ⟨by omega, by omega⟩ | assumption) (fun c122 => ?_) (fun c122 => ?_)
                  · refine G_iinc_e (pc := 128) 4 (fun zw => [(4, .int (zI zw)), (0, .ref (ad (200, 0, 0, 0))), (1, .int (zI g)), (2, .int (zI p)), (3, .ref (ad (203, Q 4 g 0, p, 0)))]) dX7_gives_128 rfl (by decide) (fun _ => rfl) (fun v128 e128 => ?_)
                    refine G_goto (pc := 131) 82 dX7_gives_131 (by decide) ?_
                    refine G_perm (lv' := [(0, .ref (ad (200, 0, 0, 0))), (1, .int (zI g)), (2, .int (zI p)), (3, .ref (ad (203, Q 4 g 0, p, 0))), (4, .int (zI v128))]) [1, 2, 3, 4, 0] rfl ?_
                    exact ih82 v128  ⟨by omega, by rw [e128, ← hi82.2]; exact (fi_miss (a := o2) (n := zse Q V (Q 4 g 0) p) (by omega) (fun h => by obtain ⟨h1, h2, h3⟩ := h; omega)).symm⟩ (by omega)
                  · refine G_iload (pc := 125) 4 dX7_gives_125 rfl ?_
                    exact G_iret_d (pc := 127) hF dX7_gives_127 ⟨Nat.le_of_ble_eq_true rfl, Nat.le_of_ble_eq_true rfl⟩ (by unfold zno; rw [if_neg (by rw [← hi24.2, fi_end (by omega)]; omega), ← hi82.2, fi_hit (a := o2) (n := zse Q V (Q 4 g 0) p) (by omega) ⟨by omega, by omega, by omega⟩, if_pos (by omega)])
        refine G_perm (lv' := [(0, .ref (ad (200, 0, 0, 0))), (1, .int (zI g)), (2, .int (zI p)), (3, .ref (ad (203, Q 4 g 0, p, 0))), (4, .int (zI v80))]) [1, 2, 3, 4, 0] rfl ?_
        exact L82 _ v80  ⟨by omega, by rw [e80]⟩ (Nat.lt_succ_self _)
      · refine G_aload_n (pc := 31) 3 3 dX7_gives_31 rfl rfl ?_
        refine G_iload (pc := 32) 4 dX7_gives_32 rfl ?_
        refine G_aldA (pc := 34) (t := 5) rfl dX7_gives_34 (pg_203 (by first | assumption | omega | exact ⟨by omega, by omega⟩ | exact ⟨⟨by omega, by omega⟩, by omega⟩ | exact zWV.R (by assumption) _ _)) ⟨by omega, by omega, by omega, by omega⟩ rfl ?_
        refine G_iconst (pc := 35) dX7_gives_35 ?_
        refine G_iconst (pc := 36) dX7_gives_36 ?_
        refine G_iload_n (pc := 37) 1 1 dX7_gives_37 rfl rfl ?_
        refine G_imul (pc := 38) dX7_gives_38 ?_
        refine G_iadd (pc := 39) dX7_gives_39 ?_
        refine G_ialdV (pc := 40) (V (19, g, p, 0) o) dX7_gives_40 (pg_204 (by first | assumption | omega | exact ⟨by omega, by omega⟩ | exact ⟨⟨by omega, by omega⟩, by omega⟩ | exact zWV.R (by assumption) _ _)) ⟨by omega, by omega, by omega, by omega⟩ (zpr_5 (by first | assumption | omega | exact ⟨by omega, by omega⟩ | exact ⟨⟨by omega, by omega⟩, by omega⟩ | exact zWV.R (by assumption) _ _) rfl) ?_
        refine G_iconst (pc := 41) dX7_gives_41 ?_
        refine G_icmp_ne (pc := 42) 66 dX7_gives_42 (by decide) (by first | exact zWV.R (by assumption) _ _ | exact ⟨by omega, by omega⟩ | assumption) (by first | exact zWV.R (by assumption) _ _ | exact ⟨by omega, by omega⟩ | assumption) (fun c42 => ?_) (fun c42 => ?_)
        · refine G_iinc_e (pc := 66) 4 (fun zw => [(4, .int (zI zw)), (0, .ref (ad (200, 0, 0, 0))), (1, .int (zI g)), (2, .int (zI p)), (3, .ref (ad (203, Q 4 g 0, p, 0)))]) dX7_gives_66 rfl (by decide) (fun _ => rfl) (fun v66 e66 => ?_)
          refine G_goto (pc := 69) 24 dX7_gives_69 (by decide) ?_
          refine G_perm (lv' := [(0, .ref (ad (200, 0, 0, 0))), (1, .int (zI g)), (2, .int (zI p)), (3, .ref (ad (203, Q 4 g 0, p, 0))), (4, .int (zI v66))]) [1, 2, 3, 4, 0] rfl ?_
          exact ih24 v66  ⟨by omega, by rw [e66, ← hi24.2]; exact (fi_miss (a := o) (n := Q 2 (Q 4 g 0) p) (by omega) (by omega)).symm⟩ (by omega)
        · refine G_aload_n (pc := 45) 3 3 dX7_gives_45 rfl rfl ?_
          refine G_iload (pc := 46) 4 dX7_gives_46 rfl ?_
          refine G_aldA (pc := 48) (t := 5) rfl dX7_gives_48 (pg_203 (by first | assumption | omega | exact ⟨by omega, by omega⟩ | exact ⟨⟨by omega, by omega⟩, by omega⟩ | exact zWV.R (by assumption) _ _)) ⟨by omega, by omega, by omega, by omega⟩ rfl ?_
          refine G_bipush (pc := 49) dX7_gives_49 (by decide) ?_
          refine G_iconst (pc := 51) dX7_gives_51 ?_
          refine G_iload_n (pc := 52) 1 1 dX7_gives_52 rfl rfl ?_
          refine G_imul (pc := 53) dX7_gives_53 ?_
          refine G_iadd (pc := 54) dX7_gives_54 ?_
          refine G_ialdV (pc := 55) (V (21, g, p, 0) o) dX7_gives_55 (pg_204 (by first | assumption | omega | exact ⟨by omega, by omega⟩ | exact ⟨⟨by omega, by omega⟩, by omega⟩ | exact zWV.R (by assumption) _ _)) ⟨by omega, by omega, by omega, by omega⟩ (zpr_7 (by first | assumption | omega | exact ⟨by omega, by omega⟩ | exact ⟨⟨by omega, by omega⟩, by omega⟩ | exact zWV.R (by assumption) _ _) rfl) ?_
          refine G_aload_n (pc := 56) 0 0 dX7_gives_56 rfl rfl ?_
          refine G_getf (pc := 57) fl_X7_119 dX7_gives_57 pg_200 rfl ?_
          refine G_icmp_gt (pc := 60) 66 dX7_gives_60 (by decide) (by first | exact zWV.R (by assumption) _ _ | exact ⟨by omega, by omega⟩ | assumption) (by first | exact zWV.R (by assumption) _ _ | exact ⟨by omega, by omega⟩ | assumption) (fun c60 => ?_) (fun c60 => ?_)
          · refine G_iinc_e (pc := 66) 4 (fun zw => [(4, .int (zI zw)), (0, .ref (ad (200, 0, 0, 0))), (1, .int (zI g)), (2, .int (zI p)), (3, .ref (ad (203, Q 4 g 0, p, 0)))]) dX7_gives_66 rfl (by decide) (fun _ => rfl) (fun v66 e66 => ?_)
            refine G_goto (pc := 69) 24 dX7_gives_69 (by decide) ?_
            refine G_perm (lv' := [(0, .ref (ad (200, 0, 0, 0))), (1, .int (zI g)), (2, .int (zI p)), (3, .ref (ad (203, Q 4 g 0, p, 0))), (4, .int (zI v66))]) [1, 2, 3, 4, 0] rfl ?_
            exact ih24 v66  ⟨by omega, by rw [e66, ← hi24.2]; exact (fi_miss (a := o) (n := Q 2 (Q 4 g 0) p) (by omega) (by omega)).symm⟩ (by omega)
          · refine G_iload (pc := 63) 4 dX7_gives_63 rfl ?_
            exact G_iret_d (pc := 65) hF dX7_gives_65 ⟨Nat.le_of_ble_eq_true rfl, Nat.le_of_ble_eq_true rfl⟩ (by unfold zno; rw [← hi24.2, fi_hit (a := o) (n := Q 2 (Q 4 g 0) p) (by omega) ⟨by omega, by omega⟩, if_pos (by omega)])
  refine G_perm (lv' := [(0, .ref (ad (200, 0, 0, 0))), (1, .int (zI g)), (2, .int (zI p)), (3, .ref (ad (203, Q 4 g 0, p, 0))), (4, .int (zI v22))]) [2, 3, 4, 1, 0] rfl ?_
  exact L24 _ v22  ⟨by omega, by rw [e22]⟩ (Nat.lt_succ_self _)
set_option maxHeartbeats 4000000 in
set_option maxRecDepth 100000 in
theorem c_X7_would {l : Launch} {Δ : zDl} {ad : zK → Nat} {Q : zP} {V : zS} {X : zMem} {g r : Int} (hP : zWP Q) (hV : zWV Q V) (hg : 0 ≤ g ∧ g < Q 3 0 0) (hr : 0 ≤ r ∧ r < 6) : zMn l Δ yX7_would cX7_would 4 (some .int) 4 0 0 [.ref (ad (200, 0, 0, 0)), .int (zI g), .int (zI r)] ad (pm Δ ad Q V X) (zD (some (.int (zI (if V (17, g, 0, 0) r = 0 then -1 else znp Q V g r (V (0, 0, 0, 0) 6))))) ad (pm Δ ad Q V X)) := by
  refine zMn_of (by decide) (Nat.le_of_ble_eq_true rfl) (fun Γ hl hΔ hF => ?_)
  subst hl hΔ
  show G Γ _ _ _ RX7 _ _ _ _ _ [(0, .ref (ad (200, 0, 0, 0))), (1, .int (zI g)), (2, .int (zI r))] []
  have hG := hP.g hg
  have hN := hP.t hG
  have hq := hP.n
  have hzl := fun p (hp : 0 ≤ p ∧ p < Q 1 (Q 4 g 0) 0) => zno_le hP hV.W hg hp (x := V (0, 0, 0, 0) 6)
  refine G_iconst (pc := 0) dX7_would_0 ?_
  refine G_istore_ne (pc := 1) 3 (fun zw => [(3, .int (zI zw)), (0, .ref (ad (200, 0, 0, 0))), (1, .int (zI g)), (2, .int (zI r))]) dX7_would_1 rfl (by decide) (fun _ => rfl) (fun v1 e1 => ?_)
  have L2 : ∀ (n : Nat) (p : Int), ((0 ≤ p ∧ p ≤ Q 1 (Q 4 g 0) 0) ∧ fi (fun p => V (18, g, p, 0) 4 = r ∧ ¬ zno Q V g p (V (0, 0, 0, 0) 6) = -1) p (Q 1 (Q 4 g 0) 0) = fi (fun p => V (18, g, p, 0) 4 = r ∧ ¬ zno Q V g p (V (0, 0, 0, 0) 6) = -1) 0 (Q 1 (Q 4 g 0) 0)) → (Q 1 (Q 4 g 0) 0 - p).toNat < n → G Γ (zRm 4 0 0) cX7_would 4 RX7 ad (pm (z_d Γ) ad Q V X) 0 0 2 [(0, .ref (ad (200, 0, 0, 0))), (1, .int (zI g)), (2, .int (zI r)), (3, .int (zI p))] [] := by
    intro n
    induction n with
    | zero => intro p _ hn; omega
    | succ n ih2 =>
      intro p hi2 hn2
      refine G_iload_n (pc := 2) 3 3 dX7_would_2 rfl rfl ?_
      refine G_aload_n (pc := 3) 0 0 dX7_would_3 rfl rfl ?_
      refine G_getf (pc := 4) fl_X7_25 dX7_would_4 pg_200 rfl ?_
      refine G_aload_n (pc := 7) 0 0 dX7_would_7 rfl rfl ?_
      refine G_getf (pc := 8) fl_X7_51 dX7_would_8 pg_200 rfl ?_
      refine G_iload_n (pc := 11) 1 1 dX7_would_11 rfl rfl ?_
      refine G_ialdV (pc := 12) (Q 4 g 0) dX7_would_12 pg_213 ⟨by omega, by omega, by omega, by omega⟩ (hV.of (by first | assumption | omega | exact ⟨by omega, by omega⟩ | exact ⟨⟨by omega, by omega⟩, by omega⟩ | exact zWV.R (by assumption) _ _)) ?_
      refine G_aldA (pc := 13) (t := 7) rfl dX7_would_13 pg_201 ⟨by omega, by omega, by omega, by omega⟩ rfl ?_
      refine G_alenV (pc := 14) (t := 6) (Q 1 (Q 4 g 0) 0) rfl dX7_would_14 (pg_202 (by first | assumption | omega | exact ⟨by omega, by omega⟩ | exact ⟨⟨by omega, by omega⟩, by omega⟩ | exact zWV.R (by assumption) _ _)) (by omega) ?_
      refine G_icmp_ge (pc := 15) 68 dX7_would_15 (by decide) (by first | exact zWV.R (by assumption) _ _ | exact ⟨by omega, by omega⟩ | assumption) (by first | exact zWV.R (by assumption) _ _ | exact ⟨by omega, by omega⟩ | assumption) (fun c15 => ?_) (fun c15 => ?_)
      · refine G_iconst (pc := 68) dX7_would_68 ?_
        exact G_iret_d (pc := 69) hF dX7_would_69 ⟨Nat.le_of_ble_eq_true rfl, Nat.le_of_ble_eq_true rfl⟩ (if hz : V (17, g, 0, 0) r = 0 then (if_pos hz).symm else by rw [if_neg hz]; first | (exfalso; omega) | (unfold znp; rw [← hi2.2, fi_end (by omega), if_neg (by omega)]))
      · refine G_aload_n (pc := 18) 0 0 dX7_would_18 rfl rfl ?_
        refine G_getf (pc := 19) fl_X7_65 dX7_would_19 pg_200 rfl ?_
        refine G_iload_n (pc := 22) 1 1 dX7_would_22 rfl rfl ?_
        refine G_aldA (pc := 23) (t := 8) rfl dX7_would_23 pg_220 ⟨by omega, by omega, by omega, by omega⟩ rfl ?_
        refine G_iload_n (pc := 24) 2 2 dX7_would_24 rfl rfl ?_
        refine G_zaldV (pc := 25) (V (17, g, 0, 0) r) dX7_would_25 (pg_221 (by first | assumption | omega | exact ⟨by omega, by omega⟩ | exact ⟨⟨by omega, by omega⟩, by omega⟩ | exact zWV.R (by assumption) _ _)) ⟨by omega, by omega, by omega, by omega⟩ rfl ?_
        refine G_if_eq (pc := 26) 68 dX7_would_26 (by decide) (by first | exact zWV.R (by assumption) _ _ | exact ⟨by omega, by omega⟩ | assumption) (fun c26 => ?_) (fun c26 => ?_)
        · refine G_iconst (pc := 68) dX7_would_68 ?_
          exact G_iret_d (pc := 69) hF dX7_would_69 ⟨Nat.le_of_ble_eq_true rfl, Nat.le_of_ble_eq_true rfl⟩ (if hz : V (17, g, 0, 0) r = 0 then (if_pos hz).symm else by rw [if_neg hz]; first | (exfalso; omega) | (unfold znp; rw [← hi2.2, fi_end (by omega), if_neg (by omega)]))
        · refine G_aload_n (pc := 29) 0 0 dX7_would_29 rfl rfl ?_
          refine G_getf (pc := 30) fl_X7_60 dX7_would_30 pg_200 rfl ?_
          refine G_iload_n (pc := 33) 1 1 dX7_would_33 rfl rfl ?_
          refine G_aldA (pc := 34) (t := 5) rfl dX7_would_34 pg_218 ⟨by omega, by omega, by omega, by omega⟩ rfl ?_
          refine G_iload_n (pc := 35) 3 3 dX7_would_35 rfl rfl ?_
          refine G_ialdV (pc := 36) (V (18, g, p, 0) 4) dX7_would_36 (pg_219 (by first | assumption | omega | exact ⟨by omega, by omega⟩ | exact ⟨⟨by omega, by omega⟩, by omega⟩ | exact zWV.R (by assumption) _ _)) ⟨by omega, by omega, by omega, by omega⟩ rfl ?_
          refine G_iload_n (pc := 37) 2 2 dX7_would_37 rfl rfl ?_
          refine G_icmp_ne (pc := 38) 62 dX7_would_38 (by decide) (by first | exact zWV.R (by assumption) _ _ | exact ⟨by omega, by omega⟩ | assumption) (by first | exact zWV.R (by assumption) _ _ | exact ⟨by omega, by omega⟩ | assumption) (fun c38 => ?_) (fun c38 => ?_)
          · refine G_iinc_e (pc := 62) 3 (fun zw => [(3, .int (zI zw)), (0, .ref (ad (200, 0, 0, 0))), (1, .int (zI g)), (2, .int (zI r))]) dX7_would_62 rfl (by decide) (fun _ => rfl) (fun v62 e62 => ?_)
            refine G_goto (pc := 65) 2 dX7_would_65 (by decide) ?_
            refine G_perm (lv' := [(0, .ref (ad (200, 0, 0, 0))), (1, .int (zI g)), (2, .int (zI r)), (3, .int (zI v62))]) [1, 2, 3, 0] rfl ?_
            exact ih2 v62  ⟨by omega, by rw [e62, ← hi2.2]; exact (fi_miss (a := p) (n := Q 1 (Q 4 g 0) 0) (by omega) (fun h => by have := hzl p ⟨by omega, by omega⟩; omega)).symm⟩ (by omega)
          · refine G_aload_n (pc := 41) 0 0 dX7_would_41 rfl rfl ?_
            refine G_iload_n (pc := 42) 1 1 dX7_would_42 rfl rfl ?_
            refine G_iload_n (pc := 43) 3 3 dX7_would_43 rfl rfl ?_
            have hp : 0 ≤ p ∧ p < Q 1 (Q 4 g 0) 0 := ⟨by omega, by omega⟩
            have hzp := hzl p hp
            have hMp := hP.m hG hp
            refine G_callVd (pc := 44) gk_X7_196 dX7_would_44 pg_200 rfl (c_X7_gives (by first | assumption | omega | exact ⟨by omega, by omega⟩ | exact ⟨⟨by omega, by omega⟩, by omega⟩ | exact zWV.R (by assumption) _ _) (by first | assumption | omega | exact ⟨by omega, by omega⟩ | exact ⟨⟨by omega, by omega⟩, by omega⟩ | exact zWV.R (by assumption) _ _) (by first | assumption | omega | exact ⟨by omega, by omega⟩ | exact ⟨⟨by omega, by omega⟩, by omega⟩ | exact zWV.R (by assumption) _ _) (by first | assumption | omega | exact ⟨by omega, by omega⟩ | exact ⟨⟨by omega, by omega⟩, by omega⟩ | exact zWV.R (by assumption) _ _)) rfl rfl (Nat.le_of_ble_eq_true rfl) ⟨⟨Nat.le_of_ble_eq_true rfl, Nat.le_of_ble_eq_true rfl⟩, Nat.le_of_ble_eq_true rfl, Nat.le_of_ble_eq_true rfl⟩ ?_
            refine G_if_lt (pc := 47) 62 dX7_would_47 (by decide) (by first | exact zWV.R (by assumption) _ _ | exact ⟨by omega, by omega⟩ | assumption) (fun c47 => ?_) (fun c47 => ?_)
            · refine G_iinc_e (pc := 62) 3 (fun zw => [(3, .int (zI zw)), (0, .ref (ad (200, 0, 0, 0))), (1, .int (zI g)), (2, .int (zI r))]) dX7_would_62 rfl (by decide) (fun _ => rfl) (fun v62 e62 => ?_)
              refine G_goto (pc := 65) 2 dX7_would_65 (by decide) ?_
              refine G_perm (lv' := [(0, .ref (ad (200, 0, 0, 0))), (1, .int (zI g)), (2, .int (zI r)), (3, .int (zI v62))]) [1, 2, 3, 0] rfl ?_
              exact ih2 v62  ⟨by omega, by rw [e62, ← hi2.2]; exact (fi_miss (a := p) (n := Q 1 (Q 4 g 0) 0) (by omega) (fun h => by have := hzl p ⟨by omega, by omega⟩; omega)).symm⟩ (by omega)
            · refine G_bipush (pc := 50) dX7_would_50 (by decide) ?_
              refine G_iload_n (pc := 52) 3 3 dX7_would_52 rfl rfl ?_
              refine G_imul (pc := 53) dX7_would_53 ?_
              refine G_aload_n (pc := 54) 0 0 dX7_would_54 rfl rfl ?_
              refine G_iload_n (pc := 55) 1 1 dX7_would_55 rfl rfl ?_
              refine G_iload_n (pc := 56) 3 3 dX7_would_56 rfl rfl ?_
              have hp : 0 ≤ p ∧ p < Q 1 (Q 4 g 0) 0 := ⟨by omega, by omega⟩
              refine G_callVd (pc := 57) gk_X7_196 dX7_would_57 pg_200 rfl (c_X7_gives (by first | assumption | omega | exact ⟨by omega, by omega⟩ | exact ⟨⟨by omega, by omega⟩, by omega⟩ | exact zWV.R (by assumption) _ _) (by first | assumption | omega | exact ⟨by omega, by omega⟩ | exact ⟨⟨by omega, by omega⟩, by omega⟩ | exact zWV.R (by assumption) _ _) (by first | assumption | omega | exact ⟨by omega, by omega⟩ | exact ⟨⟨by omega, by omega⟩, by omega⟩ | exact zWV.R (by assumption) _ _) (by first | assumption | omega | exact ⟨by omega, by omega⟩ | exact ⟨⟨by omega, by omega⟩, by omega⟩ | exact zWV.R (by assumption) _ _)) rfl rfl (Nat.le_of_ble_eq_true rfl) ⟨⟨Nat.le_of_ble_eq_true rfl, Nat.le_of_ble_eq_true rfl⟩, Nat.le_of_ble_eq_true rfl, Nat.le_of_ble_eq_true rfl⟩ ?_
              refine G_iadd (pc := 60) dX7_would_60 ?_
              exact G_iret_d (pc := 61) hF dX7_would_61 ⟨Nat.le_of_ble_eq_true rfl, Nat.le_of_ble_eq_true rfl⟩ (by rw [if_neg (by omega)]; unfold znp; rw [← hi2.2, fi_hit (a := p) (n := Q 1 (Q 4 g 0) 0) (by omega) ⟨by omega, by omega⟩, if_pos (by omega)])
  refine G_perm (lv' := [(0, .ref (ad (200, 0, 0, 0))), (1, .int (zI g)), (2, .int (zI r)), (3, .int (zI v1))]) [1, 2, 3, 0] rfl ?_
  exact L2 _ v1  ⟨by omega, by rw [e1]⟩ (Nat.lt_succ_self _)
set_option maxHeartbeats 4000000 in
set_option maxRecDepth 100000 in
theorem c_X7_settle {l : Launch} {Δ : zDl} {ad : zK → Nat} {Q : zP} {V : zS} {X : zMem}  (hP : zWP Q) (hV : zWV Q V) (hno : ∀ g p o, inG Q g → inQ Q g p → inM Q (Q 4 g 0) p o → ¬ (¬ V (14, Q 4 g 0, p, o) 5 = 0 ∧ ju V g p o)) : zMn l Δ yX7_settle cX7_settle 4 none 3 0 0 [.ref (ad (200, 0, 0, 0))] ad (pm Δ ad Q V X) (zD none ad (pm Δ ad Q (zkA Q V) X)) := by
  refine zMn_of (by decide) (Nat.le_of_ble_eq_true rfl) (fun Γ hl hΔ hF => ?_)
  subst hl hΔ
  show G Γ _ _ _ RX7 _ _ _ _ _ [(0, .ref (ad (200, 0, 0, 0)))] []
  have hq := hP.n
  refine G_iconst (pc := 0) dX7_settle_0 ?_
  refine G_istore_ne (pc := 1) 1 (fun zw => [(1, .int (zI zw)), (0, .ref (ad (200, 0, 0, 0)))]) dX7_settle_1 rfl (by decide) (fun _ => rfl) (fun v1 e1 => ?_)
  have L2 : ∀ (n : Nat) (g : Int) (T : zS), (((0 ≤ g ∧ g ≤ Q 3 0 0) ∧ lp (zkG Q) g (Q 3 0 0) T = zkA Q V ∧ zWV Q T) ∧ zSet Q T) → (Q 3 0 0 - g).toNat < n → G Γ (zRm 3 0 0) cX7_settle 4 RX7 ad (pm (z_d Γ) ad Q T X) 0 0 2 [(0, .ref (ad (200, 0, 0, 0))), (1, .int (zI g))] [] := by
    intro n
    induction n with
    | zero => intro g T _ hn; omega
    | succ n ih2 =>
      intro g T hi2 hn2
      obtain ⟨⟨hg0, hlg, hTV⟩, hTs⟩ := hi2
      refine G_iload_n (pc := 2) 1 1 dX7_settle_2 rfl rfl ?_
      refine G_aload_n (pc := 3) 0 0 dX7_settle_3 rfl rfl ?_
      refine G_getfV (pc := 4) (w := Q 3 0 0) fl_X7_105 dX7_settle_4 pg_200 rfl (congrArg (fun z => Value.int (zI z)) hTV.gn) ?_
      refine G_icmp_ge (pc := 7) 135 dX7_settle_7 (by decide) (by first | exact zWV.R (by assumption) _ _ | exact ⟨by omega, by omega⟩ | assumption) (by first | exact zWV.R (by assumption) _ _ | exact ⟨by omega, by omega⟩ | assumption) (fun c7 => ?_) (fun c7 => ?_)
      · exact G_vret_d (pc := 135) hF dX7_settle_135 ⟨Nat.le_of_ble_eq_true rfl, Nat.le_of_ble_eq_true rfl⟩ (by rw [← hlg, lp_end (by omega)])
      · refine G_iconst (pc := 10) dX7_settle_10 ?_
        refine G_istore_ne (pc := 11) 2 (fun zw => [(2, .int (zI zw)), (0, .ref (ad (200, 0, 0, 0))), (1, .int (zI g))]) dX7_settle_11 rfl (by decide) (fun _ => rfl) (fun v11 e11 => ?_)
        have hg : 0 ≤ g ∧ g < Q 3 0 0 := ⟨by omega, by omega⟩
        have hG := hP.g hg
        have hN := hP.t hG
        have L12 : ∀ (n : Nat) (p : Int) (T2 : zS), (((0 ≤ p ∧ p ≤ Q 1 (Q 4 g 0) 0) ∧ lp (zkf Q g) p (Q 1 (Q 4 g 0) 0) T2 = lp (zkf Q g) 0 (Q 1 (Q 4 g 0) 0) T ∧ zWV Q T2) ∧ zSet Q T2) → (Q 1 (Q 4 g 0) 0 - p).toNat < n → G Γ (zRm 3 0 0) cX7_settle 4 RX7 ad (pm (z_d Γ) ad Q T2 X) 0 0 12 [(0, .ref (ad (200, 0, 0, 0))), (1, .int (zI g)), (2, .int (zI p))] [] := by
          intro n
          induction n with
          | zero => intro p T2 _ hn; omega
          | succ n ih12 =>
            intro p T2 hi12 hn12
            obtain ⟨⟨hp0, hlp, hTV2⟩, hTs2⟩ := hi12
            refine G_iload_n (pc := 12) 2 2 dX7_settle_12 rfl rfl ?_
            refine G_aload_n (pc := 13) 0 0 dX7_settle_13 rfl rfl ?_
            refine G_getf (pc := 14) fl_X7_25 dX7_settle_14 pg_200 rfl ?_
            refine G_aload_n (pc := 17) 0 0 dX7_settle_17 rfl rfl ?_
            refine G_getf (pc := 18) fl_X7_51 dX7_settle_18 pg_200 rfl ?_
            refine G_iload_n (pc := 21) 1 1 dX7_settle_21 rfl rfl ?_
            refine G_ialdV (pc := 22) (Q 4 g 0) dX7_settle_22 pg_213 ⟨by omega, by omega, by omega, by omega⟩ (hTV2.of (by first | assumption | omega | exact ⟨by omega, by omega⟩ | exact ⟨⟨by omega, by omega⟩, by omega⟩ | exact zWV.R (by assumption) _ _)) ?_
            refine G_aldA (pc := 23) (t := 7) rfl dX7_settle_23 pg_201 ⟨by omega, by omega, by omega, by omega⟩ rfl ?_
            refine G_alenV (pc := 24) (t := 6) (Q 1 (Q 4 g 0) 0) rfl dX7_settle_24 (pg_202 (by first | assumption | omega | exact ⟨by omega, by omega⟩ | exact ⟨⟨by omega, by omega⟩, by omega⟩ | exact zWV.R (by assumption) _ _)) (by omega) ?_
            refine G_icmp_ge (pc := 25) 129 dX7_settle_25 (by decide) (by first | exact zWV.R (by assumption) _ _ | exact ⟨by omega, by omega⟩ | assumption) (by first | exact zWV.R (by assumption) _ _ | exact ⟨by omega, by omega⟩ | assumption) (fun c25 => ?_) (fun c25 => ?_)
            · refine G_iinc_e (pc := 129) 1 (fun zw => [(1, .int (zI zw)), (0, .ref (ad (200, 0, 0, 0))), (2, .int (zI p))]) dX7_settle_129 rfl (by decide) (fun _ => rfl) (fun v129 e129 => ?_)
              refine G_goto (pc := 132) 2 dX7_settle_132 (by decide) ?_
              refine G_perm (lv' := [(0, .ref (ad (200, 0, 0, 0))), (1, .int (zI v129))]) [1, 0] rfl ?_
              exact ih2 v129 T2 ⟨⟨by omega, by rw [e129, ← hlg, lp_step (a := g) (n := Q 3 0 0) (by omega)]; unfold zkG; rw [← hlp, lp_end (a := p) (by omega)], hTV2⟩, hTs2⟩ (by omega)
            · refine G_aload_n (pc := 28) 0 0 dX7_settle_28 rfl rfl ?_
              refine G_getf (pc := 29) fl_X7_25 dX7_settle_29 pg_200 rfl ?_
              refine G_aload_n (pc := 32) 0 0 dX7_settle_32 rfl rfl ?_
              refine G_getf (pc := 33) fl_X7_51 dX7_settle_33 pg_200 rfl ?_
              refine G_iload_n (pc := 36) 1 1 dX7_settle_36 rfl rfl ?_
              refine G_ialdV (pc := 37) (Q 4 g 0) dX7_settle_37 pg_213 ⟨by omega, by omega, by omega, by omega⟩ (hTV2.of (by first | assumption | omega | exact ⟨by omega, by omega⟩ | exact ⟨⟨by omega, by omega⟩, by omega⟩ | exact zWV.R (by assumption) _ _)) ?_
              refine G_aldA (pc := 38) (t := 7) rfl dX7_settle_38 pg_201 ⟨by omega, by omega, by omega, by omega⟩ rfl ?_
              refine G_iload_n (pc := 39) 2 2 dX7_settle_39 rfl rfl ?_
              refine G_aldA (pc := 40) (t := 6) rfl dX7_settle_40 (pg_202 (by first | assumption | omega | exact ⟨by omega, by omega⟩ | exact ⟨⟨by omega, by omega⟩, by omega⟩ | exact zWV.R (by assumption) _ _)) ⟨by omega, by omega, by omega, by omega⟩ rfl ?_
              refine G_astore_n (pc := 41) 3 [(3, .ref (ad (203, Q 4 g 0, p, 0))), (0, .ref (ad (200, 0, 0, 0))), (1, .int (zI g)), (2, .int (zI p))] dX7_settle_41 rfl (by decide) rfl ?_
              have hp : 0 ≤ p ∧ p < Q 1 (Q 4 g 0) 0 := ⟨by omega, by omega⟩
              have hM := hP.m hG hp
              have hW2 := hTV2.W.m hg hp
              have L42 : ∀ (n : Nat) (T3 : zS), ((zmk Q g p (Q 2 (Q 4 g 0) p - T3 (18, g, p, 0) 5).toNat T3 = zmk Q g p (Q 2 (Q 4 g 0) p - T2 (18, g, p, 0) 5).toNat T2 ∧ zWV Q T3) ∧ ∀ k f, ¬ (k = (18, g, p, 0) ∧ f = 5) → T3 k f = T2 k f) → (Q 2 (Q 4 g 0) p - T3 (18, g, p, 0) 5).toNat < n → G Γ (zRm 3 0 0) cX7_settle 4 RX7 ad (pm (z_d Γ) ad Q T3 X) 0 0 42 [(0, .ref (ad (200, 0, 0, 0))), (1, .int (zI g)), (2, .int (zI p)), (3, .ref (ad (203, Q 4 g 0, p, 0)))] [] := by
                intro n
                induction n with
                | zero => intro  T3 _ hn; omega
                | succ n ih42 =>
                  intro  T3 hi42 hn42
                  obtain ⟨⟨hq3, hTV3⟩, hfr3⟩ := hi42
                  have hW3 := hTV3.W.m hg hp
                  refine G_aload_n (pc := 42) 0 0 dX7_settle_42 rfl rfl ?_
                  refine G_getf (pc := 43) fl_X7_54 dX7_settle_43 pg_200 rfl ?_
                  refine G_iload_n (pc := 46) 1 1 dX7_settle_46 rfl rfl ?_
                  refine G_aldA (pc := 47) (t := 5) rfl dX7_settle_47 pg_214 ⟨by omega, by omega, by omega, by omega⟩ rfl ?_
                  refine G_iload_n (pc := 48) 2 2 dX7_settle_48 rfl rfl ?_
                  refine G_ialdV (pc := 49) (T3 (18, g, p, 0) 5) dX7_settle_49 (pg_215 (by first | assumption | omega | exact ⟨by omega, by omega⟩ | exact ⟨⟨by omega, by omega⟩, by omega⟩ | exact zWV.R (by assumption) _ _)) ⟨by omega, by omega, by omega, by omega⟩ rfl ?_
                  refine G_aload_n (pc := 50) 3 3 dX7_settle_50 rfl rfl ?_
                  refine G_alenV (pc := 51) (t := 5) (Q 2 (Q 4 g 0) p) rfl dX7_settle_51 (pg_203 (by first | assumption | omega | exact ⟨by omega, by omega⟩ | exact ⟨⟨by omega, by omega⟩, by omega⟩ | exact zWV.R (by assumption) _ _)) (by omega) ?_
                  refine G_icmp_ge (pc := 52) 88 dX7_settle_52 (by decide) (by first | exact zWV.R (by assumption) _ _ | exact ⟨by omega, by omega⟩ | assumption) (by first | exact zWV.R (by assumption) _ _ | exact ⟨by omega, by omega⟩ | assumption) (fun c52 => ?_) (fun c52 => ?_)
                  · have hst : ¬ zmc Q g p T3 := fun q => by first | exact c70 q.2 | (have := q.1; omega)
                    have hz3 : zmk Q g p (Q 2 (Q 4 g 0) p - T2 (18, g, p, 0) 5).toNat T2 = T3 := by rw [← hq3, zmk_stop _ hst]
                    have hzu : zku Q T2 g p = zst T3 (18, g, p, 0) 6 (max (T3 (18, g, p, 0) 6) (T3 (18, g, p, 0) 5)) := by rw [zku_no (fun o ho => hTs2 g p o hg hp ho), hz3]
                    refine G_aload_n (pc := 88) 0 0 dX7_settle_88 rfl rfl ?_
                    refine G_getf (pc := 89) fl_X7_57 dX7_settle_89 pg_200 rfl ?_
                    refine G_iload_n (pc := 92) 1 1 dX7_settle_92 rfl rfl ?_
                    refine G_aldA (pc := 93) (t := 5) rfl dX7_settle_93 pg_216 ⟨by omega, by omega, by omega, by omega⟩ rfl ?_
                    refine G_iload_n (pc := 94) 2 2 dX7_settle_94 rfl rfl ?_
                    refine G_ialdV (pc := 95) (T3 (18, g, p, 0) 6) dX7_settle_95 (pg_217 (by first | assumption | omega | exact ⟨by omega, by omega⟩ | exact ⟨⟨by omega, by omega⟩, by omega⟩ | exact zWV.R (by assumption) _ _)) ⟨by omega, by omega, by omega, by omega⟩ rfl ?_
                    refine G_aload_n (pc := 96) 0 0 dX7_settle_96 rfl rfl ?_
                    refine G_getf (pc := 97) fl_X7_54 dX7_settle_97 pg_200 rfl ?_
                    refine G_iload_n (pc := 100) 1 1 dX7_settle_100 rfl rfl ?_
                    refine G_aldA (pc := 101) (t := 5) rfl dX7_settle_101 pg_214 ⟨by omega, by omega, by omega, by omega⟩ rfl ?_
                    refine G_iload_n (pc := 102) 2 2 dX7_settle_102 rfl rfl ?_
                    refine G_ialdV (pc := 103) (T3 (18, g, p, 0) 5) dX7_settle_103 (pg_215 (by first | assumption | omega | exact ⟨by omega, by omega⟩ | exact ⟨⟨by omega, by omega⟩, by omega⟩ | exact zWV.R (by assumption) _ _)) ⟨by omega, by omega, by omega, by omega⟩ rfl ?_
                    refine G_icmp_ge (pc := 104) 123 dX7_settle_104 (by decide) (by first | exact zWV.R (by assumption) _ _ | exact ⟨by omega, by omega⟩ | assumption) (by first | exact zWV.R (by assumption) _ _ | exact ⟨by omega, by omega⟩ | assumption) (fun c104 => ?_) (fun c104 => ?_)
                    · have hzk : zku Q T2 g p = T3 := by first | (rw [hT3, hzu, show max (T3 (18, g, p, 0) 6) (T3 (18, g, p, 0) 5) = T3 (18, g, p, 0) 5 by omega]; done) | (rw [hzu]; exact zst_id (by omega))
                      refine G_iinc_e (pc := 123) 2 (fun zw => [(2, .int (zI zw)), (0, .ref (ad (200, 0, 0, 0))), (1, .int (zI g)), (3, .ref (ad (203, Q 4 g 0, p, 0)))]) dX7_settle_123 rfl (by decide) (fun _ => rfl) (fun v123 e123 => ?_)
                      refine G_goto (pc := 126) 12 dX7_settle_126 (by decide) ?_
                      refine G_perm (lv' := [(0, .ref (ad (200, 0, 0, 0))), (1, .int (zI g)), (2, .int (zI v123))]) [1, 2, 0] rfl ?_
                      exact ih12 v123 T3 ⟨⟨by omega, by rw [e123, ← hlp, lp_step (a := p) (n := Q 1 (Q 4 g 0) 0) (by omega)]; rw [show zkf Q g p T2 = T3 from hzk], by first | assumption | (rw [← hzk]; exact zku_V hP hg hp hTV2)⟩, by rw [← hzk]; exact zSet_ku hTs2⟩ (by omega)
                    · refine G_aload_n (pc := 107) 0 0 dX7_settle_107 rfl rfl ?_
                      refine G_getf (pc := 108) fl_X7_57 dX7_settle_108 pg_200 rfl ?_
                      refine G_iload_n (pc := 111) 1 1 dX7_settle_111 rfl rfl ?_
                      refine G_aldA (pc := 112) (t := 5) rfl dX7_settle_112 pg_216 ⟨by omega, by omega, by omega, by omega⟩ rfl ?_
                      refine G_iload_n (pc := 113) 2 2 dX7_settle_113 rfl rfl ?_
                      refine G_aload_n (pc := 114) 0 0 dX7_settle_114 rfl rfl ?_
                      refine G_getf (pc := 115) fl_X7_54 dX7_settle_115 pg_200 rfl ?_
                      refine G_iload_n (pc := 118) 1 1 dX7_settle_118 rfl rfl ?_
                      refine G_aldA (pc := 119) (t := 5) rfl dX7_settle_119 pg_214 ⟨by omega, by omega, by omega, by omega⟩ rfl ?_
                      refine G_iload_n (pc := 120) 2 2 dX7_settle_120 rfl rfl ?_
                      refine G_ialdV (pc := 121) (T3 (18, g, p, 0) 5) dX7_settle_121 (pg_215 (by first | assumption | omega | exact ⟨by omega, by omega⟩ | exact ⟨⟨by omega, by omega⟩, by omega⟩ | exact zWV.R (by assumption) _ _)) ⟨by omega, by omega, by omega, by omega⟩ rfl ?_
                      refine G_iast (pc := 122) dX7_settle_122 (pg_217 (by first | assumption | omega | exact ⟨by omega, by omega⟩ | exact ⟨⟨by omega, by omega⟩, by omega⟩ | exact zWV.R (by assumption) _ _)) ⟨by omega, by omega, by omega, by omega⟩ (pp_217 (by first | assumption | omega | exact ⟨by omega, by omega⟩ | exact ⟨⟨by omega, by omega⟩, by omega⟩ | exact zWV.R (by assumption) _ _)) ?_
                      refine G_nameV (fun V1_122 hV1_122 => ?_)
                      have hVV1_122 : zWV Q V1_122 := by rw [hV1_122]; exact hTV3.s18 ⟨by omega, by omega⟩ (fun _ _ _ => by omega)
                      have hzk : zku Q T2 g p = V1_122 := by first | (rw [hV1_122, hzu, show max (T3 (18, g, p, 0) 6) (T3 (18, g, p, 0) 5) = T3 (18, g, p, 0) 5 by omega]; done) | (rw [hzu]; exact zst_id (by omega))
                      refine G_iinc_e (pc := 123) 2 (fun zw => [(2, .int (zI zw)), (0, .ref (ad (200, 0, 0, 0))), (1, .int (zI g)), (3, .ref (ad (203, Q 4 g 0, p, 0)))]) dX7_settle_123 rfl (by decide) (fun _ => rfl) (fun v123 e123 => ?_)
                      refine G_goto (pc := 126) 12 dX7_settle_126 (by decide) ?_
                      refine G_perm (lv' := [(0, .ref (ad (200, 0, 0, 0))), (1, .int (zI g)), (2, .int (zI v123))]) [1, 2, 0] rfl ?_
                      exact ih12 v123 V1_122 ⟨⟨by omega, by rw [e123, ← hlp, lp_step (a := p) (n := Q 1 (Q 4 g 0) 0) (by omega)]; rw [show zkf Q g p T2 = V1_122 from hzk], by first | assumption | (rw [← hzk]; exact zku_V hP hg hp hTV2)⟩, by rw [← hzk]; exact zSet_ku hTs2⟩ (by omega)
                  · refine G_aload_n (pc := 55) 0 0 dX7_settle_55 rfl rfl ?_
                    refine G_aload_n (pc := 56) 3 3 dX7_settle_56 rfl rfl ?_
                    refine G_aload_n (pc := 57) 0 0 dX7_settle_57 rfl rfl ?_
                    refine G_getf (pc := 58) fl_X7_54 dX7_settle_58 pg_200 rfl ?_
                    refine G_iload_n (pc := 61) 1 1 dX7_settle_61 rfl rfl ?_
                    refine G_aldA (pc := 62) (t := 5) rfl dX7_settle_62 pg_214 ⟨by omega, by omega, by omega, by omega⟩ rfl ?_
                    refine G_iload_n (pc := 63) 2 2 dX7_settle_63 rfl rfl ?_
                    refine G_ialdV (pc := 64) (T3 (18, g, p, 0) 5) dX7_settle_64 (pg_215 (by first | assumption | omega | exact ⟨by omega, by omega⟩ | exact ⟨⟨by omega, by omega⟩, by omega⟩ | exact zWV.R (by assumption) _ _)) ⟨by omega, by omega, by omega, by omega⟩ rfl ?_
                    refine G_aldA (pc := 65) (t := 5) rfl dX7_settle_65 (pg_203 (by first | assumption | omega | exact ⟨by omega, by omega⟩ | exact ⟨⟨by omega, by omega⟩, by omega⟩ | exact zWV.R (by assumption) _ _)) ⟨by omega, by omega, by omega, by omega⟩ rfl ?_
                    refine G_iload_n (pc := 66) 1 1 dX7_settle_66 rfl rfl ?_
                    refine G_callVd (pc := 67) gk_X7_108 dX7_settle_67 pg_200 rfl (c_X7_isPast (by first | assumption | omega | exact ⟨by omega, by omega⟩ | exact ⟨⟨by omega, by omega⟩, by omega⟩ | exact zWV.R (by assumption) _ _) (by first | assumption | omega | exact ⟨by omega, by omega⟩ | exact ⟨⟨by omega, by omega⟩, by omega⟩ | exact zWV.R (by assumption) _ _) (by first | assumption | omega | exact ⟨by omega, by omega⟩ | exact ⟨⟨by omega, by omega⟩, by omega⟩ | exact zWV.R (by assumption) _ _) (by first | assumption | omega | exact ⟨by omega, by omega⟩ | exact ⟨⟨by omega, by omega⟩, by omega⟩ | exact zWV.R (by assumption) _ _) (by first | assumption | omega | exact ⟨by omega, by omega⟩ | exact ⟨⟨by omega, by omega⟩, by omega⟩ | exact zWV.R (by assumption) _ _)) rfl rfl (Nat.le_of_ble_eq_true rfl) ⟨⟨Nat.le_of_ble_eq_true rfl, Nat.le_of_ble_eq_true rfl⟩, Nat.le_of_ble_eq_true rfl, Nat.le_of_ble_eq_true rfl⟩ ?_
                    refine G_if_eq_b (pc := 70) 88 dX7_settle_70 (by decide) (fun c70 => ?_) (fun c70 => ?_)
                    · have hst : ¬ zmc Q g p T3 := fun q => by first | exact c70 q.2 | (have := q.1; omega)
                      have hz3 : zmk Q g p (Q 2 (Q 4 g 0) p - T2 (18, g, p, 0) 5).toNat T2 = T3 := by rw [← hq3, zmk_stop _ hst]
                      have hzu : zku Q T2 g p = zst T3 (18, g, p, 0) 6 (max (T3 (18, g, p, 0) 6) (T3 (18, g, p, 0) 5)) := by rw [zku_no (fun o ho => hTs2 g p o hg hp ho), hz3]
                      refine G_aload_n (pc := 88) 0 0 dX7_settle_88 rfl rfl ?_
                      refine G_getf (pc := 89) fl_X7_57 dX7_settle_89 pg_200 rfl ?_
                      refine G_iload_n (pc := 92) 1 1 dX7_settle_92 rfl rfl ?_
                      refine G_aldA (pc := 93) (t := 5) rfl dX7_settle_93 pg_216 ⟨by omega, by omega, by omega, by omega⟩ rfl ?_
                      refine G_iload_n (pc := 94) 2 2 dX7_settle_94 rfl rfl ?_
                      refine G_ialdV (pc := 95) (T3 (18, g, p, 0) 6) dX7_settle_95 (pg_217 (by first | assumption | omega | exact ⟨by omega, by omega⟩ | exact ⟨⟨by omega, by omega⟩, by omega⟩ | exact zWV.R (by assumption) _ _)) ⟨by omega, by omega, by omega, by omega⟩ rfl ?_
                      refine G_aload_n (pc := 96) 0 0 dX7_settle_96 rfl rfl ?_
                      refine G_getf (pc := 97) fl_X7_54 dX7_settle_97 pg_200 rfl ?_
                      refine G_iload_n (pc := 100) 1 1 dX7_settle_100 rfl rfl ?_
                      refine G_aldA (pc := 101) (t := 5) rfl dX7_settle_101 pg_214 ⟨by omega, by omega, by omega, by omega⟩ rfl ?_
                      refine G_iload_n (pc := 102) 2 2 dX7_settle_102 rfl rfl ?_
                      refine G_ialdV (pc := 103) (T3 (18, g, p, 0) 5) dX7_settle_103 (pg_215 (by first | assumption | omega | exact ⟨by omega, by omega⟩ | exact ⟨⟨by omega, by omega⟩, by omega⟩ | exact zWV.R (by assumption) _ _)) ⟨by omega, by omega, by omega, by omega⟩ rfl ?_
                      refine G_icmp_ge (pc := 104) 123 dX7_settle_104 (by decide) (by first | exact zWV.R (by assumption) _ _ | exact ⟨by omega, by omega⟩ | assumption) (by first | exact zWV.R (by assumption) _ _ | exact ⟨by omega, by omega⟩ | assumption) (fun c104 => ?_) (fun c104 => ?_)
                      · have hzk : zku Q T2 g p = T3 := by first | (rw [hT3, hzu, show max (T3 (18, g, p, 0) 6) (T3 (18, g, p, 0) 5) = T3 (18, g, p, 0) 5 by omega]; done) | (rw [hzu]; exact zst_id (by omega))
                        refine G_iinc_e (pc := 123) 2 (fun zw => [(2, .int (zI zw)), (0, .ref (ad (200, 0, 0, 0))), (1, .int (zI g)), (3, .ref (ad (203, Q 4 g 0, p, 0)))]) dX7_settle_123 rfl (by decide) (fun _ => rfl) (fun v123 e123 => ?_)
                        refine G_goto (pc := 126) 12 dX7_settle_126 (by decide) ?_
                        refine G_perm (lv' := [(0, .ref (ad (200, 0, 0, 0))), (1, .int (zI g)), (2, .int (zI v123))]) [1, 2, 0] rfl ?_
                        exact ih12 v123 T3 ⟨⟨by omega, by rw [e123, ← hlp, lp_step (a := p) (n := Q 1 (Q 4 g 0) 0) (by omega)]; rw [show zkf Q g p T2 = T3 from hzk], by first | assumption | (rw [← hzk]; exact zku_V hP hg hp hTV2)⟩, by rw [← hzk]; exact zSet_ku hTs2⟩ (by omega)
                      · refine G_aload_n (pc := 107) 0 0 dX7_settle_107 rfl rfl ?_
                        refine G_getf (pc := 108) fl_X7_57 dX7_settle_108 pg_200 rfl ?_
                        refine G_iload_n (pc := 111) 1 1 dX7_settle_111 rfl rfl ?_
                        refine G_aldA (pc := 112) (t := 5) rfl dX7_settle_112 pg_216 ⟨by omega, by omega, by omega, by omega⟩ rfl ?_
                        refine G_iload_n (pc := 113) 2 2 dX7_settle_113 rfl rfl ?_
                        refine G_aload_n (pc := 114) 0 0 dX7_settle_114 rfl rfl ?_
                        refine G_getf (pc := 115) fl_X7_54 dX7_settle_115 pg_200 rfl ?_
                        refine G_iload_n (pc := 118) 1 1 dX7_settle_118 rfl rfl ?_
                        refine G_aldA (pc := 119) (t := 5) rfl dX7_settle_119 pg_214 ⟨by omega, by omega, by omega, by omega⟩ rfl ?_
                        refine G_iload_n (pc := 120) 2 2 dX7_settle_120 rfl rfl ?_
                        refine G_ialdV (pc := 121) (T3 (18, g, p, 0) 5) dX7_settle_121 (pg_215 (by first | assumption | omega | exact ⟨by omega, by omega⟩ | exact ⟨⟨by omega, by omega⟩, by omega⟩ | exact zWV.R (by assumption) _ _)) ⟨by omega, by omega, by omega, by omega⟩ rfl ?_
                        refine G_iast (pc := 122) dX7_settle_122 (pg_217 (by first | assumption | omega | exact ⟨by omega, by omega⟩ | exact ⟨⟨by omega, by omega⟩, by omega⟩ | exact zWV.R (by assumption) _ _)) ⟨by omega, by omega, by omega, by omega⟩ (pp_217 (by first | assumption | omega | exact ⟨by omega, by omega⟩ | exact ⟨⟨by omega, by omega⟩, by omega⟩ | exact zWV.R (by assumption) _ _)) ?_
                        refine G_nameV (fun V2_122 hV2_122 => ?_)
                        have hVV2_122 : zWV Q V2_122 := by rw [hV2_122]; exact hTV3.s18 ⟨by omega, by omega⟩ (fun _ _ _ => by omega)
                        have hzk : zku Q T2 g p = V2_122 := by first | (rw [hV2_122, hzu, show max (T3 (18, g, p, 0) 6) (T3 (18, g, p, 0) 5) = T3 (18, g, p, 0) 5 by omega]; done) | (rw [hzu]; exact zst_id (by omega))
                        refine G_iinc_e (pc := 123) 2 (fun zw => [(2, .int (zI zw)), (0, .ref (ad (200, 0, 0, 0))), (1, .int (zI g)), (3, .ref (ad (203, Q 4 g 0, p, 0)))]) dX7_settle_123 rfl (by decide) (fun _ => rfl) (fun v123 e123 => ?_)
                        refine G_goto (pc := 126) 12 dX7_settle_126 (by decide) ?_
                        refine G_perm (lv' := [(0, .ref (ad (200, 0, 0, 0))), (1, .int (zI g)), (2, .int (zI v123))]) [1, 2, 0] rfl ?_
                        exact ih12 v123 V2_122 ⟨⟨by omega, by rw [e123, ← hlp, lp_step (a := p) (n := Q 1 (Q 4 g 0) 0) (by omega)]; rw [show zkf Q g p T2 = V2_122 from hzk], by first | assumption | (rw [← hzk]; exact zku_V hP hg hp hTV2)⟩, by rw [← hzk]; exact zSet_ku hTs2⟩ (by omega)
                    · refine G_aload_n (pc := 73) 0 0 dX7_settle_73 rfl rfl ?_
                      refine G_getf (pc := 74) fl_X7_54 dX7_settle_74 pg_200 rfl ?_
                      refine G_iload_n (pc := 77) 1 1 dX7_settle_77 rfl rfl ?_
                      refine G_aldA (pc := 78) (t := 5) rfl dX7_settle_78 pg_214 ⟨by omega, by omega, by omega, by omega⟩ rfl ?_
                      refine G_iload_n (pc := 79) 2 2 dX7_settle_79 rfl rfl ?_
                      refine G_dup2 (pc := 80) dX7_settle_80 rfl rfl ?_
                      refine G_ialdV (pc := 81) (T3 (18, g, p, 0) 5) dX7_settle_81 (pg_215 (by first | assumption | omega | exact ⟨by omega, by omega⟩ | exact ⟨⟨by omega, by omega⟩, by omega⟩ | exact zWV.R (by assumption) _ _)) ⟨by omega, by omega, by omega, by omega⟩ rfl ?_
                      refine G_iconst (pc := 82) dX7_settle_82 ?_
                      refine G_iadd (pc := 83) dX7_settle_83 ?_
                      have hu5 : T3 (18, g, p, 0) 5 + 1 ≤ Q 2 (Q 4 g 0) p := by omega
                      refine G_iast (pc := 84) dX7_settle_84 (pg_215 (by first | assumption | omega | exact ⟨by omega, by omega⟩ | exact ⟨⟨by omega, by omega⟩, by omega⟩ | exact zWV.R (by assumption) _ _)) ⟨by omega, by omega, by omega, by omega⟩ (pp_215 (by first | assumption | omega | exact ⟨by omega, by omega⟩ | exact ⟨⟨by omega, by omega⟩, by omega⟩ | exact zWV.R (by assumption) _ _)) ?_
                      refine G_nameV (fun V3_84 hV3_84 => ?_)
                      have hVV3_84 : zWV Q V3_84 := by rw [hV3_84]; exact hTV3.s18 ⟨by omega, by omega⟩ (fun _ _ _ => by omega)
                      have hs5 : V3_84 (18, g, p, 0) 5 = T3 (18, g, p, 0) 5 + 1 := by rw [hV3_84, zst_s]
                      refine G_goto (pc := 85) 42 dX7_settle_85 (by decide) ?_
                      refine G_perm (lv' := [(0, .ref (ad (200, 0, 0, 0))), (1, .int (zI g)), (2, .int (zI p)), (3, .ref (ad (203, Q 4 g 0, p, 0)))]) [0, 1, 2, 3] rfl ?_
                      exact ih42  V3_84 ⟨⟨by rw [← hq3, show (Q 2 (Q 4 g 0) p - T3 (18, g, p, 0) 5).toNat = (Q 2 (Q 4 g 0) p - V3_84 (18, g, p, 0) 5).toNat + 1 by omega, zmk_go _ ⟨by omega, c70⟩, hV3_84], by assumption⟩, fun k f hk => by rw [hV3_84, zst_at, if_neg (fun q => hk ⟨q.1, q.2⟩)]; exact hfr3 k f hk⟩ (by omega)
              refine G_perm (lv' := [(0, .ref (ad (200, 0, 0, 0))), (1, .int (zI g)), (2, .int (zI p)), (3, .ref (ad (203, Q 4 g 0, p, 0)))]) [1, 2, 3, 0] rfl ?_
              exact L42 _  T2 ⟨⟨rfl, hTV2⟩, fun _ _ _ => rfl⟩ (Nat.lt_succ_self _)
        refine G_perm (lv' := [(0, .ref (ad (200, 0, 0, 0))), (1, .int (zI g)), (2, .int (zI v11))]) [1, 2, 0] rfl ?_
        exact L12 _ v11 T ⟨⟨by omega, by rw [e11], hTV⟩, hTs⟩ (Nat.lt_succ_self _)
  refine G_perm (lv' := [(0, .ref (ad (200, 0, 0, 0))), (1, .int (zI v1))]) [1, 0] rfl ?_
  exact L2 _ v1 V ⟨⟨by omega, by rw [e1]; rfl, hV⟩, hno⟩ (Nat.lt_succ_self _)
