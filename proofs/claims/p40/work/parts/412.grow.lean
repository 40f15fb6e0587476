/-! ===== the Pier's rows that grow: with, write ===== -/
theorem pcnt_cut {Δ : zDl} {ad : zK → Nat} {Q : zP} {V : zS} (k : zK) : pcnt Δ ad Q V k = pcnt Δ (fun q => if q.1 < 224 then ad q else 0) Q V k := rfl
section ZPMA
variable {Δ : zDl} {ad ad' : zK → Nat} {Q : zP} {V : zS} {X : zMem}
theorem pm_ad (h : ∀ k : zK, k.1 < 224 → ad' k = ad k) : pm Δ ad' Q V X = pm Δ ad Q V X := by
  have e : (fun q : zK => if q.1 < 224 then ad' q else 0) = fun q => if q.1 < 224 then ad q else 0 := by
    funext q
    by_cases hq : q.1 < 224
    · rw [if_pos hq, if_pos hq, h q hq]
    · rw [if_neg hq, if_neg hq]
  funext k
  show (if 200 ≤ k.1 ∧ k.1 < 224 then pcnt Δ ad' Q V k else X k) = if 200 ≤ k.1 ∧ k.1 < 224 then pcnt Δ ad Q V k else X k
  rw [pcnt_cut (ad := ad'), pcnt_cut (ad := ad), e]
theorem pm_up {key : zK} (h : ¬ (200 ≤ key.1 ∧ key.1 < 224)) (e : Option va_E) : zup1 (pm Δ ad Q V X) key e = pm Δ ad Q V (zup1 X key e) := by
  funext k
  by_cases hk : k = key
  · subst hk
    rw [zup1_s, pm_out _ h, zup1_s]
  · rw [zup1_n _ _ hk]
    show (if _ then _ else X k) = if _ then _ else zup1 X key e k
    rw [zup1_n _ _ hk]
theorem zup1_2 {M : zMem} {k : zK} {a b : Option va_E} : zup1 (zup1 M k a) k b = zup1 M k b := by
  funext j
  by_cases h : j = k
  · subst h
    rw [zup1_s, zup1_s]
  · rw [zup1_n _ _ h, zup1_n _ _ h, zup1_n _ _ h]
end ZPMA
theorem cw_X7_88 : zCW RX7 88 := ⟨zAW_of 615 (by decide +kernel) (by decide +kernel), zAW_of 617 (by decide +kernel) (by decide +kernel), zAW_of 616 (by decide +kernel) (by decide +kernel), zAW_of 7 (by decide +kernel) (by decide +kernel)⟩
theorem cl_X7_68 : Cond.classLink RX7 68 (FieldType.array .int).toString ∈ zAW := zAW_of 521 (by decide +kernel) (by decide +kernel)
/-- an array of arrays of ints, one longer -/
def zPwi (Δ : zDl) (ad : zK → Nat) (M : zMem) (ks k1 : zK) (n : Int) (F : Int → Option Nat) : zPo := fun v ad' M' => v = some (.ref (ad' ks)) ∧ (∀ k, k ≠ ks → ad' k = ad k ∧ M' k = M k) ∧ M' ks = some (.inl (Δ.2.1 5, (n + 1).toNat, .inr (.inr (.inr (.inr (zAq (zup (fun j => if 0 ≤ j ∧ j < n then F j else none) n (some (ad k1)))))))))
set_option maxHeartbeats 4000000 in
set_option maxRecDepth 100000 in
theorem c_X7_with {l : Launch} {Δ : zDl} {ad : zK → Nat} {M : zMem} {k0 k1 : zK} (ks : zK) {n : Int} {n1 : Nat} {x1 : (Nat → Int32) ⊕ ((Nat → Int64) ⊕ ((Nat → UInt32) ⊕ ((Nat → UInt64) ⊕ (Nat → Option Nat))))} {F : Int → Option Nat} (hn : 0 ≤ n ∧ n ≤ 1000) (h0 : M k0 = some (.inl (Δ.2.1 5, n.toNat, .inr (.inr (.inr (.inr (zAq F))))))) (h1 : M k1 = some (.inl (Δ.2.1 0, n1, x1))) (hs : M ks = none) (hel : ∀ i : Int, 0 ≤ i → i < n → ∃ k nv xv, F i = some (ad k) ∧ M k = some (.inl (Δ.2.1 0, nv, xv))) : zMn l Δ yX7_with cX7_with 3 (some (.array (.array .int))) 3 1 (n + 1).toNat [.ref (ad k0), .ref (ad k1)] ad M (zPwi Δ ad M ks k1 n F) := by
  refine zMn_of (by decide) (Nat.le_of_ble_eq_true rfl) (fun Γ hl hΔ hF => ?_)
  subst hl hΔ
  show G Γ _ _ _ RX7 _ _ _ _ _ [(0, .ref (ad k0)), (1, .ref (ad k1))] []
  have ne0 : k0 ≠ ks := fun q => by rw [q, hs] at h0; cases h0
  have ne1 : k1 ≠ ks := fun q => by rw [q, hs] at h1; cases h1
  refine G_aload_n (pc := 0) 0 0 dX7_with_0 rfl rfl ?_
  refine G_alenV (pc := 1) (t := 5) n rfl dX7_with_1 h0 (by omega) ?_
  refine G_iconst (pc := 2) dX7_with_2 ?_
  refine G_iadd (pc := 3) dX7_with_3 ?_
  refine G_newA (pc := 4) (t := 5) (N := (n + 1).toNat) (te := .int) ks cl_X7_68 (by decide) rfl dX7_with_4 hs (by omega) ⟨by omega, by omega⟩ (by omega) ⟨Nat.le_of_ble_eq_true rfl, by show 0 + (n + 1).toNat ≤ (n + 1).toNat; omega⟩ (fun ad1 had1 => ?_)
  show G Γ _ _ _ _ _ _ 1 (0 + (n + 1).toNat) _ _ _
  have e0 := had1 k0 ne0
  have e1 := had1 k1 ne1
  rw [← e0, ← e1]
  refine G_nm (fun M1 hM1 => ?_)
  have m0 : M1 k0 = some (.inl ((z_d Γ).2.1 5, n.toNat, .inr (.inr (.inr (.inr (zAq F)))))) := by rw [hM1, zup1_n _ _ ne0]; exact h0
  have m1 : M1 k1 = some (.inl ((z_d Γ).2.1 0, n1, x1)) := by rw [hM1, zup1_n _ _ ne1]; exact h1
  have ms : M1 ks = some (.inl ((z_d Γ).2.1 5, (n + 1).toNat, .inr (.inr (.inr (.inr (zAq (fun _ => none))))))) := by rw [hM1]; exact zup1_s _ _ _
  refine G_astore_n (pc := 7) 2 [(2, .ref (ad1 ks)), (0, .ref (ad1 k0)), (1, .ref (ad1 k1))] dX7_with_7 rfl (by decide) rfl ?_
  refine G_aload_n (pc := 8) 0 1 dX7_with_8 rfl rfl ?_
  refine G_iconst (pc := 9) dX7_with_9 ?_
  refine G_aload_n (pc := 10) 2 0 dX7_with_10 rfl rfl ?_
  refine G_iconst (pc := 11) dX7_with_11 ?_
  refine G_aload_n (pc := 12) 0 1 dX7_with_12 rfl rfl ?_
  refine G_alenV (pc := 13) (t := 5) n rfl dX7_with_13 m0 (by omega) ?_
  refine G_cpyA (pc := 14) (t := 5) (tv := 0) (te := .int) cw_X7_88 rfl (by decide) rfl dX7_with_14 m0 ms (by omega) (fun i hi1 hi2 => ?_) ⟨Nat.le_of_ble_eq_true rfl, Nat.le_of_ble_eq_true rfl⟩ rfl ?_
  · obtain ⟨k, nv, xv, q1, q2⟩ := hel i hi1 hi2
    have nek : k ≠ ks := fun q => by rw [q, hs] at q2; cases q2
    exact ⟨k, nv, xv, by rw [q1, had1 k nek], by rw [hM1, zup1_n _ _ nek]; exact q2⟩
  refine G_nm (fun M2 hM2 => ?_)
  have m0' : M2 k0 = some (.inl ((z_d Γ).2.1 5, n.toNat, .inr (.inr (.inr (.inr (zAq F)))))) := by rw [hM2, zup1_n _ _ ne0]; exact m0
  have m1' : M2 k1 = some (.inl ((z_d Γ).2.1 0, n1, x1)) := by rw [hM2, zup1_n _ _ ne1]; exact m1
  have ms' : M2 ks = some (.inl ((z_d Γ).2.1 5, (n + 1).toNat, .inr (.inr (.inr (.inr (zAq (fun j => if 0 ≤ j ∧ j < n then F j else none))))))) := by rw [hM2]; exact zup1_s _ _ _
  refine G_aload_n (pc := 17) 2 0 dX7_with_17 rfl rfl ?_
  refine G_aload_n (pc := 18) 0 1 dX7_with_18 rfl rfl ?_
  refine G_alenV (pc := 19) (t := 5) n rfl dX7_with_19 m0' (by omega) ?_
  refine G_aload_n (pc := 20) 1 2 dX7_with_20 rfl rfl ?_
  refine G_astA (pc := 21) (t := 5) (tv := 0) (te := .int) rfl (by decide) rfl dX7_with_21 ms' m1' ⟨by omega, by omega, by omega, by omega⟩ rfl ?_
  refine G_aload_n (pc := 22) 2 0 dX7_with_22 rfl rfl ?_
  refine G_aret (pc := 23) hF (Or.inr ⟨_, rfl⟩) dX7_with_23 ⟨Nat.le_of_ble_eq_true rfl, by omega⟩ ⟨rfl, fun k hk => ⟨had1 k hk, ?_⟩, ?_⟩
  · rw [zup1_n _ _ hk, hM2, zup1_n _ _ hk, hM1, zup1_n _ _ hk]
  · rw [zup1_s, e1]
/-! write -/
/-- what write leaves: rows and their array anew -/
def zPwr (Δ : zDl) (ad : zK → Nat) (Q : zP) (V' : zS) (X : zMem) : zPo := fun v ad' M' => v = none ∧ (∀ k : zK, k.1 ≠ 222 → k.1 ≠ 223 → k.1 ≠ 230 → k.1 ≠ 231 → ad' k = ad k) ∧ M' = pm Δ ad' Q V' X
def zrw (L : Int) (k : zK) : zK := if k = (222, 0, 0, 0) then (231, 0, 0, 0) else if k = (223, L, 0, 0) then (230, 0, 0, 0) else k
theorem zlw_k {V : zS} {a b c d e : Int} {k : zK} {f : Int} (h : k.1 ≠ 1 ∧ k.1 ≠ 2) : zlw V a b c d e k f = V k f := zlw_fr (K := fun n => n == 1 || n == 2) rfl rfl _ _ (by simp [h.1, h.2])
theorem zlw_1 {V : zS} {a b c d e : Int} (h : ¬ 200 ≤ V (1, 0, 0, 0) 1) : zlw V a b c d e (1, 0, 0, 0) 1 = V (1, 0, 0, 0) 1 + 1 := by
  unfold zlw
  rw [if_neg h, zst_s]
theorem zlw_2 {V : zS} {a b c d e f : Int} (h : ¬ 200 ≤ V (1, 0, 0, 0) 1) (hf : f < 5 * V (1, 0, 0, 0) 1) : zlw V a b c d e (2, 0, 0, 0) f = V (2, 0, 0, 0) f := by
  unfold zlw
  rw [if_neg h, zst_k _ _ _ _ (by simp), zst_o (by omega), zst_o (by omega), zst_o (by omega), zst_o (by omega), zst_o (by omega)]
theorem zlw_r {V : zS} {a b c d e x : Int} (h : ¬ 200 ≤ V (1, 0, 0, 0) 1) : (if 0 ≤ x ∧ x < 5 then zlw V a b c d e (2, 0, 0, 0) (5 * V (1, 0, 0, 0) 1 + x) else 0) = zup (zup (zup (zup (zup (fun _ => 0) 0 a) 1 b) 2 c) 3 d) 4 e x := by
  unfold zlw zup
  rw [if_neg h, zst_k _ _ _ _ (by simp)]
  dsimp only
  by_cases h4 : x = 4
  · subst h4
    rw [if_pos (by omega), if_pos rfl, zst_s]
  · rw [if_neg h4]
    by_cases h3 : x = 3
    · subst h3
      rw [if_pos (by omega), if_pos rfl, zst_o (by omega), zst_s]
    · rw [if_neg h3]
      by_cases h2 : x = 2
      · subst h2
        rw [if_pos (by omega), if_pos rfl, zst_o (by omega), zst_o (by omega), zst_s]
      · rw [if_neg h2]
        by_cases h1 : x = 1
        · subst h1
          rw [if_pos (by omega), if_pos rfl, zst_o (by omega), zst_o (by omega), zst_o (by omega), zst_s]
        · rw [if_neg h1]
          by_cases h0 : x = 0
          · subst h0
            rw [if_pos (by omega), if_pos rfl, zst_o (by omega), zst_o (by omega), zst_o (by omega), zst_o (by omega), Int.add_zero, zst_s]
          · rw [if_neg h0, if_neg (by omega)]
/-- the cells behind a write, under their new names -/
theorem pm_wrt {Δ : zDl} {ad ad3 : zK → Nat} {Q : zP} {V : zS} {X : zMem} {a b c d e L : Int} (hL : V (1, 0, 0, 0) 1 = L) (h2 : ¬ 200 ≤ V (1, 0, 0, 0) 1) (h0 : 0 ≤ L) (h3 : ∀ k : zK, k ≠ (222, 0, 0, 0) → k ≠ (223, L, 0, 0) → ad3 k = ad k) {k : zK} (hk : k ≠ (200, 0, 0, 0)) (hk2 : k ≠ (222, 0, 0, 0)) (hk3 : k ≠ (223, L, 0, 0)) : pm Δ ad3 Q (zlw V a b c d e) X k = pm Δ ad Q V X k := by
  obtain ⟨n, i, j, o⟩ := k
  show (if 200 ≤ n ∧ n < 224 then pcnt Δ ad3 Q (zlw V a b c d e) (n, i, j, o) else X (n, i, j, o)) = if 200 ≤ n ∧ n < 224 then pcnt Δ ad Q V (n, i, j, o) else X (n, i, j, o)
  refine ite_cg (fun _ => ?_) (fun _ => rfl)
  by_cases n2 : n = 222
  · subst n2
    show pc222 Δ ad3 Q _ i j o = pc222 Δ ad Q V i j o
    unfold pc222
    have hc : ¬ (i = 0 ∧ j = 0 ∧ o = 0) := fun ⟨q1, q2, q3⟩ => hk2 (by rw [q1, q2, q3])
    rw [if_neg hc, if_neg hc]
  · by_cases n3 : n = 223
    · subst n3
      show pc223 Δ ad3 Q _ i j o = pc223 Δ ad Q V i j o
      unfold pc223
      rw [zlw_1 h2]
      by_cases hc : (0 ≤ i ∧ i < V (1, 0, 0, 0) 1) ∧ j = 0 ∧ o = 0
      · rw [if_pos hc, if_pos ⟨⟨hc.1.1, by omega⟩, hc.2⟩]
        have e : (fun x => if 0 ≤ x ∧ x < 5 then zlw V a b c d e (2, 0, 0, 0) (5 * i + x) else 0) = fun x => if 0 ≤ x ∧ x < 5 then V (2, 0, 0, 0) (5 * i + x) else 0 := funext fun x => ite_cg (fun q => zlw_2 h2 (by omega)) (fun _ => rfl)
        rw [e]
      · rw [if_neg hc, if_neg (fun q => by
          by_cases hi : i = L
          · exact hk3 (by rw [hi, q.2.1, q.2.2])
          · exact hc ⟨⟨q.1.1, by have := q.1.2; omega⟩, q.2⟩)]
    · by_cases n0 : n = 200
      · subst n0
        show pc200 Δ ad3 Q _ i j o = pc200 Δ ad Q V i j o
        unfold pc200
        have hc : ¬ (i = 0 ∧ j = 0 ∧ o = 0) := fun ⟨q1, q2, q3⟩ => hk (by rw [q1, q2, q3])
        rw [if_neg hc, if_neg hc]
      · have e1 : pcnt Δ ad3 Q (zlw V a b c d e) (n, i, j, o) = pcnt Δ ad3 Q V (n, i, j, o) := pcnt_V (fun k' f hp => zlw_k ⟨fun q => ?_, fun q => ?_⟩)
        · rw [e1]
          have e : (fun q : zK => if q.1 < 222 then ad3 q else 0) = fun q => if q.1 < 222 then ad q else 0 := by
            funext q
            refine ite_cg (fun hq => h3 q (fun z => ?_) (fun z => ?_)) (fun _ => rfl)
            · rw [z] at hq; exact absurd hq (by decide)
            · rw [z] at hq; exact absurd hq (by show ¬ (223 < 222); decide)
          have cut : ∀ ad0 : zK → Nat, pcnt Δ ad0 Q V (n, i, j, o) = pcnt Δ (fun q => if q.1 < 222 then ad0 q else 0) Q V (n, i, j, o) := fun ad0 => by
            unfold pcnt
            refine ite_cg (fun q => absurd q n0) (fun _ => ?_)
            (iterate 21 refine ite_cg (fun _ => rfl) (fun _ => ?_))
            refine ite_cg (fun q => absurd q n2) (fun _ => ?_)
            refine ite_cg (fun q => absurd q n3) (fun _ => rfl)
          rw [cut ad3, cut ad, e]
        · clear h3
          obtain ⟨m, x, y, z⟩ := k'
          have q' : m = 1 := q
          subst q'
          unfold pD at hp
          (repeat' split at hp) <;> simp_all
        · clear h3
          obtain ⟨m, x, y, z⟩ := k'
          have q' : m = 2 := q
          subst q'
          unfold pD at hp
          (repeat' split at hp) <;> simp_all
set_option maxHeartbeats 4000000 in
set_option maxRecDepth 100000 in
theorem c_X7_write {l : Launch} {Δ : zDl} {ad : zK → Nat} {Q : zP} {V : zS} {X : zMem} {s g p o : Int} (hV : zWV Q V) (hX : X (230, 0, 0, 0) = none ∧ X (231, 0, 0, 0) = none) : zMn l Δ yX7_write cX7_write 6 none 4 2 206 [.ref (ad (200, 0, 0, 0)), .int (zI s), .int (zI g), .int (zI p), .int (zI o)] ad (pm Δ ad Q V X) (zPwr Δ ad Q (zlw V s g p o (V (0, 0, 0, 0) 6)) X) := by
  refine zMn_of (by decide) (Nat.le_of_ble_eq_true rfl) (fun Γ hl hΔ hF => ?_)
  subst hl hΔ
  show G Γ _ _ _ RX7 _ _ _ _ _ [(0, .ref (ad (200, 0, 0, 0))), (1, .int (zI s)), (2, .int (zI g)), (3, .int (zI p)), (4, .int (zI o))] []
  have hL := hV.W.l
  refine G_iconst (pc := 0) dX7_write_0 ?_
  refine G_rI (pc := 1) (N := 5) (230, 0, 0, 0) dX7_write_1 ((pm_out _ (by decide)).trans hX.1) rfl ⟨by omega, by omega⟩ ⟨Nat.le_of_ble_eq_true rfl, Nat.le_of_ble_eq_true rfl⟩ (fun ad1 had1 => ?_)
  show G Γ _ _ _ _ _ _ 1 5 _ _ _
  have h1lt : ∀ k : zK, k.1 < 224 → ad1 k = ad k := fun k hk => had1 k (fun q => by rw [q] at hk; exact absurd hk (by decide))
  rw [← h1lt (200, 0, 0, 0) (by decide), ← pm_ad h1lt, pm_up (by decide)]
  have tg : ∀ F : Int → Int, pm (z_d Γ) ad1 Q V (zup1 X (230, 0, 0, 0) (some (.inl ((z_d Γ).2.1 0, 5, .inl (zAi F))))) (230, 0, 0, 0) = some (.inl ((z_d Γ).2.1 0, 5, .inl (zAi F))) := fun F => (pm_out _ (by decide)).trans (zup1_s _ _ _)
  have tp : ∀ F F' : Int → Int, zup1 (pm (z_d Γ) ad1 Q V (zup1 X (230, 0, 0, 0) (some (.inl ((z_d Γ).2.1 0, 5, .inl (zAi F)))))) (230, 0, 0, 0) (some (.inl ((z_d Γ).2.1 0, 5, .inl (zAi F')))) = pm (z_d Γ) ad1 Q V (zup1 X (230, 0, 0, 0) (some (.inl ((z_d Γ).2.1 0, 5, .inl (zAi F'))))) := fun F F' => by rw [pm_up (by decide), zup1_2]
  refine G_dup (pc := 3) dX7_write_3 rfl ?_
  refine G_iconst (pc := 4) dX7_write_4 ?_
  refine G_iload_n (pc := 5) 1 1 dX7_write_5 rfl rfl ?_
  refine G_iast (pc := 6) dX7_write_6 (tg _) ⟨by omega, by omega, by omega, by omega⟩ (tp _ _) ?_
  refine G_dup (pc := 7) dX7_write_7 rfl ?_
  refine G_iconst (pc := 8) dX7_write_8 ?_
  refine G_iload_n (pc := 9) 2 2 dX7_write_9 rfl rfl ?_
  refine G_iast (pc := 10) dX7_write_10 (tg _) ⟨by omega, by omega, by omega, by omega⟩ (tp _ _) ?_
  refine G_dup (pc := 11) dX7_write_11 rfl ?_
  refine G_iconst (pc := 12) dX7_write_12 ?_
  refine G_iload_n (pc := 13) 3 3 dX7_write_13 rfl rfl ?_
  refine G_iast (pc := 14) dX7_write_14 (tg _) ⟨by omega, by omega, by omega, by omega⟩ (tp _ _) ?_
  refine G_dup (pc := 15) dX7_write_15 rfl ?_
  refine G_iconst (pc := 16) dX7_write_16 ?_
  refine G_iload (pc := 17) 4 dX7_write_17 rfl ?_
  refine G_iast (pc := 19) dX7_write_19 (tg _) ⟨by omega, by omega, by omega, by omega⟩ (tp _ _) ?_
  refine G_dup (pc := 20) dX7_write_20 rfl ?_
  refine G_iconst (pc := 21) dX7_write_21 ?_
  refine G_aload_n (pc := 22) 0 0 dX7_write_22 rfl rfl ?_
  refine G_getf (pc := 23) fl_X7_119 dX7_write_23 pg_200 rfl ?_
  refine G_iast (pc := 26) dX7_write_26 (tg _) ⟨by omega, by omega, by omega, by omega⟩ (tp _ _) ?_
  refine G_astore (pc := 27) [(5, .ref (ad1 (230, 0, 0, 0))), (0, .ref (ad1 (200, 0, 0, 0))), (1, .int (zI s)), (2, .int (zI g)), (3, .int (zI p)), (4, .int (zI o))] dX7_write_27 (by decide) rfl ?_
  generalize hF5 : zup (zup (zup (zup (zup (fun _ => 0) 0 s) 1 g) 2 p) 3 o) 4 (V (0, 0, 0, 0) 6) = F5
  refine G_aload_n (pc := 29) 0 1 dX7_write_29 rfl rfl ?_
  refine G_getf (pc := 30) fl_X7_69 dX7_write_30 pg_200 rfl ?_
  refine G_alenV (pc := 33) (t := 5) (V (1, 0, 0, 0) 1) rfl dX7_write_33 pg_222 (by omega) ?_
  refine G_sipush (pc := 34) dX7_write_34 (by decide) ?_
  refine G_icmp_ge (pc := 37) 53 dX7_write_37 (by decide) ⟨by omega, by omega⟩ ⟨by omega, by omega⟩ (fun c37 => ?_) (fun c37 => ?_)
  · have e : zlw V s g p o (V (0, 0, 0, 0) 6) = V := if_pos c37
    refine G_mono (ad' := ad1) (M' := pm (z_d Γ) ad1 Q V X) (fun k x h => ⟨?_, rfl⟩) ?_
    · by_cases hk : k = (230, 0, 0, 0)
      · rw [hk, pm_out _ (by decide), hX.1] at h
        cases h
      · rw [← pm_up (by decide), zup1_n _ _ hk]
        exact h
    · exact G_vret (pc := 53) hF dX7_write_53 ⟨Nat.le_of_ble_eq_true rfl, Nat.le_of_ble_eq_true rfl⟩ ⟨rfl, fun k _ _ h3 _ => had1 k (fun q => h3 (by rw [q])), by rw [e]⟩
  · refine G_aload_n (pc := 40) 0 1 dX7_write_40 rfl rfl ?_
    refine G_aload_n (pc := 41) 0 1 dX7_write_41 rfl rfl ?_
    refine G_getf (pc := 42) fl_X7_69 dX7_write_42 pg_200 rfl ?_
    refine G_aload (pc := 45) 0 dX7_write_45 rfl ?_
    refine G_nm (fun M1 hM1 => ?_)
    have k230 : M1 (230, 0, 0, 0) = some (.inl ((z_d Γ).2.1 0, 5, .inl (zAi F5))) := by rw [hM1]; exact tg F5
    have k222 : M1 (222, 0, 0, 0) = some (.inl ((z_d Γ).2.1 5, (V (1, 0, 0, 0) 1).toNat, .inr (.inr (.inr (.inr (zAq (fun x => some (ad1 (223, x, 0, 0))))))))) := by rw [hM1]; exact pg_222
    have k231 : M1 (231, 0, 0, 0) = none := by rw [hM1, pm_out _ (by decide), zup1_n _ _ (by simp)]; exact hX.2
    refine G_callS (pc := 47) gk_X7_122 dX7_write_47 (c_X7_with (n1 := 5) (231, 0, 0, 0) ⟨by omega, by omega⟩ k222 k230 k231 (fun i hi1 hi2 => ⟨(223, i, 0, 0), 5, _, rfl, by rw [hM1]; exact pg_223 ⟨hi1, hi2⟩⟩)) rfl rfl (Nat.le_of_ble_eq_true rfl) ⟨⟨Nat.le_of_ble_eq_true rfl, Nat.le_of_ble_eq_true rfl⟩, Nat.le_of_ble_eq_true rfl, by show 5 + (V (1, 0, 0, 0) 1 + 1).toNat ≤ 206; omega⟩ (fun v ad2 M2 hpo => ?_)
    obtain ⟨rfl, hfr, h231⟩ := hpo
    show G Γ _ _ _ _ _ _ 2 (5 + (V (1, 0, 0, 0) 1 + 1).toNat) 50 [(5, .ref (ad1 (230, 0, 0, 0))), (0, .ref (ad1 (200, 0, 0, 0))), (1, .int (zI s)), (2, .int (zI g)), (3, .int (zI p)), (4, .int (zI o))] [.ref (ad2 (231, 0, 0, 0)), .ref (ad1 (200, 0, 0, 0))]
    have h2 : ∀ k, k ≠ (231, 0, 0, 0) → ad2 k = ad1 k := fun k hk => (hfr k hk).1
    have k200 : M2 (200, 0, 0, 0) = pm (z_d Γ) ad1 Q V X (200, 0, 0, 0) := by
      rw [(hfr (200, 0, 0, 0) (by simp)).2, hM1, ← pm_up (by decide), zup1_n _ _ (by simp)]
    rw [pg_200] at k200
    rw [← h2 (200, 0, 0, 0) (by simp)]
    refine G_putf (pc := 50) fl_X7_69 fp_X7_21 dX7_write_50 k200 (Nat.le_of_ble_eq_true rfl) rfl rfl rfl ?_
    refine G_nm (fun M3 hM3 => ?_)
    -- the contents of the new array, and the new names
    have hL0 : 0 ≤ V (1, 0, 0, 0) 1 := hL.1
    generalize hLL : V (1, 0, 0, 0) 1 = L at *
    let ad3 : zK → Nat := fun k => ad2 (zrw L k)
    have a222 : ad3 (222, 0, 0, 0) = ad2 (231, 0, 0, 0) := by show ad2 (zrw L _) = _; rw [show zrw L (222, 0, 0, 0) = (231, 0, 0, 0) from if_pos rfl]
    have a223 : ad3 (223, L, 0, 0) = ad2 (230, 0, 0, 0) := by show ad2 (zrw L _) = _; rw [show zrw L (223, L, 0, 0) = (230, 0, 0, 0) from (if_neg (by simp)).trans (if_pos rfl)]
    have zo : ∀ k : zK, k ≠ (222, 0, 0, 0) → k ≠ (223, L, 0, 0) → zrw L k = k := fun k a b => (if_neg a).trans (if_neg b)
    have a3 : ∀ k : zK, k ≠ (222, 0, 0, 0) → k ≠ (223, L, 0, 0) → ad3 k = ad2 k := fun k a b => by show ad2 (zrw L k) = _; rw [zo k a b]
    have n231 : M3 (231, 0, 0, 0) = some (.inl ((z_d Γ).2.1 5, (L + 1).toNat, .inr (.inr (.inr (.inr (zAq (zup (fun j => if 0 ≤ j ∧ j < L then some (ad1 (223, j, 0, 0)) else none) L (some (ad1 (230, 0, 0, 0)))))))))) := by rw [hM3, zup1_n _ _ (by simp)]; exact h231
    refine G_eqv (M' := zup1 M3 (231, 0, 0, 0) (some (.inl ((z_d Γ).2.1 5, (L + 1).toNat, .inr (.inr (.inr (.inr (zAq (fun x => some (ad3 (223, x, 0, 0)))))))))) ) (fun k e' hk => ?_) ?_
    · by_cases hk2 : k = (231, 0, 0, 0)
      · subst hk2
        rw [zup1_s] at hk
        cases hk
        refine ⟨_, n231, fun H => va_eqF (fun x hx0 hx1 => ?_) H⟩
        show (if x = L then some (ad1 (230, 0, 0, 0)) else if 0 ≤ x ∧ x < L then some (ad1 (223, x, 0, 0)) else none) = some (ad3 (223, x, 0, 0))
        by_cases hx : x = L
        · rw [if_pos hx, hx, a223, h2 _ (by simp)]
        · rw [if_neg hx, if_pos ⟨hx0, by omega⟩, a3 _ (by simp) (by simpa using hx), h2 _ (by simp)]
      · rw [zup1_n _ _ hk2] at hk
        exact ⟨e', hk, fun H h => h⟩
    refine G_ren (ad' := ad3) (M' := pm (z_d Γ) ad3 Q (zlw V s g p o (V (0, 0, 0, 0) 6)) X) (zrw L) (fun k e hk => ⟨?_, rfl⟩) (fun k k' hk hk' hq => ?_) ?_
    · by_cases k0 : k = (200, 0, 0, 0)
      · subst k0
        rw [zo _ (by simp) (by simp), zup1_n _ _ (by simp), hM3, zup1_s]
        rw [pg_200] at hk
        rw [← hk, zlw_k ⟨by decide, by decide⟩, zlw_k ⟨by decide, by decide⟩, zlw_k ⟨by decide, by decide⟩, zlw_k ⟨by decide, by decide⟩, zlw_k ⟨by decide, by decide⟩, zlw_k ⟨by decide, by decide⟩, zlw_k ⟨by decide, by decide⟩, a222]
        simp only [a3 (0, 0, 0, 0) (by simp) (by simp), a3 (201, 0, 0, 0) (by simp) (by simp), a3 (205, 0, 0, 0) (by simp) (by simp), a3 (206, 0, 0, 0) (by simp) (by simp), a3 (207, 0, 0, 0) (by simp) (by simp), a3 (209, 0, 0, 0) (by simp) (by simp), a3 (211, 0, 0, 0) (by simp) (by simp), a3 (212, 0, 0, 0) (by simp) (by simp), a3 (213, 0, 0, 0) (by simp) (by simp), a3 (214, 0, 0, 0) (by simp) (by simp), a3 (216, 0, 0, 0) (by simp) (by simp), a3 (218, 0, 0, 0) (by simp) (by simp), a3 (220, 0, 0, 0) (by simp) (by simp)]
        simp only [h2 (0, 0, 0, 0) (by simp), h2 (201, 0, 0, 0) (by simp), h2 (205, 0, 0, 0) (by simp), h2 (206, 0, 0, 0) (by simp), h2 (207, 0, 0, 0) (by simp), h2 (209, 0, 0, 0) (by simp), h2 (211, 0, 0, 0) (by simp), h2 (212, 0, 0, 0) (by simp), h2 (213, 0, 0, 0) (by simp), h2 (214, 0, 0, 0) (by simp), h2 (216, 0, 0, 0) (by simp), h2 (218, 0, 0, 0) (by simp), h2 (220, 0, 0, 0) (by simp)]
        rfl
      · by_cases k1 : k = (222, 0, 0, 0)
        · subst k1
          rw [show zrw L (222, 0, 0, 0) = (231, 0, 0, 0) from if_pos rfl, zup1_s]
          rw [pg_222, zlw_1 (by omega), hLL] at hk
          exact hk
        · by_cases k2 : k = (223, L, 0, 0)
          · subst k2
            rw [show zrw L (223, L, 0, 0) = (230, 0, 0, 0) from (if_neg (by simp)).trans (if_pos rfl), zup1_n _ _ (by simp), hM3, zup1_n _ _ (by simp), (hfr (230, 0, 0, 0) (by simp)).2, k230]
            rw [pg_223 ⟨hL0, by rw [zlw_1 (by omega)]; omega⟩] at hk
            rw [← hk]
            congr 5
            funext x
            show zI (F5 (x : Int)) = zI _
            congr 1
            have := zlw_r (V := V) (a := s) (b := g) (c := p) (d := o) (e := V (0, 0, 0, 0) 6) (x := (x : Int)) (by omega)
            rw [hLL, hF5] at this
            exact this.symm
          · rw [zo k k1 k2]
            have hne : k ≠ (231, 0, 0, 0) := fun q => by
              rw [q, pm_out _ (by decide), hX.2] at hk
              cases hk
            have hne2 : k ≠ (230, 0, 0, 0) := fun q => by
              rw [q, pm_out _ (by decide), hX.1] at hk
              cases hk
            rw [zup1_n _ _ hne, hM3, zup1_n _ _ k0, (hfr k hne).2, hM1, ← pm_up (by decide), zup1_n _ _ hne2]
            rw [pm_wrt (ad := ad2) hLL (by omega) hL0 a3 k0 k1 k2] at hk
            rw [← hk]
            exact (congrFun (pm_ad (fun q hq => h2 q (fun z => by rw [z] at hq; exact absurd hq (by decide)))) k).symm
    · -- no two new names for one cell
      by_cases k1 : k = (222, 0, 0, 0) <;> by_cases k1' : k' = (222, 0, 0, 0)
      · rw [k1, k1']
      · exfalso
        rw [k1, show zrw L (222, 0, 0, 0) = (231, 0, 0, 0) from if_pos rfl] at hq
        by_cases k2' : k' = (223, L, 0, 0)
        · rw [k2', show zrw L (223, L, 0, 0) = (230, 0, 0, 0) from (if_neg (by simp)).trans (if_pos rfl)] at hq
          simp at hq
        · rw [zo k' k1' k2'] at hq
          rw [← hq, pm_out _ (by decide), hX.2] at hk'
          exact hk' rfl
      · exfalso
        rw [k1', show zrw L (222, 0, 0, 0) = (231, 0, 0, 0) from if_pos rfl] at hq
        by_cases k2 : k = (223, L, 0, 0)
        · rw [k2, show zrw L (223, L, 0, 0) = (230, 0, 0, 0) from (if_neg (by simp)).trans (if_pos rfl)] at hq
          simp at hq
        · rw [zo k k1 k2] at hq
          rw [hq, pm_out _ (by decide), hX.2] at hk
          exact hk rfl
      · by_cases k2 : k = (223, L, 0, 0) <;> by_cases k2' : k' = (223, L, 0, 0)
        · rw [k2, k2']
        · exfalso
          rw [k2, show zrw L (223, L, 0, 0) = (230, 0, 0, 0) from (if_neg (by simp)).trans (if_pos rfl), zo k' k1' k2'] at hq
          rw [← hq, pm_out _ (by decide), hX.1] at hk'
          exact hk' rfl
        · exfalso
          rw [k2', show zrw L (223, L, 0, 0) = (230, 0, 0, 0) from (if_neg (by simp)).trans (if_pos rfl), zo k k1 k2] at hq
          rw [hq, pm_out _ (by decide), hX.1] at hk
          exact hk rfl
        · rw [zo k k1 k2, zo k' k1' k2'] at hq
          exact hq
    · exact G_vret (pc := 53) hF dX7_write_53 ⟨Nat.le_of_ble_eq_true rfl, by omega⟩ ⟨rfl, fun k q1 q2 q3 q4 => by
        rw [a3 k (fun z => q1 (by rw [z])) (fun z => q2 (by rw [z])), h2 k (fun z => q4 (by rw [z])), had1 k (fun z => q3 (by rw [z]))], rfl⟩
