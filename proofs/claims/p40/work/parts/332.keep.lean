/-! ===== keepUp of a group that is not in the list yet ===== -/
/-- the memory, with the groups' list and its array out of W -/
def mn (W : zMem) (Δ : zDl) (ad : zK → Nat) (P : zP) (S : zS) (X : zMem) : zMem := fun k => if k.1 = 6 ∨ k.1 = 7 then W k else mm Δ ad P S X k
section ZMN
variable {Δ : zDl} {ad : zK → Nat} {P : zP} {S : zS} {X W : zMem} {i j o : Int}
theorem mn_g {k : zK} {e : Option va_E} (hk : ¬ (k.1 = 6 ∨ k.1 = 7)) (h : mm Δ ad P S X k = e) : mn W Δ ad P S X k = e := (if_neg hk).trans h
theorem mn_up {S' : zS} {k : zK} {e : Option va_E} (hk : ¬ (k.1 = 6 ∨ k.1 = 7)) (h : zup1 (mm Δ ad P S X) k e = mm Δ ad P S' X) : zup1 (mn W Δ ad P S X) k e = mn W Δ ad P S' X := by
  funext q
  by_cases hq : q.1 = 6 ∨ q.1 = 7
  · have hn : q ≠ k := fun c => hk (by rw [← c]; exact hq)
    rw [zup1_n _ _ hn]
    unfold mn
    rw [if_pos hq, if_pos hq]
  · have h2 := congrFun h q
    by_cases c : q = k
    · subst c
      rw [zup1_s] at h2 ⊢
      unfold mn
      rw [if_neg hq]
      exact h2
    · rw [zup1_n _ _ c] at h2 ⊢
      unfold mn
      rw [if_neg hq, if_neg hq]
      exact h2
theorem mgn_11 (h : ((0 ≤ i ∧ i < P 0 0 0) ∧ (0 ≤ j ∧ j < P 1 i 0))) : mn W Δ ad P S X (11, i, j, 0) = some (.inr (4, [.ref (ad (12, i, j, 0)), .int (zI ((S (11, i, j, 0)) 1))])) := mn_g (by simp) (mg_11 h)
theorem mgn_12 (h : ((0 ≤ i ∧ i < P 0 0 0) ∧ (0 ≤ j ∧ j < P 1 i 0))) : mn W Δ ad P S X (12, i, j, 0) = some (.inr (0, [.int (zI ((S (12, i, j, 0)) 0)), .ref (if P 13 i j = 0 then Δ.2.2.1 else ad (13, i, j, 0)), .int (zI (P 2 i j))])) := mn_g (by simp) (mg_12 h)
theorem mgn_13 (h : ((0 ≤ i ∧ i < P 0 0 0) ∧ (0 ≤ j ∧ j < P 1 i 0)) ∧ 0 < P 13 i j) : mn W Δ ad P S X (13, i, j, 0) = some (.inl (Δ.2.1 4, (P 13 i j).toNat, .inr (.inr (.inr (.inr (zAq (fun x => if 0 ≤ x ∧ x < P 2 i j then some (ad (14, i, j, x)) else none))))))) := mn_g (by simp) (mg_13 h)
theorem mgn_14 (h : (((0 ≤ i ∧ i < P 0 0 0) ∧ (0 ≤ j ∧ j < P 1 i 0)) ∧ (0 ≤ o ∧ o < P 2 i j))) : mn W Δ ad P S X (14, i, j, o) = some (.inr (3, [.int (zI ((S (14, i, j, o)) 0)), .int (zI ((S (14, i, j, o)) 1)), .int (zI ((S (14, i, j, o)) 2)), .int (zI ((S (14, i, j, o)) 3)), .int (zI ((S (14, i, j, o)) 4)), .int (zI ((S (14, i, j, o)) 5))])) := mn_g (by simp) (mg_14 h)
theorem mgn_15 (h : (0 ≤ i ∧ i < P 3 0 0)) : mn W Δ ad P S X (15, i, 0, 0) = some (.inr (1, [.ref (ad (16, i, 0, 0)), .ref (ad (17, i, 0, 0))])) := mn_g (by simp) (mg_15 h)
theorem mgn_16 (h : (0 ≤ i ∧ i < P 3 0 0)) : mn W Δ ad P S X (16, i, 0, 0) = some (.inl (Δ.2.1 3, (P 1 (P 4 i 0) 0).toNat, .inr (.inr (.inr (.inr (zAq (fun x => some (ad (18, i, x, 0))))))))) := mn_g (by simp) (mg_16 h)
theorem mgn_18 (h : ((0 ≤ i ∧ i < P 3 0 0) ∧ (0 ≤ j ∧ j < P 1 (P 4 i 0) 0))) : mn W Δ ad P S X (18, i, j, 0) = some (.inr (5, [.ref (ad (11, P 4 i 0, j, 0)), .ref (ad (19, i, j, 0)), .ref (ad (20, i, j, 0)), .ref (ad (21, i, j, 0)), .int (zI ((S (18, i, j, 0)) 4)), .int (zI ((S (18, i, j, 0)) 5)), .int (zI ((S (18, i, j, 0)) 6))])) := mn_g (by simp) (mg_18 h)
theorem mgn_19 (h : ((0 ≤ i ∧ i < P 3 0 0) ∧ (0 ≤ j ∧ j < P 1 (P 4 i 0) 0))) : mn W Δ ad P S X (19, i, j, 0) = some (.inl (Δ.2.1 0, 80, .inl (zAi (S (19, i, j, 0))))) := mn_g (by simp) (mg_19 h)
theorem mgn_20 (h : ((0 ≤ i ∧ i < P 3 0 0) ∧ (0 ≤ j ∧ j < P 1 (P 4 i 0) 0))) : mn W Δ ad P S X (20, i, j, 0) = some (.inl (Δ.2.1 0, 80, .inl (zAi (S (20, i, j, 0))))) := mn_g (by simp) (mg_20 h)
theorem mpn_18_5 (v : Int) (h : ((0 ≤ i ∧ i < P 3 0 0) ∧ (0 ≤ j ∧ j < P 1 (P 4 i 0) 0))) : zup1 (mn W Δ ad P S X) (18, i, j, 0) (some (.inr (5, List.set [.ref (ad (11, P 4 i 0, j, 0)), .ref (ad (19, i, j, 0)), .ref (ad (20, i, j, 0)), .ref (ad (21, i, j, 0)), .int (zI ((S (18, i, j, 0)) 4)), .int (zI ((S (18, i, j, 0)) 5)), .int (zI ((S (18, i, j, 0)) 6))] 5 (.int (zI v))))) = mn W Δ ad P (zst S (18, i, j, 0) 5 v) X := mn_up (by simp) (mp_18_5 v h)
theorem mpn_18_6 (v : Int) (h : ((0 ≤ i ∧ i < P 3 0 0) ∧ (0 ≤ j ∧ j < P 1 (P 4 i 0) 0))) : zup1 (mn W Δ ad P S X) (18, i, j, 0) (some (.inr (5, List.set [.ref (ad (11, P 4 i 0, j, 0)), .ref (ad (19, i, j, 0)), .ref (ad (20, i, j, 0)), .ref (ad (21, i, j, 0)), .int (zI ((S (18, i, j, 0)) 4)), .int (zI ((S (18, i, j, 0)) 5)), .int (zI ((S (18, i, j, 0)) 6))] 6 (.int (zI v))))) = mn W Δ ad P (zst S (18, i, j, 0) 6 v) X := mn_up (by simp) (mp_18_6 v h)
theorem mpn_19 (f v : Int) (h : ((0 ≤ i ∧ i < P 3 0 0) ∧ (0 ≤ j ∧ j < P 1 (P 4 i 0) 0))) : zup1 (mn W Δ ad P S X) (19, i, j, 0) (some (.inl (Δ.2.1 0, 80, .inl (zAi (zup (S (19, i, j, 0)) f v))))) = mn W Δ ad P (zst S (19, i, j, 0) f v) X := mn_up (by simp) (mp_19 f v h)
theorem mpn_20 (f v : Int) (h : ((0 ≤ i ∧ i < P 3 0 0) ∧ (0 ≤ j ∧ j < P 1 (P 4 i 0) 0))) : zup1 (mn W Δ ad P S X) (20, i, j, 0) (some (.inl (Δ.2.1 0, 80, .inl (zAi (zup (S (20, i, j, 0)) f v))))) = mn W Δ ad P (zst S (20, i, j, 0) f v) X := mn_up (by simp) (mp_20 f v h)
end ZMN
theorem G_namen {Γ : zCx} {R : Room} {cc : ByteArray} {nL : Nat} {own : String} {ad : zK → Nat} {nc ns pc : Nat} {lv : List (Nat × Value)} {st : List Value} {Δ : zDl} {P : zP} {S : zS} {X W : zMem} (kk : ∀ T : zS, T = S → G Γ R cc nL own ad (mn W Δ ad P T X) nc ns pc lv st) : G Γ R cc nL own ad (mn W Δ ad P S X) nc ns pc lv st := kk S rfl
set_option maxHeartbeats 4000000 in
set_option maxRecDepth 100000 in
theorem cn_AL_size_12 {l : Launch} {Δ : zDl} {ad : zK → Nat} {P : zP} {S : zS} {X W : zMem} {t p : Int} (ht : 0 ≤ t ∧ t < P 0 0 0) (hp : 0 ≤ p ∧ p < P 1 t 0) : zMn l Δ yJx4a65c_size_8abf5 cJx4a65c_size_8abf5 1 (some .int) 1 0 0 [.ref (ad (12, t, p, 0))] ad (mn W Δ ad P S X) (zD (some (.int (zI (P 2 t p)))) ad (mn W Δ ad P S X)) := by
  refine zMn_of (by decide) (Nat.le_of_ble_eq_true rfl) (fun Γ hl hΔ hF => ?_)
  subst hl hΔ
  show G Γ _ _ _ RJx4a65c _ _ _ _ _ [(0, .ref (ad (12, t, p, 0)))] []
  refine G_aload_n (pc := 0) 0 0 dJx4a65c_size_8abf5_0 rfl rfl ?_
  refine G_getf (pc := 1) fl_Jx4a65c_48 dJx4a65c_size_8abf5_1 (mgn_12 (by first | assumption | omega | exact ⟨by omega, by omega⟩ | exact hS _ _ | exact hT _ _)) rfl ?_
  exact G_iret_d (pc := 4) hF dJx4a65c_size_8abf5_4 ⟨Nat.le_of_ble_eq_true rfl, Nat.le_of_ble_eq_true rfl⟩ (by first | rfl | omega | simp_all)
set_option maxHeartbeats 4000000 in
set_option maxRecDepth 100000 in
theorem cn_X3_size {l : Launch} {Δ : zDl} {ad : zK → Nat} {P : zP} {S : zS} {X W : zMem} {t p : Int} (ht : 0 ≤ t ∧ t < P 0 0 0) (hp : 0 ≤ p ∧ p < P 1 t 0) : zMn l Δ yX3_size cX3_size 1 (some .int) 2 0 0 [.ref (ad (11, t, p, 0))] ad (mn W Δ ad P S X) (zD (some (.int (zI (P 2 t p)))) ad (mn W Δ ad P S X)) := by
  refine zMn_of (by decide) (Nat.le_of_ble_eq_true rfl) (fun Γ hl hΔ hF => ?_)
  subst hl hΔ
  show G Γ _ _ _ RX3 _ _ _ _ _ [(0, .ref (ad (11, t, p, 0)))] []
  refine G_aload_n (pc := 0) 0 0 dX3_size_0 rfl rfl ?_
  refine G_getf (pc := 1) fl_X3_12 dX3_size_1 (mgn_11 (by first | assumption | omega | exact ⟨by omega, by omega⟩ | exact hS _ _ | exact hT _ _)) rfl ?_
  refine G_callVd (pc := 4) gk_X3_22 dX3_size_4 (mgn_12 (by first | assumption | omega | exact ⟨by omega, by omega⟩ | exact hS _ _ | exact hT _ _)) rfl (cn_AL_size_12 (by first | assumption | omega | exact ⟨by omega, by omega⟩ | exact hS _ _ | exact hT _ _) (by first | assumption | omega | exact ⟨by omega, by omega⟩ | exact hS _ _ | exact hT _ _)) rfl rfl (Nat.le_of_ble_eq_true rfl) ⟨⟨Nat.le_of_ble_eq_true rfl, Nat.le_of_ble_eq_true rfl⟩, Nat.le_of_ble_eq_true rfl, Nat.le_of_ble_eq_true rfl⟩ ?_
  exact G_iret_d (pc := 7) hF dX3_size_7 ⟨Nat.le_of_ble_eq_true rfl, Nat.le_of_ble_eq_true rfl⟩ (by first | rfl | omega | simp_all)
set_option maxHeartbeats 4000000 in
set_option maxRecDepth 100000 in
theorem cn_J3_checkIndex_8e157 {l : Launch} {Δ : zDl} {ad : zK → Nat} {P : zP} {S : zS} {X W : zMem} {x n : Int} (hx : 0 ≤ x ∧ x < n ∧ n < 2147483648) : zMn l Δ yJ3_checkIndex_8e157 cJ3_checkIndex_8e157 3 (some .int) 1 0 0 [.int (zI x), .int (zI n), .null] ad (mn W Δ ad P S X) (zD (some (.int (zI x))) ad (mn W Δ ad P S X)) := by
  refine zMn_of (by decide) (Nat.le_of_ble_eq_true rfl) (fun Γ hl hΔ hF => ?_)
  subst hl hΔ
  show G Γ _ _ _ RJ3 _ _ _ _ _ [(0, .int (zI x)), (1, .int (zI n)), (2, .null)] []
  refine G_iload_n (pc := 0) 0 0 dJ3_checkIndex_8e157_0 rfl rfl ?_
  refine G_if_lt (pc := 1) 9 dJ3_checkIndex_8e157_1 (by decide) (by first | exact hS _ _ | exact hT _ _ | exact ⟨by omega, by omega⟩ | assumption) (fun c1 => ?_) (fun c1 => ?_)
  · exfalso
    omega
  · refine G_iload_n (pc := 4) 0 0 dJ3_checkIndex_8e157_4 rfl rfl ?_
    refine G_iload_n (pc := 5) 1 1 dJ3_checkIndex_8e157_5 rfl rfl ?_
    refine G_icmp_lt (pc := 6) 16 dJ3_checkIndex_8e157_6 (by decide) (by first | exact hS _ _ | exact hT _ _ | exact ⟨by omega, by omega⟩ | assumption) (by first | exact hS _ _ | exact hT _ _ | exact ⟨by omega, by omega⟩ | assumption) (fun c6 => ?_) (fun c6 => ?_)
    · refine G_iload_n (pc := 16) 0 0 dJ3_checkIndex_8e157_16 rfl rfl ?_
      exact G_iret_d (pc := 17) hF dJ3_checkIndex_8e157_17 ⟨Nat.le_of_ble_eq_true rfl, Nat.le_of_ble_eq_true rfl⟩ (by first | rfl | omega | simp_all)
    · exfalso
      omega
set_option maxHeartbeats 4000000 in
set_option maxRecDepth 100000 in
theorem cn_J15_checkIndex_7cf53 {l : Launch} {Δ : zDl} {ad : zK → Nat} {P : zP} {S : zS} {X W : zMem} {x n : Int} (hx : 0 ≤ x ∧ x < n ∧ n < 2147483648) : zMn l Δ yJ15_checkIndex_7cf53 cJ15_checkIndex_7cf53 2 (some .int) 2 0 0 [.int (zI x), .int (zI n)] ad (mn W Δ ad P S X) (zD (some (.int (zI x))) ad (mn W Δ ad P S X)) := by
  refine zMn_of (by decide) (Nat.le_of_ble_eq_true rfl) (fun Γ hl hΔ hF => ?_)
  subst hl hΔ
  show G Γ _ _ _ RJ15 _ _ _ _ _ [(0, .int (zI x)), (1, .int (zI n))] []
  refine G_iload_n (pc := 0) 0 0 dJ15_checkIndex_7cf53_0 rfl rfl ?_
  refine G_iload_n (pc := 1) 1 1 dJ15_checkIndex_7cf53_1 rfl rfl ?_
  refine G_null (pc := 2) dJ15_checkIndex_7cf53_2 ?_
  refine G_callSd (pc := 3) gk_J15_105 dJ15_checkIndex_7cf53_3 (cn_J3_checkIndex_8e157 (by first | assumption | omega | exact ⟨by omega, by omega⟩ | exact hS _ _ | exact hT _ _)) rfl rfl (Nat.le_of_ble_eq_true rfl) ⟨⟨Nat.le_of_ble_eq_true rfl, Nat.le_of_ble_eq_true rfl⟩, Nat.le_of_ble_eq_true rfl, Nat.le_of_ble_eq_true rfl⟩ ?_
  exact G_iret_d (pc := 6) hF dJ15_checkIndex_7cf53_6 ⟨Nat.le_of_ble_eq_true rfl, Nat.le_of_ble_eq_true rfl⟩ (by first | rfl | omega | simp_all)
set_option maxHeartbeats 4000000 in
set_option maxRecDepth 100000 in
theorem cn_AL_elementData_12 {l : Launch} {Δ : zDl} {ad : zK → Nat} {P : zP} {S : zS} {X W : zMem} {t p x : Int} (hP : zWP P) (ht : 0 ≤ t ∧ t < P 0 0 0) (hp : 0 ≤ p ∧ p < P 1 t 0) (hx : 0 ≤ x ∧ x < P 2 t p) : zMn l Δ yJx4a65c_elementData_915e3 cJx4a65c_elementData_915e3 2 (some (.object "java/lang/Object")) 1 0 0 [.ref (ad (12, t, p, 0)), .int (zI x)] ad (mn W Δ ad P S X) (zD (some (.ref (ad (14, t, p, x)))) ad (mn W Δ ad P S X)) := by
  refine zMn_of (by decide) (Nat.le_of_ble_eq_true rfl) (fun Γ hl hΔ hF => ?_)
  subst hl hΔ
  show G Γ _ _ _ RJx4a65c _ _ _ _ _ [(0, .ref (ad (12, t, p, 0))), (1, .int (zI x))] []
  have hM := hP.m ht hp
  refine G_aload_n (pc := 0) 0 0 dJx4a65c_elementData_915e3_0 rfl rfl ?_
  refine G_getf (pc := 1) fl_Jx4a65c_9 dJx4a65c_elementData_915e3_1 (mgn_12 (by first | assumption | omega | exact ⟨by omega, by omega⟩ | exact hS _ _ | exact hT _ _)) (congrArg (fun q => some (Value.ref q)) (if_neg (by omega))) ?_
  refine G_iload_n (pc := 4) 1 1 dJx4a65c_elementData_915e3_4 rfl rfl ?_
  refine G_aald (pc := 5) (t := 4) rfl dJx4a65c_elementData_915e3_5 (mgn_13 (by first | assumption | omega | exact ⟨by omega, by omega⟩ | exact hS _ _ | exact hT _ _)) ⟨by omega, by omega, by omega, by omega⟩ (if_pos (by omega)) ?_
  exact G_aret (pc := 6) hF (Or.inl ⟨_, rfl⟩) dJx4a65c_elementData_915e3_6 ⟨Nat.le_of_ble_eq_true rfl, Nat.le_of_ble_eq_true rfl⟩ ⟨rfl, rfl, rfl⟩
set_option maxHeartbeats 4000000 in
set_option maxRecDepth 100000 in
theorem cn_AL_get_12 {l : Launch} {Δ : zDl} {ad : zK → Nat} {P : zP} {S : zS} {X W : zMem} {t p x : Int} (hP : zWP P) (ht : 0 ≤ t ∧ t < P 0 0 0) (hp : 0 ≤ p ∧ p < P 1 t 0) (hx : 0 ≤ x ∧ x < P 2 t p) : zMn l Δ yJx4a65c_get_915e3 cJx4a65c_get_915e3 2 (some (.object "java/lang/Object")) 3 0 0 [.ref (ad (12, t, p, 0)), .int (zI x)] ad (mn W Δ ad P S X) (zD (some (.ref (ad (14, t, p, x)))) ad (mn W Δ ad P S X)) := by
  refine zMn_of (by decide) (Nat.le_of_ble_eq_true rfl) (fun Γ hl hΔ hF => ?_)
  subst hl hΔ
  show G Γ _ _ _ RJx4a65c _ _ _ _ _ [(0, .ref (ad (12, t, p, 0))), (1, .int (zI x))] []
  have hM := hP.m ht hp
  refine G_iload_n (pc := 0) 1 1 dJx4a65c_get_915e3_0 rfl rfl ?_
  refine G_aload_n (pc := 1) 0 0 dJx4a65c_get_915e3_1 rfl rfl ?_
  refine G_getf (pc := 2) fl_Jx4a65c_48 dJx4a65c_get_915e3_2 (mgn_12 (by first | assumption | omega | exact ⟨by omega, by omega⟩ | exact hS _ _ | exact hT _ _)) rfl ?_
  refine G_callSd (pc := 5) gk_Jx4a65c_118 dJx4a65c_get_915e3_5 (cn_J15_checkIndex_7cf53 (by first | assumption | omega | exact ⟨by omega, by omega⟩ | exact hS _ _ | exact hT _ _)) rfl rfl (Nat.le_of_ble_eq_true rfl) ⟨⟨Nat.le_of_ble_eq_true rfl, Nat.le_of_ble_eq_true rfl⟩, Nat.le_of_ble_eq_true rfl, Nat.le_of_ble_eq_true rfl⟩ ?_
  refine G_pop (pc := 8) dJx4a65c_get_915e3_8 rfl ?_
  refine G_aload_n (pc := 9) 0 0 dJx4a65c_get_915e3_9 rfl rfl ?_
  refine G_iload_n (pc := 10) 1 1 dJx4a65c_get_915e3_10 rfl rfl ?_
  refine G_callVd (pc := 11) gk_Jx4a65c_123 dJx4a65c_get_915e3_11 (mgn_12 (by first | assumption | omega | exact ⟨by omega, by omega⟩ | exact hS _ _ | exact hT _ _)) rfl (cn_AL_elementData_12 (by first | assumption | omega | exact ⟨by omega, by omega⟩ | exact hS _ _ | exact hT _ _) (by first | assumption | omega | exact ⟨by omega, by omega⟩ | exact hS _ _ | exact hT _ _) (by first | assumption | omega | exact ⟨by omega, by omega⟩ | exact hS _ _ | exact hT _ _) (by first | assumption | omega | exact ⟨by omega, by omega⟩ | exact hS _ _ | exact hT _ _)) rfl rfl (Nat.le_of_ble_eq_true rfl) ⟨⟨Nat.le_of_ble_eq_true rfl, Nat.le_of_ble_eq_true rfl⟩, Nat.le_of_ble_eq_true rfl, Nat.le_of_ble_eq_true rfl⟩ ?_
  exact G_aret (pc := 14) hF (Or.inl ⟨_, rfl⟩) dJx4a65c_get_915e3_14 ⟨Nat.le_of_ble_eq_true rfl, Nat.le_of_ble_eq_true rfl⟩ ⟨rfl, rfl, rfl⟩
set_option maxHeartbeats 4000000 in
set_option maxRecDepth 100000 in
theorem cn_X3_at {l : Launch} {Δ : zDl} {ad : zK → Nat} {P : zP} {S : zS} {X W : zMem} {t p o : Int} (hP : zWP P) (ht : 0 ≤ t ∧ t < P 0 0 0) (hp : 0 ≤ p ∧ p < P 1 t 0) (ho : 0 ≤ o ∧ o < P 2 t p) : zMn l Δ yX3_at cX3_at 2 (some (.object "TailraceBroker$Message")) 4 0 0 [.ref (ad (11, t, p, 0)), .int (zI o)] ad (mn W Δ ad P S X) (zD (some (.ref (ad (14, t, p, o)))) ad (mn W Δ ad P S X)) := by
  refine zMn_of (by decide) (Nat.le_of_ble_eq_true rfl) (fun Γ hl hΔ hF => ?_)
  subst hl hΔ
  show G Γ _ _ _ RX3 _ _ _ _ _ [(0, .ref (ad (11, t, p, 0))), (1, .int (zI o))] []
  refine G_aload_n (pc := 0) 0 0 dX3_at_0 rfl rfl ?_
  refine G_getf (pc := 1) fl_X3_12 dX3_at_1 (mgn_11 (by first | assumption | omega | exact ⟨by omega, by omega⟩ | exact hS _ _ | exact hT _ _)) rfl ?_
  refine G_iload_n (pc := 4) 1 1 dX3_at_4 rfl rfl ?_
  refine G_callVd (pc := 5) gk_X3_30 dX3_at_5 (mgn_12 (by first | assumption | omega | exact ⟨by omega, by omega⟩ | exact hS _ _ | exact hT _ _)) rfl (cn_AL_get_12 (by first | assumption | omega | exact ⟨by omega, by omega⟩ | exact hS _ _ | exact hT _ _) (by first | assumption | omega | exact ⟨by omega, by omega⟩ | exact hS _ _ | exact hT _ _) (by first | assumption | omega | exact ⟨by omega, by omega⟩ | exact hS _ _ | exact hT _ _) (by first | assumption | omega | exact ⟨by omega, by omega⟩ | exact hS _ _ | exact hT _ _)) rfl rfl (Nat.le_of_ble_eq_true rfl) ⟨⟨Nat.le_of_ble_eq_true rfl, Nat.le_of_ble_eq_true rfl⟩, Nat.le_of_ble_eq_true rfl, Nat.le_of_ble_eq_true rfl⟩ ?_
  refine G_cast (pc := 8) ct_X3_34 dX3_at_8 (mgn_14 (by first | assumption | omega | exact ⟨by omega, by omega⟩ | exact hS _ _ | exact hT _ _)) ?_
  exact G_aret (pc := 11) hF (Or.inl ⟨_, rfl⟩) dX3_at_11 ⟨Nat.le_of_ble_eq_true rfl, Nat.le_of_ble_eq_true rfl⟩ ⟨rfl, rfl, rfl⟩
set_option maxHeartbeats 4000000 in
set_option maxRecDepth 100000 in
theorem cn_X4_isThrough {l : Launch} {Δ : zDl} {ad : zK → Nat} {P : zP} {S : zS} {X W : zMem} {g p o : Int} (hg : 0 ≤ g ∧ g < P 3 0 0) (hp : 0 ≤ p ∧ p < P 1 (P 4 g 0) 0) (ho : 0 ≤ o ∧ o < 80) (hS : ∀ k f, zR (S k f)) : zMn l Δ yX4_isThrough cX4_isThrough 2 (some .boolean) 1 0 0 [.ref (ad (18, g, p, 0)), .int (zI o)] ad (mn W Δ ad P S X) (zD (some (.int (zI (if jt S g p o then 1 else 0)))) ad (mn W Δ ad P S X)) := by
  refine zMn_of (by decide) (Nat.le_of_ble_eq_true rfl) (fun Γ hl hΔ hF => ?_)
  subst hl hΔ
  show G Γ _ _ _ RX4 _ _ _ _ _ [(0, .ref (ad (18, g, p, 0))), (1, .int (zI o))] []
  refine G_aload_n (pc := 0) 0 0 dX4_isThrough_0 rfl rfl ?_
  refine G_getf (pc := 1) fl_X4_9 dX4_isThrough_1 (mgn_18 (by first | assumption | omega | exact ⟨by omega, by omega⟩ | exact hS _ _ | exact hT _ _)) rfl ?_
  refine G_iload_n (pc := 4) 1 1 dX4_isThrough_4 rfl rfl ?_
  refine G_iald (pc := 5) dX4_isThrough_5 (mgn_19 (by first | assumption | omega | exact ⟨by omega, by omega⟩ | exact hS _ _ | exact hT _ _)) ⟨by omega, by omega, by omega, by omega⟩ ?_
  refine G_iconst (pc := 6) dX4_isThrough_6 ?_
  refine G_icmp_eq (pc := 7) 20 dX4_isThrough_7 (by decide) (by first | exact hS _ _ | exact hT _ _ | exact ⟨by omega, by omega⟩ | assumption) (by first | exact hS _ _ | exact hT _ _ | exact ⟨by omega, by omega⟩ | assumption) (fun c7 => ?_) (fun c7 => ?_)
  · refine G_iconst (pc := 20) dX4_isThrough_20 ?_
    refine G_goto (pc := 21) 25 dX4_isThrough_21 (by decide) ?_
    exact G_zret_d (pc := 25) hF dX4_isThrough_25 ⟨Nat.le_of_ble_eq_true rfl, Nat.le_of_ble_eq_true rfl⟩ (by first | exact zb_ite | omega) (by first | exact (if_pos (by first | assumption | omega)).symm | exact (if_neg (by first | assumption | omega)).symm | rfl | omega)
  · refine G_aload_n (pc := 10) 0 0 dX4_isThrough_10 rfl rfl ?_
    refine G_getf (pc := 11) fl_X4_9 dX4_isThrough_11 (mgn_18 (by first | assumption | omega | exact ⟨by omega, by omega⟩ | exact hS _ _ | exact hT _ _)) rfl ?_
    refine G_iload_n (pc := 14) 1 1 dX4_isThrough_14 rfl rfl ?_
    refine G_iald (pc := 15) dX4_isThrough_15 (mgn_19 (by first | assumption | omega | exact ⟨by omega, by omega⟩ | exact hS _ _ | exact hT _ _)) ⟨by omega, by omega, by omega, by omega⟩ ?_
    refine G_iconst (pc := 16) dX4_isThrough_16 ?_
    refine G_icmp_ne (pc := 17) 24 dX4_isThrough_17 (by decide) (by first | exact hS _ _ | exact hT _ _ | exact ⟨by omega, by omega⟩ | assumption) (by first | exact hS _ _ | exact hT _ _ | exact ⟨by omega, by omega⟩ | assumption) (fun c17 => ?_) (fun c17 => ?_)
    · refine G_iconst (pc := 24) dX4_isThrough_24 ?_
      exact G_zret_d (pc := 25) hF dX4_isThrough_25 ⟨Nat.le_of_ble_eq_true rfl, Nat.le_of_ble_eq_true rfl⟩ (by first | exact zb_ite | omega) (by first | exact (if_pos (by first | assumption | omega)).symm | exact (if_neg (by first | assumption | omega)).symm | rfl | omega)
    · refine G_iconst (pc := 20) dX4_isThrough_20 ?_
      refine G_goto (pc := 21) 25 dX4_isThrough_21 (by decide) ?_
      exact G_zret_d (pc := 25) hF dX4_isThrough_25 ⟨Nat.le_of_ble_eq_true rfl, Nat.le_of_ble_eq_true rfl⟩ (by first | exact zb_ite | omega) (by first | exact (if_pos (by first | assumption | omega)).symm | exact (if_neg (by first | assumption | omega)).symm | rfl | omega)
set_option maxHeartbeats 4000000 in
set_option maxRecDepth 100000 in
theorem cn_X4_isBehind {l : Launch} {Δ : zDl} {ad : zK → Nat} {P : zP} {S : zS} {X W : zMem} {g p o : Int} (hP : zWP P) (hg : 0 ≤ g ∧ g < P 3 0 0) (hp : 0 ≤ p ∧ p < P 1 (P 4 g 0) 0) (ho : 0 ≤ o ∧ o < P 2 (P 4 g 0) p) (hS : ∀ k f, zR (S k f)) : zMn l Δ yX4_isBehind cX4_isBehind 3 (some .boolean) 5 0 0 [.ref (ad (18, g, p, 0)), .int (zI o)] ad (mn W Δ ad P S X) (zD (some (.int (zI (if jb P S g p o then 1 else 0)))) ad (mn W Δ ad P S X)) := by
  refine zMn_of (by decide) (Nat.le_of_ble_eq_true rfl) (fun Γ hl hΔ hF => ?_)
  subst hl hΔ
  show G Γ _ _ _ RX4 _ _ _ _ _ [(0, .ref (ad (18, g, p, 0))), (1, .int (zI o))] []
  have hG := hP.g hg
  have hM := hP.m hG hp
  refine G_aload_n (pc := 0) 0 0 dX4_isBehind_0 rfl rfl ?_
  refine G_getf (pc := 1) fl_X4_25 dX4_isBehind_1 (mgn_18 (by first | assumption | omega | exact ⟨by omega, by omega⟩ | exact hS _ _ | exact hT _ _)) rfl ?_
  refine G_iload_n (pc := 4) 1 1 dX4_isBehind_4 rfl rfl ?_
  refine G_callVd (pc := 5) gk_X4_51 dX4_isBehind_5 (mgn_11 (by first | assumption | omega | exact ⟨by omega, by omega⟩ | exact hS _ _ | exact hT _ _)) rfl (cn_X3_at (by first | assumption | omega | exact ⟨by omega, by omega⟩ | exact hS _ _ | exact hT _ _) (by first | assumption | omega | exact ⟨by omega, by omega⟩ | exact hS _ _ | exact hT _ _) (by first | assumption | omega | exact ⟨by omega, by omega⟩ | exact hS _ _ | exact hT _ _) (by first | assumption | omega | exact ⟨by omega, by omega⟩ | exact hS _ _ | exact hT _ _)) rfl rfl (Nat.le_of_ble_eq_true rfl) ⟨⟨Nat.le_of_ble_eq_true rfl, Nat.le_of_ble_eq_true rfl⟩, Nat.le_of_ble_eq_true rfl, Nat.le_of_ble_eq_true rfl⟩ ?_
  refine G_astore_n (pc := 8) 2 [(2, .ref (ad (14, (P 4 g 0), p, o))), (0, .ref (ad (18, g, p, 0))), (1, .int (zI o))] dX4_isBehind_8 rfl (by decide) rfl ?_
  refine G_aload_n (pc := 9) 2 0 dX4_isBehind_9 rfl rfl ?_
  refine G_getf (pc := 10) fl_X4_68 dX4_isBehind_10 (mgn_14 (by first | assumption | omega | exact ⟨by omega, by omega⟩ | exact hS _ _ | exact hT _ _)) rfl ?_
  refine G_if_ne (pc := 13) 32 dX4_isBehind_13 (by decide) (by first | exact hS _ _ | exact hT _ _ | exact ⟨by omega, by omega⟩ | assumption) (fun c13 => ?_) (fun c13 => ?_)
  · refine G_iconst (pc := 32) dX4_isBehind_32 ?_
    refine G_goto (pc := 33) 37 dX4_isBehind_33 (by decide) ?_
    exact G_zret_d (pc := 37) hF dX4_isBehind_37 ⟨Nat.le_of_ble_eq_true rfl, Nat.le_of_ble_eq_true rfl⟩ (by first | exact zb_ite | omega) (by first | exact (if_pos (by first | assumption | omega)).symm | exact (if_neg (by first | assumption | omega)).symm | rfl | omega)
  · refine G_aload_n (pc := 16) 2 0 dX4_isBehind_16 rfl rfl ?_
    refine G_getf (pc := 17) fl_X4_81 dX4_isBehind_17 (mgn_14 (by first | assumption | omega | exact ⟨by omega, by omega⟩ | exact hS _ _ | exact hT _ _)) rfl ?_
    refine G_iconst (pc := 20) dX4_isBehind_20 ?_
    refine G_icmp_eq (pc := 21) 32 dX4_isBehind_21 (by decide) (by first | exact hS _ _ | exact hT _ _ | exact ⟨by omega, by omega⟩ | assumption) (by first | exact hS _ _ | exact hT _ _ | exact ⟨by omega, by omega⟩ | assumption) (fun c21 => ?_) (fun c21 => ?_)
    · refine G_iconst (pc := 32) dX4_isBehind_32 ?_
      refine G_goto (pc := 33) 37 dX4_isBehind_33 (by decide) ?_
      exact G_zret_d (pc := 37) hF dX4_isBehind_37 ⟨Nat.le_of_ble_eq_true rfl, Nat.le_of_ble_eq_true rfl⟩ (by first | exact zb_ite | omega) (by first | exact (if_pos (by first | assumption | omega)).symm | exact (if_neg (by first | assumption | omega)).symm | rfl | omega)
    · refine G_aload_n (pc := 24) 0 1 dX4_isBehind_24 rfl rfl ?_
      refine G_iload_n (pc := 25) 1 2 dX4_isBehind_25 rfl rfl ?_
      refine G_callVd (pc := 26) gk_X4_84 dX4_isBehind_26 (mgn_18 (by first | assumption | omega | exact ⟨by omega, by omega⟩ | exact hS _ _ | exact hT _ _)) rfl (cn_X4_isThrough (by first | assumption | omega | exact ⟨by omega, by omega⟩ | exact hS _ _ | exact hT _ _) (by first | assumption | omega | exact ⟨by omega, by omega⟩ | exact hS _ _ | exact hT _ _) (by first | assumption | omega | exact ⟨by omega, by omega⟩ | exact hS _ _ | exact hT _ _) (by first | assumption | omega | exact ⟨by omega, by omega⟩ | exact hS _ _ | exact hT _ _)) rfl rfl (Nat.le_of_ble_eq_true rfl) ⟨⟨Nat.le_of_ble_eq_true rfl, Nat.le_of_ble_eq_true rfl⟩, Nat.le_of_ble_eq_true rfl, Nat.le_of_ble_eq_true rfl⟩ ?_
      refine G_if_eq_b (pc := 29) 36 dX4_isBehind_29 (by decide) (fun c29 => ?_) (fun c29 => ?_)
      · refine G_iconst (pc := 36) dX4_isBehind_36 ?_
        exact G_zret_d (pc := 37) hF dX4_isBehind_37 ⟨Nat.le_of_ble_eq_true rfl, Nat.le_of_ble_eq_true rfl⟩ (by first | exact zb_ite | omega) (by first | exact (if_pos (by first | assumption | omega)).symm | exact (if_neg (by first | assumption | omega)).symm | rfl | omega)
      · refine G_iconst (pc := 32) dX4_isBehind_32 ?_
        refine G_goto (pc := 33) 37 dX4_isBehind_33 (by decide) ?_
        exact G_zret_d (pc := 37) hF dX4_isBehind_37 ⟨Nat.le_of_ble_eq_true rfl, Nat.le_of_ble_eq_true rfl⟩ (by first | exact zb_ite | omega) (by first | exact (if_pos (by first | assumption | omega)).symm | exact (if_neg (by first | assumption | omega)).symm | rfl | omega)
set_option maxHeartbeats 4000000 in
set_option maxRecDepth 100000 in
theorem cn_X4_isUnderway {l : Launch} {Δ : zDl} {ad : zK → Nat} {P : zP} {S : zS} {X W : zMem} {g p o : Int} (hg : 0 ≤ g ∧ g < P 3 0 0) (hp : 0 ≤ p ∧ p < P 1 (P 4 g 0) 0) (ho : 0 ≤ o ∧ o < 80) (hS : ∀ k f, zR (S k f)) : zMn l Δ yX4_isUnderway cX4_isUnderway 2 (some .boolean) 1 0 0 [.ref (ad (18, g, p, 0)), .int (zI o)] ad (mn W Δ ad P S X) (zD (some (.int (zI (if ju S g p o then 1 else 0)))) ad (mn W Δ ad P S X)) := by
  refine zMn_of (by decide) (Nat.le_of_ble_eq_true rfl) (fun Γ hl hΔ hF => ?_)
  subst hl hΔ
  show G Γ _ _ _ RX4 _ _ _ _ _ [(0, .ref (ad (18, g, p, 0))), (1, .int (zI o))] []
  refine G_aload_n (pc := 0) 0 0 dX4_isUnderway_0 rfl rfl ?_
  refine G_getf (pc := 1) fl_X4_9 dX4_isUnderway_1 (mgn_18 (by first | assumption | omega | exact ⟨by omega, by omega⟩ | exact hS _ _ | exact hT _ _)) rfl ?_
  refine G_iload_n (pc := 4) 1 1 dX4_isUnderway_4 rfl rfl ?_
  refine G_iald (pc := 5) dX4_isUnderway_5 (mgn_19 (by first | assumption | omega | exact ⟨by omega, by omega⟩ | exact hS _ _ | exact hT _ _)) ⟨by omega, by omega, by omega, by omega⟩ ?_
  refine G_iconst (pc := 6) dX4_isUnderway_6 ?_
  refine G_icmp_eq (pc := 7) 20 dX4_isUnderway_7 (by decide) (by first | exact hS _ _ | exact hT _ _ | exact ⟨by omega, by omega⟩ | assumption) (by first | exact hS _ _ | exact hT _ _ | exact ⟨by omega, by omega⟩ | assumption) (fun c7 => ?_) (fun c7 => ?_)
  · refine G_iconst (pc := 20) dX4_isUnderway_20 ?_
    refine G_goto (pc := 21) 25 dX4_isUnderway_21 (by decide) ?_
    exact G_zret_d (pc := 25) hF dX4_isUnderway_25 ⟨Nat.le_of_ble_eq_true rfl, Nat.le_of_ble_eq_true rfl⟩ (by first | exact zb_ite | omega) (by first | exact (if_pos (by first | assumption | omega)).symm | exact (if_neg (by first | assumption | omega)).symm | rfl | omega)
  · refine G_aload_n (pc := 10) 0 0 dX4_isUnderway_10 rfl rfl ?_
    refine G_getf (pc := 11) fl_X4_9 dX4_isUnderway_11 (mgn_18 (by first | assumption | omega | exact ⟨by omega, by omega⟩ | exact hS _ _ | exact hT _ _)) rfl ?_
    refine G_iload_n (pc := 14) 1 1 dX4_isUnderway_14 rfl rfl ?_
    refine G_iald (pc := 15) dX4_isUnderway_15 (mgn_19 (by first | assumption | omega | exact ⟨by omega, by omega⟩ | exact hS _ _ | exact hT _ _)) ⟨by omega, by omega, by omega, by omega⟩ ?_
    refine G_iconst (pc := 16) dX4_isUnderway_16 ?_
    refine G_icmp_ne (pc := 17) 24 dX4_isUnderway_17 (by decide) (by first | exact hS _ _ | exact hT _ _ | exact ⟨by omega, by omega⟩ | assumption) (by first | exact hS _ _ | exact hT _ _ | exact ⟨by omega, by omega⟩ | assumption) (fun c17 => ?_) (fun c17 => ?_)
    · refine G_iconst (pc := 24) dX4_isUnderway_24 ?_
      exact G_zret_d (pc := 25) hF dX4_isUnderway_25 ⟨Nat.le_of_ble_eq_true rfl, Nat.le_of_ble_eq_true rfl⟩ (by first | exact zb_ite | omega) (by first | exact (if_pos (by first | assumption | omega)).symm | exact (if_neg (by first | assumption | omega)).symm | rfl | omega)
    · refine G_iconst (pc := 20) dX4_isUnderway_20 ?_
      refine G_goto (pc := 21) 25 dX4_isUnderway_21 (by decide) ?_
      exact G_zret_d (pc := 25) hF dX4_isUnderway_25 ⟨Nat.le_of_ble_eq_true rfl, Nat.le_of_ble_eq_true rfl⟩ (by first | exact zb_ite | omega) (by first | exact (if_pos (by first | assumption | omega)).symm | exact (if_neg (by first | assumption | omega)).symm | rfl | omega)
set_option maxHeartbeats 4000000 in
set_option maxRecDepth 100000 in
theorem cn_X4_forget {l : Launch} {Δ : zDl} {ad : zK → Nat} {P : zP} {S : zS} {X W : zMem} {g p o : Int} (hg : 0 ≤ g ∧ g < P 3 0 0) (hp : 0 ≤ p ∧ p < P 1 (P 4 g 0) 0) (ho : 0 ≤ o ∧ o < 80) : zMn l Δ yX4_forget cX4_forget 2 none 1 0 0 [.ref (ad (18, g, p, 0)), .int (zI o)] ad (mn W Δ ad P S X) (zD none ad (mn W Δ ad P (zfg S g p o) X)) := by
  refine zMn_of (by decide) (Nat.le_of_ble_eq_true rfl) (fun Γ hl hΔ hF => ?_)
  subst hl hΔ
  show G Γ _ _ _ RX4 _ _ _ _ _ [(0, .ref (ad (18, g, p, 0))), (1, .int (zI o))] []
  refine G_aload_n (pc := 0) 0 0 dX4_forget_0 rfl rfl ?_
  refine G_getf (pc := 1) fl_X4_9 dX4_forget_1 (mgn_18 (by first | assumption | omega | exact ⟨by omega, by omega⟩ | exact hS _ _ | exact hT _ _)) rfl ?_
  refine G_iload_n (pc := 4) 1 1 dX4_forget_4 rfl rfl ?_
  refine G_iconst (pc := 5) dX4_forget_5 ?_
  refine G_iast (pc := 6) dX4_forget_6 (mgn_19 (by first | assumption | omega | exact ⟨by omega, by omega⟩ | exact hS _ _ | exact hT _ _)) ⟨by omega, by omega, by omega, by omega⟩ (mpn_19 _ _ (by first | assumption | omega | exact ⟨by omega, by omega⟩ | exact hS _ _ | exact hT _ _)) ?_
  refine G_namen (fun S1_6 hS1_6 => ?_)
  refine G_aload_n (pc := 7) 0 0 dX4_forget_7 rfl rfl ?_
  refine G_getf (pc := 8) fl_X4_15 dX4_forget_8 (mgn_18 (by first | assumption | omega | exact ⟨by omega, by omega⟩ | exact hS _ _ | exact hT _ _)) rfl ?_
  refine G_iload_n (pc := 11) 1 1 dX4_forget_11 rfl rfl ?_
  refine G_iconst (pc := 12) dX4_forget_12 ?_
  refine G_iast (pc := 13) dX4_forget_13 (mgn_20 (by first | assumption | omega | exact ⟨by omega, by omega⟩ | exact hS _ _ | exact hT _ _)) ⟨by omega, by omega, by omega, by omega⟩ (mpn_20 _ _ (by first | assumption | omega | exact ⟨by omega, by omega⟩ | exact hS _ _ | exact hT _ _)) ?_
  refine G_namen (fun S2_13 hS2_13 => ?_)
  exact G_vret_d (pc := 14) hF dX4_forget_14 ⟨Nat.le_of_ble_eq_true rfl, Nat.le_of_ble_eq_true rfl⟩ (by rw [hS2_13, hS1_6]; rfl)
set_option maxHeartbeats 4000000 in
set_option maxRecDepth 100000 in
theorem cn_X4_keepUp {l : Launch} {Δ : zDl} {ad : zK → Nat} {P : zP} {S : zS} {X W : zMem} {g p : Int} (hP : zWP P) (hg : 0 ≤ g ∧ g < P 3 0 0) (hp : 0 ≤ p ∧ p < P 1 (P 4 g 0) 0) (hW : zWS P S) : zMn l Δ yX4_keepUp cX4_keepUp 2 none 6 0 0 [.ref (ad (18, g, p, 0))] ad (mn W Δ ad P S X) (zD none ad (mn W Δ ad P (zku P S g p) X)) := by
  refine zMn_of (by decide) (Nat.le_of_ble_eq_true rfl) (fun Γ hl hΔ hF => ?_)
  subst hl hΔ
  show G Γ _ _ _ RX4 _ _ _ _ _ [(0, .ref (ad (18, g, p, 0)))] []
  have hG := hP.g hg
  have hM := hP.m hG hp
  have hN := hP.t hG
  have hS := hW.R
  have hW5 := hW.m hg hp
  refine G_iconst (pc := 0) dX4_keepUp_0 ?_
  refine G_istore_ne (pc := 1) 1 (fun zw => [(1, .int (zI zw)), (0, .ref (ad (18, g, p, 0)))]) dX4_keepUp_1 rfl (by decide) (fun _ => rfl) (fun v1 e1 => ?_)
  have L2 : ∀ (n : Nat) (k : Int) (T : zS), ((0 ≤ k ∧ k ≤ P 2 (P 4 g 0) p) ∧ lp (zk1 P g p) k (P 2 (P 4 g 0) p) T = lp (zk1 P g p) 0 (P 2 (P 4 g 0) p) S ∧ zWS P T) → (P 2 (P 4 g 0) p - k).toNat < n → G Γ (zRm 6 0 0) cX4_keepUp 2 RX4 ad (mn W (z_d Γ) ad P T X) 0 0 2 [(0, .ref (ad (18, g, p, 0))), (1, .int (zI k))] [] := by
    intro n
    induction n with
    | zero => intro k T _ hn; omega
    | succ n ih2 =>
      intro k T hi2 hn2
      obtain ⟨hk, hq, hTW⟩ := hi2
      have hT := hTW.R
      have hT5 := hTW.m hg hp
      refine G_iload_n (pc := 2) 1 1 dX4_keepUp_2 rfl rfl ?_
      refine G_aload_n (pc := 3) 0 0 dX4_keepUp_3 rfl rfl ?_
      refine G_getf (pc := 4) fl_X4_25 dX4_keepUp_4 (mgn_18 (by first | assumption | omega | exact ⟨by omega, by omega⟩ | exact hS _ _ | exact hT _ _)) rfl ?_
      refine G_callVd (pc := 7) gk_X4_44 dX4_keepUp_7 (mgn_11 (by first | assumption | omega | exact ⟨by omega, by omega⟩ | exact hS _ _ | exact hT _ _)) rfl (cn_X3_size (by first | assumption | omega | exact ⟨by omega, by omega⟩ | exact hS _ _ | exact hT _ _) (by first | assumption | omega | exact ⟨by omega, by omega⟩ | exact hS _ _ | exact hT _ _)) rfl rfl (Nat.le_of_ble_eq_true rfl) ⟨⟨Nat.le_of_ble_eq_true rfl, Nat.le_of_ble_eq_true rfl⟩, Nat.le_of_ble_eq_true rfl, Nat.le_of_ble_eq_true rfl⟩ ?_
      refine G_icmp_ge (pc := 10) 46 dX4_keepUp_10 (by decide) (by first | exact hS _ _ | exact hT _ _ | exact ⟨by omega, by omega⟩ | assumption) (by first | exact hS _ _ | exact hT _ _ | exact ⟨by omega, by omega⟩ | assumption) (fun c10 => ?_) (fun c10 => ?_)
      · have L46 : ∀ (n : Nat) (T2 : zS), (zmk P g p (P 2 (P 4 g 0) p - T2 (18, g, p, 0) 5).toNat T2 = zmk P g p (P 2 (P 4 g 0) p - T (18, g, p, 0) 5).toNat T ∧ zWS P T2) → (P 2 (P 4 g 0) p - T2 (18, g, p, 0) 5).toNat < n → G Γ (zRm 6 0 0) cX4_keepUp 2 RX4 ad (mn W (z_d Γ) ad P T2 X) 0 0 46 [(0, .ref (ad (18, g, p, 0)))] [] := by
          intro n
          induction n with
          | zero => intro  T2 _ hn; omega
          | succ n ih46 =>
            intro  T2 hi46 hn46
            obtain ⟨hq2, hTW2⟩ := hi46
            have hT2 := hTW2.R
            have hT25 := hTW2.m hg hp
            refine G_aload_n (pc := 46) 0 0 dX4_keepUp_46 rfl rfl ?_
            refine G_getf (pc := 47) fl_X4_34 dX4_keepUp_47 (mgn_18 (by first | assumption | omega | exact ⟨by omega, by omega⟩ | exact hS _ _ | exact hT _ _)) rfl ?_
            refine G_aload_n (pc := 50) 0 0 dX4_keepUp_50 rfl rfl ?_
            refine G_getf (pc := 51) fl_X4_25 dX4_keepUp_51 (mgn_18 (by first | assumption | omega | exact ⟨by omega, by omega⟩ | exact hS _ _ | exact hT _ _)) rfl ?_
            refine G_callVd (pc := 54) gk_X4_44 dX4_keepUp_54 (mgn_11 (by first | assumption | omega | exact ⟨by omega, by omega⟩ | exact hS _ _ | exact hT _ _)) rfl (cn_X3_size (by first | assumption | omega | exact ⟨by omega, by omega⟩ | exact hS _ _ | exact hT _ _) (by first | assumption | omega | exact ⟨by omega, by omega⟩ | exact hS _ _ | exact hT _ _)) rfl rfl (Nat.le_of_ble_eq_true rfl) ⟨⟨Nat.le_of_ble_eq_true rfl, Nat.le_of_ble_eq_true rfl⟩, Nat.le_of_ble_eq_true rfl, Nat.le_of_ble_eq_true rfl⟩ ?_
            refine G_icmp_ge (pc := 57) 84 dX4_keepUp_57 (by decide) (by first | exact hS _ _ | exact hT _ _ | exact ⟨by omega, by omega⟩ | assumption) (by first | exact hS _ _ | exact hT _ _ | exact ⟨by omega, by omega⟩ | assumption) (fun c57 => ?_) (fun c57 => ?_)
            · have hz6 : T2 = zmk P g p (P 2 (P 4 g 0) p - T (18, g, p, 0) 5).toNat T := by rw [← hq2, zmk_stop _ (fun h => by first | omega | exact c68 h.2)]
              have hz7 : T = lp (zk1 P g p) 0 (P 2 (P 4 g 0) p) S := by rw [← hq, lp_end (by omega)]
              refine G_aload_n (pc := 84) 0 0 dX4_keepUp_84 rfl rfl ?_
              refine G_aload_n (pc := 85) 0 0 dX4_keepUp_85 rfl rfl ?_
              refine G_getf (pc := 86) fl_X4_37 dX4_keepUp_86 (mgn_18 (by first | assumption | omega | exact ⟨by omega, by omega⟩ | exact hS _ _ | exact hT _ _)) rfl ?_
              refine G_aload_n (pc := 89) 0 0 dX4_keepUp_89 rfl rfl ?_
              refine G_getf (pc := 90) fl_X4_34 dX4_keepUp_90 (mgn_18 (by first | assumption | omega | exact ⟨by omega, by omega⟩ | exact hS _ _ | exact hT _ _)) rfl ?_
              refine G_mmax (pc := 93) mx_X4_75 dX4_keepUp_93 (by first | exact hS _ _ | exact hT _ _ | exact ⟨by omega, by omega⟩ | assumption) (by first | exact hS _ _ | exact hT _ _ | exact ⟨by omega, by omega⟩ | assumption) ⟨⟨Nat.le_of_ble_eq_true rfl, Nat.le_of_ble_eq_true rfl⟩, Nat.le_of_ble_eq_true rfl, Nat.le_of_ble_eq_true rfl⟩ ?_
              refine G_putf (pc := 96) fl_X4_37 fp_X4_6 dX4_keepUp_96 (mgn_18 (by first | assumption | omega | exact ⟨by omega, by omega⟩ | exact hS _ _ | exact hT _ _)) (Nat.le_of_ble_eq_true rfl) rfl rfl (mpn_18_6 _ (by first | assumption | omega | exact ⟨by omega, by omega⟩ | exact hS _ _ | exact hT _ _)) ?_
              refine G_namen (fun S1_96 hS1_96 => ?_)
              exact G_vret_d (pc := 99) hF dX4_keepUp_99 ⟨Nat.le_of_ble_eq_true rfl, Nat.le_of_ble_eq_true rfl⟩ (by rw [hS1_96]; unfold zku; rw [← hz7, ← hz6])
            · refine G_aload_n (pc := 60) 0 0 dX4_keepUp_60 rfl rfl ?_
              refine G_aload_n (pc := 61) 0 0 dX4_keepUp_61 rfl rfl ?_
              refine G_getf (pc := 62) fl_X4_34 dX4_keepUp_62 (mgn_18 (by first | assumption | omega | exact ⟨by omega, by omega⟩ | exact hS _ _ | exact hT _ _)) rfl ?_
              refine G_callVd (pc := 65) gk_X4_72 dX4_keepUp_65 (mgn_18 (by first | assumption | omega | exact ⟨by omega, by omega⟩ | exact hS _ _ | exact hT _ _)) rfl (cn_X4_isBehind (by first | assumption | omega | exact ⟨by omega, by omega⟩ | exact hS _ _ | exact hT _ _) (by first | assumption | omega | exact ⟨by omega, by omega⟩ | exact hS _ _ | exact hT _ _) (by first | assumption | omega | exact ⟨by omega, by omega⟩ | exact hS _ _ | exact hT _ _) (by first | assumption | omega | exact ⟨by omega, by omega⟩ | exact hS _ _ | exact hT _ _) (by first | assumption | omega | exact ⟨by omega, by omega⟩ | exact hS _ _ | exact hT _ _)) rfl rfl (Nat.le_of_ble_eq_true rfl) ⟨⟨Nat.le_of_ble_eq_true rfl, Nat.le_of_ble_eq_true rfl⟩, Nat.le_of_ble_eq_true rfl, Nat.le_of_ble_eq_true rfl⟩ ?_
              refine G_if_eq_b (pc := 68) 84 dX4_keepUp_68 (by decide) (fun c68 => ?_) (fun c68 => ?_)
              · have hz6 : T2 = zmk P g p (P 2 (P 4 g 0) p - T (18, g, p, 0) 5).toNat T := by rw [← hq2, zmk_stop _ (fun h => by first | omega | exact c68 h.2)]
                have hz7 : T = lp (zk1 P g p) 0 (P 2 (P 4 g 0) p) S := by rw [← hq, lp_end (by omega)]
                refine G_aload_n (pc := 84) 0 0 dX4_keepUp_84 rfl rfl ?_
                refine G_aload_n (pc := 85) 0 0 dX4_keepUp_85 rfl rfl ?_
                refine G_getf (pc := 86) fl_X4_37 dX4_keepUp_86 (mgn_18 (by first | assumption | omega | exact ⟨by omega, by omega⟩ | exact hS _ _ | exact hT _ _)) rfl ?_
                refine G_aload_n (pc := 89) 0 0 dX4_keepUp_89 rfl rfl ?_
                refine G_getf (pc := 90) fl_X4_34 dX4_keepUp_90 (mgn_18 (by first | assumption | omega | exact ⟨by omega, by omega⟩ | exact hS _ _ | exact hT _ _)) rfl ?_
                refine G_mmax (pc := 93) mx_X4_75 dX4_keepUp_93 (by first | exact hS _ _ | exact hT _ _ | exact ⟨by omega, by omega⟩ | assumption) (by first | exact hS _ _ | exact hT _ _ | exact ⟨by omega, by omega⟩ | assumption) ⟨⟨Nat.le_of_ble_eq_true rfl, Nat.le_of_ble_eq_true rfl⟩, Nat.le_of_ble_eq_true rfl, Nat.le_of_ble_eq_true rfl⟩ ?_
                refine G_putf (pc := 96) fl_X4_37 fp_X4_6 dX4_keepUp_96 (mgn_18 (by first | assumption | omega | exact ⟨by omega, by omega⟩ | exact hS _ _ | exact hT _ _)) (Nat.le_of_ble_eq_true rfl) rfl rfl (mpn_18_6 _ (by first | assumption | omega | exact ⟨by omega, by omega⟩ | exact hS _ _ | exact hT _ _)) ?_
                refine G_namen (fun S2_96 hS2_96 => ?_)
                exact G_vret_d (pc := 99) hF dX4_keepUp_99 ⟨Nat.le_of_ble_eq_true rfl, Nat.le_of_ble_eq_true rfl⟩ (by rw [hS2_96]; unfold zku; rw [← hz7, ← hz6])
              · refine G_aload_n (pc := 71) 0 0 dX4_keepUp_71 rfl rfl ?_
                refine G_dup (pc := 72) dX4_keepUp_72 rfl ?_
                refine G_getf (pc := 73) fl_X4_34 dX4_keepUp_73 (mgn_18 (by first | assumption | omega | exact ⟨by omega, by omega⟩ | exact hS _ _ | exact hT _ _)) rfl ?_
                refine G_iconst (pc := 76) dX4_keepUp_76 ?_
                refine G_iadd (pc := 77) dX4_keepUp_77 ?_
                refine G_putf (pc := 78) fl_X4_34 fp_X4_5 dX4_keepUp_78 (mgn_18 (by first | assumption | omega | exact ⟨by omega, by omega⟩ | exact hS _ _ | exact hT _ _)) (Nat.le_of_ble_eq_true rfl) rfl rfl (mpn_18_5 _ (by first | assumption | omega | exact ⟨by omega, by omega⟩ | exact hS _ _ | exact hT _ _)) ?_
                refine G_namen (fun S3_78 hS3_78 => ?_)
                have hz5 : S3_78 (18, g, p, 0) 5 = T2 (18, g, p, 0) 5 + 1 := by rw [hS3_78, zst_s]
                refine G_goto (pc := 81) 46 dX4_keepUp_81 (by decide) ?_
                refine G_perm (lv' := [(0, .ref (ad (18, g, p, 0)))]) [0] rfl ?_
                exact ih46  S3_78 ⟨by rw [← hq2, show (P 2 (P 4 g 0) p - T2 (18, g, p, 0) 5).toNat = (P 2 (P 4 g 0) p - S3_78 (18, g, p, 0) 5).toNat + 1 by omega, zmk_go _ ⟨by omega, c68⟩, hS3_78], by rw [hS3_78]; exact hTW2.s18 ⟨by omega, by omega⟩ (fun _ _ _ => by omega)⟩ (by omega)
        refine G_perm (lv' := [(0, .ref (ad (18, g, p, 0)))]) [0] rfl ?_
        exact L46 _  T ⟨rfl, hTW⟩ (Nat.lt_succ_self _)
      · refine G_aload_n (pc := 13) 0 0 dX4_keepUp_13 rfl rfl ?_
        refine G_getf (pc := 14) fl_X4_25 dX4_keepUp_14 (mgn_18 (by first | assumption | omega | exact ⟨by omega, by omega⟩ | exact hS _ _ | exact hT _ _)) rfl ?_
        refine G_iload_n (pc := 17) 1 1 dX4_keepUp_17 rfl rfl ?_
        refine G_callVd (pc := 18) gk_X4_51 dX4_keepUp_18 (mgn_11 (by first | assumption | omega | exact ⟨by omega, by omega⟩ | exact hS _ _ | exact hT _ _)) rfl (cn_X3_at (by first | assumption | omega | exact ⟨by omega, by omega⟩ | exact hS _ _ | exact hT _ _) (by first | assumption | omega | exact ⟨by omega, by omega⟩ | exact hS _ _ | exact hT _ _) (by first | assumption | omega | exact ⟨by omega, by omega⟩ | exact hS _ _ | exact hT _ _) (by first | assumption | omega | exact ⟨by omega, by omega⟩ | exact hS _ _ | exact hT _ _)) rfl rfl (Nat.le_of_ble_eq_true rfl) ⟨⟨Nat.le_of_ble_eq_true rfl, Nat.le_of_ble_eq_true rfl⟩, Nat.le_of_ble_eq_true rfl, Nat.le_of_ble_eq_true rfl⟩ ?_
        refine G_getf (pc := 21) fl_X4_68 dX4_keepUp_21 (mgn_14 (by first | assumption | omega | exact ⟨by omega, by omega⟩ | exact hS _ _ | exact hT _ _)) rfl ?_
        refine G_if_eq (pc := 24) 40 dX4_keepUp_24 (by decide) (by first | exact hS _ _ | exact hT _ _ | exact ⟨by omega, by omega⟩ | assumption) (fun c24 => ?_) (fun c24 => ?_)
        · have hz : zk1 P g p k T = T := if_neg (fun h => h.1 c24)
          first | (have hz : zk1 P g p k T = T := by rw [hT]; exact if_pos ⟨c24, c32⟩) | skip
          refine G_iinc_e (pc := 40) 1 (fun zw => [(1, .int (zI zw)), (0, .ref (ad (18, g, p, 0)))]) dX4_keepUp_40 rfl (by decide) (fun _ => rfl) (fun v40 e40 => ?_)
          refine G_goto (pc := 43) 2 dX4_keepUp_43 (by decide) ?_
          refine G_perm (lv' := [(0, .ref (ad (18, g, p, 0))), (1, .int (zI v40))]) [1, 0] rfl ?_
          exact ih2 v40 T ⟨by omega, by rw [e40, ← hq, lp_step (a := k) (n := P 2 (P 4 g 0) p) (by omega)]; rw [hz], by first | exact hTW | (rw [hT]; exact zfg_W hTW)⟩ (by omega)
        · refine G_aload_n (pc := 27) 0 0 dX4_keepUp_27 rfl rfl ?_
          refine G_iload_n (pc := 28) 1 1 dX4_keepUp_28 rfl rfl ?_
          refine G_callVd (pc := 29) gk_X4_61 dX4_keepUp_29 (mgn_18 (by first | assumption | omega | exact ⟨by omega, by omega⟩ | exact hS _ _ | exact hT _ _)) rfl (cn_X4_isUnderway (by first | assumption | omega | exact ⟨by omega, by omega⟩ | exact hS _ _ | exact hT _ _) (by first | assumption | omega | exact ⟨by omega, by omega⟩ | exact hS _ _ | exact hT _ _) (by first | assumption | omega | exact ⟨by omega, by omega⟩ | exact hS _ _ | exact hT _ _) (by first | assumption | omega | exact ⟨by omega, by omega⟩ | exact hS _ _ | exact hT _ _)) rfl rfl (Nat.le_of_ble_eq_true rfl) ⟨⟨Nat.le_of_ble_eq_true rfl, Nat.le_of_ble_eq_true rfl⟩, Nat.le_of_ble_eq_true rfl, Nat.le_of_ble_eq_true rfl⟩ ?_
          refine G_if_eq_b (pc := 32) 40 dX4_keepUp_32 (by decide) (fun c32 => ?_) (fun c32 => ?_)
          · have hz : zk1 P g p k T = T := if_neg (fun h => c32 h.2)
            first | (have hz : zk1 P g p k T = T := by rw [hT]; exact if_pos ⟨c24, c32⟩) | skip
            refine G_iinc_e (pc := 40) 1 (fun zw => [(1, .int (zI zw)), (0, .ref (ad (18, g, p, 0)))]) dX4_keepUp_40 rfl (by decide) (fun _ => rfl) (fun v40 e40 => ?_)
            refine G_goto (pc := 43) 2 dX4_keepUp_43 (by decide) ?_
            refine G_perm (lv' := [(0, .ref (ad (18, g, p, 0))), (1, .int (zI v40))]) [1, 0] rfl ?_
            exact ih2 v40 T ⟨by omega, by rw [e40, ← hq, lp_step (a := k) (n := P 2 (P 4 g 0) p) (by omega)]; rw [hz], by first | exact hTW | (rw [hT]; exact zfg_W hTW)⟩ (by omega)
          · refine G_aload_n (pc := 35) 0 0 dX4_keepUp_35 rfl rfl ?_
            refine G_iload_n (pc := 36) 1 1 dX4_keepUp_36 rfl rfl ?_
            refine G_callVv (pc := 37) gk_X4_64 dX4_keepUp_37 (mgn_18 (by first | assumption | omega | exact ⟨by omega, by omega⟩ | exact hS _ _ | exact hT _ _)) rfl (cn_X4_forget (by first | assumption | omega | exact ⟨by omega, by omega⟩ | exact hS _ _ | exact hT _ _) (by first | assumption | omega | exact ⟨by omega, by omega⟩ | exact hS _ _ | exact hT _ _) (by first | assumption | omega | exact ⟨by omega, by omega⟩ | exact hS _ _ | exact hT _ _)) rfl rfl (Nat.le_of_ble_eq_true rfl) ⟨⟨Nat.le_of_ble_eq_true rfl, Nat.le_of_ble_eq_true rfl⟩, Nat.le_of_ble_eq_true rfl, Nat.le_of_ble_eq_true rfl⟩ ?_
            refine G_namen (fun S4_37 hS4_37 => ?_)
            first | (have hz : zk1 P g p k T = S4_37 := by rw [hS4_37]; exact if_pos ⟨c24, c32⟩) | skip
            refine G_iinc_e (pc := 40) 1 (fun zw => [(1, .int (zI zw)), (0, .ref (ad (18, g, p, 0)))]) dX4_keepUp_40 rfl (by decide) (fun _ => rfl) (fun v40 e40 => ?_)
            refine G_goto (pc := 43) 2 dX4_keepUp_43 (by decide) ?_
            refine G_perm (lv' := [(0, .ref (ad (18, g, p, 0))), (1, .int (zI v40))]) [1, 0] rfl ?_
            exact ih2 v40 S4_37 ⟨by omega, by rw [e40, ← hq, lp_step (a := k) (n := P 2 (P 4 g 0) p) (by omega)]; rw [hz], by first | exact hTW | (rw [hS4_37]; exact zfg_W hTW)⟩ (by omega)
  refine G_perm (lv' := [(0, .ref (ad (18, g, p, 0))), (1, .int (zI v1))]) [1, 0] rfl ?_
  exact L2 _ v1 S ⟨by omega, by rw [e1], hW⟩ (Nat.lt_succ_self _)

set_option maxHeartbeats 4000000 in
set_option maxRecDepth 100000 in
theorem cn_X0_keepUp {l : Launch} {Δ : zDl} {ad : zK → Nat} {P : zP} {S : zS} {X W : zMem} {g : Int} (hP : zWP P) (hg : 0 ≤ g ∧ g < P 3 0 0) (hW : zWS P S) : zMn l Δ yX0_keepUp cX0_keepUp 2 none 7 0 0 [.ref (ad (15, g, 0, 0))] ad (mn W Δ ad P S X) (zD none ad (mn W Δ ad P (lp (zkf P g) 0 (P 1 (P 4 g 0) 0) S) X)) := by
  refine zMn_of (by decide) (Nat.le_of_ble_eq_true rfl) (fun Γ hl hΔ hF => ?_)
  subst hl hΔ
  show G Γ _ _ _ RX0 _ _ _ _ _ [(0, .ref (ad (15, g, 0, 0)))] []
  have hG := hP.g hg
  have hN := hP.t hG
  have hS := hW.R
  refine G_iconst (pc := 0) dX0_keepUp_0 ?_
  refine G_istore_ne (pc := 1) 1 (fun zw => [(1, .int (zI zw)), (0, .ref (ad (15, g, 0, 0)))]) dX0_keepUp_1 rfl (by decide) (fun _ => rfl) (fun v1 e1 => ?_)
  have L2 : ∀ (n : Nat) (p : Int) (T : zS), ((0 ≤ p ∧ p ≤ P 1 (P 4 g 0) 0) ∧ lp (zkf P g) p (P 1 (P 4 g 0) 0) T = lp (zkf P g) 0 (P 1 (P 4 g 0) 0) S ∧ zWS P T) → (P 1 (P 4 g 0) 0 - p).toNat < n → G Γ (zRm 7 0 0) cX0_keepUp 2 RX0 ad (mn W (z_d Γ) ad P T X) 0 0 2 [(0, .ref (ad (15, g, 0, 0))), (1, .int (zI p))] [] := by
    intro n
    induction n with
    | zero => intro p T _ hn; omega
    | succ n ih2 =>
      intro p T hi2 hn2
      obtain ⟨hp0, hq, hTW⟩ := hi2
      have hT := hTW.R
      refine G_iload_n (pc := 2) 1 1 dX0_keepUp_2 rfl rfl ?_
      refine G_aload_n (pc := 3) 0 0 dX0_keepUp_3 rfl rfl ?_
      refine G_getf (pc := 4) fl_X0_23 dX0_keepUp_4 (mgn_15 (by first | assumption | omega | exact ⟨by omega, by omega⟩ | exact hS _ _ | exact hT _ _)) rfl ?_
      refine G_alen (pc := 7) (t := 3) rfl dX0_keepUp_7 (mgn_16 (by first | assumption | omega | exact ⟨by omega, by omega⟩ | exact hS _ _ | exact hT _ _)) ?_
      refine G_icmp_ge (pc := 8) 26 dX0_keepUp_8 (by decide) (by first | exact hS _ _ | exact hT _ _ | exact ⟨by omega, by omega⟩ | assumption) (by first | exact hS _ _ | exact hT _ _ | exact ⟨by omega, by omega⟩ | assumption) (fun c8 => ?_) (fun c8 => ?_)
      · exact G_vret_d (pc := 26) hF dX0_keepUp_26 ⟨Nat.le_of_ble_eq_true rfl, Nat.le_of_ble_eq_true rfl⟩ (by rw [← hq, lp_end (by omega)])
      · refine G_aload_n (pc := 11) 0 0 dX0_keepUp_11 rfl rfl ?_
        refine G_getf (pc := 12) fl_X0_23 dX0_keepUp_12 (mgn_15 (by first | assumption | omega | exact ⟨by omega, by omega⟩ | exact hS _ _ | exact hT _ _)) rfl ?_
        refine G_iload_n (pc := 15) 1 1 dX0_keepUp_15 rfl rfl ?_
        refine G_aald (pc := 16) (t := 3) rfl dX0_keepUp_16 (mgn_16 (by first | assumption | omega | exact ⟨by omega, by omega⟩ | exact hS _ _ | exact hT _ _)) ⟨by omega, by omega, by omega, by omega⟩ rfl ?_
        refine G_callVv (pc := 17) gk_X0_53 dX0_keepUp_17 (mgn_18 (by first | assumption | omega | exact ⟨by omega, by omega⟩ | exact hS _ _ | exact hT _ _)) rfl (cn_X4_keepUp (by first | assumption | omega | exact ⟨by omega, by omega⟩ | exact hS _ _ | exact hT _ _) (by first | assumption | omega | exact ⟨by omega, by omega⟩ | exact hS _ _ | exact hT _ _) (by first | assumption | omega | exact ⟨by omega, by omega⟩ | exact hS _ _ | exact hT _ _) (by first | assumption | omega | exact ⟨by omega, by omega⟩ | exact hS _ _ | exact hT _ _)) rfl rfl (Nat.le_of_ble_eq_true rfl) ⟨⟨Nat.le_of_ble_eq_true rfl, Nat.le_of_ble_eq_true rfl⟩, Nat.le_of_ble_eq_true rfl, Nat.le_of_ble_eq_true rfl⟩ ?_
        refine G_namen (fun S1_17 hS1_17 => ?_)
        refine G_iinc_e (pc := 20) 1 (fun zw => [(1, .int (zI zw)), (0, .ref (ad (15, g, 0, 0)))]) dX0_keepUp_20 rfl (by decide) (fun _ => rfl) (fun v20 e20 => ?_)
        refine G_goto (pc := 23) 2 dX0_keepUp_23 (by decide) ?_
        refine G_perm (lv' := [(0, .ref (ad (15, g, 0, 0))), (1, .int (zI v20))]) [1, 0] rfl ?_
        exact ih2 v20 S1_17 ⟨by omega, by rw [e20, ← hq, lp_step (a := p) (n := P 1 (P 4 g 0) 0) (by omega), hS1_17]; rfl, by rw [hS1_17]; exact zku_W hP hg ⟨by omega, by omega⟩ hTW⟩ (by omega)
  refine G_perm (lv' := [(0, .ref (ad (15, g, 0, 0))), (1, .int (zI v1))]) [1, 0] rfl ?_
  exact L2 _ v1 S ⟨by omega, by rw [e1], hW⟩ (Nat.lt_succ_self _)
