/-! ===== the law: draws, acts; what its own take and ack leave ===== -/
section LAWT
variable {P : zP} {V : zS} {g p o : Int}
theorem zq_take {c a b d e x : Int} : zlw (zgv V g p o x) a b c d e (19, g, p, 0) o = 1 := by
  rw [zlw_k (by simp)]
  unfold zgv
  rw [zst_k _ _ _ _ (by simp), zst_k _ _ _ _ (by simp), zst_s]
theorem zq_ack (h : zJ P V) (hg : inG P g) (hp : inQ P g p) {a b c d e : Int} : zlw (zku P (zst V (19, g, p, 0) o 3) g p) a b c d e (19, g, p, 0) o = 3 := by
  have hno : ∀ q, inM P (P 4 g 0) p q → ¬ (¬ zst V (19, g, p, 0) o 3 (14, P 4 g 0, p, q) 5 = 0 ∧ ju (zst V (19, g, p, 0) o 3) g p q) := fun q hq yz => by
    obtain ⟨y, z⟩ := yz
    have y2 : ¬ V (14, P 4 g 0, p, q) 5 = 0 := by
      rw [zst_k _ _ _ _ (by simp)] at y
      exact y
    have z2 : zst V (19, g, p, 0) o 3 (19, g, p, 0) q = 1 ∨ zst V (19, g, p, 0) o 3 (19, g, p, 0) q = 2 := z
    by_cases hc : q = o
    · rw [hc, zst_s] at z2
      omega
    · rw [zst_f _ _ _ hc] at z2
      exact (h.xz g p hg hp).1 q hq ⟨y2, z2⟩
  rw [zlw_k (by simp), zku_no hno, zst_k _ _ _ _ (by simp), zmk_fr (K := fun m => m == 18) rfl _ _ _ _ rfl, zst_s]
end LAWT
section LAWD
variable {Γ : zCx} {R : Room} {cc : ByteArray} {nL : Nat} {ad ad1 : zK → Nat} {nc ns pc : Nat} {lv : List (Nat × Value)} {st : List Value} {P Q Q1 : zP} {V D V0 : zS} {X : zMem} {n m i : Int} {a0 a : Nat}
theorem G_drwL (hd : decode cc pc = .ok (.invokevirtual 109, 3)) (h : zDr Q V D m) (hm : V (200, 0, 0, 0) 2 + m ≤ 990000) (hL : (z_d Γ).2.2.2.2.1 ≤ 3072) (hn : 1 ≤ n ∧ n ≤ 1000000) (hro : (st.map fun v => v.category).sum ≤ 8) (hR : zRo R 2 0 0 3 nc ns)
    (kk : ∀ (r : Int) (D' : zS), (0 ≤ r ∧ r < n) → zDr Q V D' (m + 1) → G Γ R cc nL RL ad (pm (z_d Γ) ad Q D' X) nc ns (pc + 3) lv (.int (zI r) :: st)) : G Γ R cc nL RL ad (pm (z_d Γ) ad Q D X) nc ns pc lv (.int (zI n) :: .ref (ad (200, 0, 0, 0)) :: st) := by
  obtain ⟨hJ, h2, h3⟩ := h
  have hdw := hJ.wv.dw
  refine G_callV (pc := pc) gk_L_109 hd pg_200 rfl (c_X7_draw (n := n) hJ.wv hL hn) rfl rfl hro hR (fun vx adx Mx hpo => ?_)
  obtain ⟨r, hr, rfl, rfl, rfl⟩ := hpo
  exact kk r _ hr ⟨zJ_dr hJ ⟨by omega, by omega⟩, by rw [zst_s]; omega, fun k f hk => by rw [zst_k _ _ _ _ hk]; exact h3 k f hk⟩
theorem G_actL (hNc : zNc (z_s Γ)) (hd : decode cc pc = .ok (.invokevirtual 22, 3)) (h : zFd a0 a V0 i ad1 P D) (hL : (z_d Γ).2.2.2.2.1 ≤ 3072) (hD : D (200, 0, 0, 0) 2 ≤ 920000) (h4 : D (0, 0, 0, 0) 4 ≤ 190) (h6 : D (0, 0, 0, 0) 6 ≤ 9900) (h0 : 1 ≤ P 0 0 0) (h3 : 1 ≤ P 3 0 0) (hst : (z_l Γ).stackTraces = false) (hR : zRo R 12 3000 55000 1 nc ns)
    (kk : ∀ ad2 P2 D2, zFd a0 a V0 (i + 1) ad2 P2 D2 → 1 ≤ P2 0 0 0 → 1 ≤ P2 3 0 0 → G Γ R cc nL RL ad2 (pm (z_d Γ) ad2 P2 D2 (mm (z_d Γ) ad2 P2 D2 z00)) (nc + 3000) (ns + 55000) (pc + 3) lv [.int (zI 1)]) : G Γ R cc nL RL ad1 (pm (z_d Γ) ad1 P D (mm (z_d Γ) ad1 P D z00)) nc ns pc lv [.ref a] := by
  rw [← h.1.2]
  refine G_callVc (pc := pc) hNc gk_L_22 hd pg_200 rfl (c_X7_act h.2.1 rfl hL hD h4 h6 h0 h3 hst) rfl rfl (Nat.le_of_ble_eq_true rfl) hR (fun v ad2 M2 ha => ?_)
  obtain ⟨rfl, P2, D2, h2, rfl, q0, q3⟩ := zFd_act h (by omega) ha
  exact kk ad2 P2 D2 h2 (by omega) (by omega)
theorem G_foundL (hNc : zNc (z_s Γ)) (hd : decode cc pc = .ok (.invokevirtual 18, 3)) (hJ : zJ P D) (hL : (z_d Γ).2.2.2.2.1 ≤ 3072) (hD : D (200, 0, 0, 0) 2 ≤ 900000) (h4 : D (0, 0, 0, 0) 4 ≤ 100) (hst : (z_l Γ).stackTraces = false) (hR : zRo R 12 120 5000 2 nc ns)
    (kk : ∀ ad2 P2 D2, zFd (ad (0, 0, 0, 0)) (ad (200, 0, 0, 0)) D 30 ad2 P2 D2 → 1 ≤ P2 0 0 0 → 1 ≤ P2 3 0 0 → G Γ R cc nL RL ad2 (pm (z_d Γ) ad2 P2 D2 (mm (z_d Γ) ad2 P2 D2 z00)) (nc + 120) (ns + 5000) (pc + 3) lv [.int (zI 1)]) : G Γ R cc nL RL ad (pm (z_d Γ) ad P D (mm (z_d Γ) ad P D z00)) nc ns pc lv [.ref (ad (200, 0, 0, 0))] := by
  refine G_callVc (pc := pc) hNc gk_L_18 hd pg_200 rfl (c_X7_found hJ rfl hL hD h4 hst) rfl rfl (Nat.le_of_ble_eq_true rfl) hR (fun v ad2 M2 ha => ?_)
  obtain ⟨rfl, P2, D2, h2, rfl, q0, q3⟩ := ha
  exact kk ad2 P2 D2 h2 q0 q3
end LAWD
