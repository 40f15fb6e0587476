/-! ===== the law: who is in ===== -/
set_option maxHeartbeats 4000000 in
set_option maxRecDepth 100000 in
theorem l_in {Γ : zCx} {ad : zK → Nat} {P : zP} {V : zS} {nc ns b : Nat} {tm rows stp : Int} {w : Int64} {A : zMem} {n : Int} (hJ : zJ P V) (hg : inG P n) (kk : G Γ zRW cL_law 21 RL ad (mm (z_d Γ) ad P V (pm (z_d Γ) ad P V A)) nc ns 188 [(14, .int (zI 0)), (13, .int (zI (znin V n))), (12, .int (zI 0)), (11, .ref (ad (230, 0, 0, 0))), (10, .int (zI 0)), (9, .int (zI (P 4 n 0))), (8, .int (zI n)), (6, .long w), (5, .int (zI stp)), (4, .int (zI rows)), (3, .ref (ad (0, 0, 0, 0))), (2, .ref (ad (200, 0, 0, 0))), (1, .int (zI tm)), (0, .ref b)] []) :
    ∀ (m : Nat) (k x : Int), (0 ≤ k ∧ k ≤ 6) → x = sm (fun r => V (17, n, 0, 0) r) 0 k → (6 - k).toNat < m → G Γ zRW cL_law 21 RL ad (mm (z_d Γ) ad P V (pm (z_d Γ) ad P V A)) nc ns 153 [(17, .int (zI k)), (16, .int (zI 6)), (15, .ref (ad (221, n, 0, 0))), (14, .int (zI 0)), (13, .int (zI x)), (12, .int (zI 0)), (11, .ref (ad (230, 0, 0, 0))), (10, .int (zI 0)), (9, .int (zI (P 4 n 0))), (8, .int (zI n)), (6, .long w), (5, .int (zI stp)), (4, .int (zI rows)), (3, .ref (ad (0, 0, 0, 0))), (2, .ref (ad (200, 0, 0, 0))), (1, .int (zI tm)), (0, .ref b)] [] := by
  have hP := hJ.wp
  have hN := hP.n
  have hg1 := hg.1
  have hg2 := hg.2
  intro m
  induction m with
  | zero => intro k x _ _ h; omega
  | succ m ih =>
    intro k x hkb hx hm
    refine G_iload (pc := 153) 0 dL_law_153 rfl ?_
    refine G_iload (pc := 155) 1 dL_law_155 rfl ?_
    refine G_icmp_ge (pc := 157) 188 dL_law_157 (by decide) ⟨by omega, by omega⟩ ⟨by omega, by omega⟩ (fun c157 => ?_) (fun c157 => ?_)
    · have e9 : k = 6 := by omega
      have e8 : x = znin V n := by rw [hx, e9]; rfl
      refine G_perm (lv' := [(14, .int (zI 0)), (13, .int (zI x)), (12, .int (zI 0)), (11, .ref (ad (230, 0, 0, 0))), (10, .int (zI 0)), (9, .int (zI (P 4 n 0))), (8, .int (zI n)), (6, .long w), (5, .int (zI stp)), (4, .int (zI rows)), (3, .ref (ad (0, 0, 0, 0))), (2, .ref (ad (200, 0, 0, 0))), (1, .int (zI tm)), (0, .ref b)]) [3, 4, 5, 6, 7, 8, 9, 10, 11, 12, 13, 14, 15, 16] rfl ?_
      rw [e8]
      exact kk
    · have hi := hJ.wv.in2 n k
      refine G_aload (pc := 160) 2 dL_law_160 rfl ?_
      refine G_iload (pc := 162) 0 dL_law_162 rfl ?_
      refine G_zaldV (pc := 164) (V (17, n, 0, 0) k) dL_law_164 (wq rfl (pg_221 (by omega))) ⟨by omega, by omega, by omega, by omega⟩ rfl ?_
      refine G_istore (pc := 165) [(18, .int (zI (V (17, n, 0, 0) k))), (17, .int (zI k)), (16, .int (zI 6)), (15, .ref (ad (221, n, 0, 0))), (14, .int (zI 0)), (13, .int (zI x)), (12, .int (zI 0)), (11, .ref (ad (230, 0, 0, 0))), (10, .int (zI 0)), (9, .int (zI (P 4 n 0))), (8, .int (zI n)), (6, .long w), (5, .int (zI stp)), (4, .int (zI rows)), (3, .ref (ad (0, 0, 0, 0))), (2, .ref (ad (200, 0, 0, 0))), (1, .int (zI tm)), (0, .ref b)] dL_law_165 (by decide) rfl ?_
      refine G_iload (pc := 167) 5 dL_law_167 rfl ?_
      refine G_iload (pc := 169) 0 dL_law_169 rfl ?_
      refine G_nzb (pc := 171) dL_law_171 dL_law_174 dL_law_175 dL_law_178 ⟨by omega, by omega⟩ (fun v hv => ?_)
      refine G_iadd (pc := 179) dL_law_179 ?_
      refine G_istore (pc := 180) [(13, .int (zI (x + v))), (18, .int (zI (V (17, n, 0, 0) k))), (17, .int (zI k)), (16, .int (zI 6)), (15, .ref (ad (221, n, 0, 0))), (14, .int (zI 0)), (12, .int (zI 0)), (11, .ref (ad (230, 0, 0, 0))), (10, .int (zI 0)), (9, .int (zI (P 4 n 0))), (8, .int (zI n)), (6, .long w), (5, .int (zI stp)), (4, .int (zI rows)), (3, .ref (ad (0, 0, 0, 0))), (2, .ref (ad (200, 0, 0, 0))), (1, .int (zI tm)), (0, .ref b)] dL_law_180 (by decide) rfl ?_
      refine G_iinc (pc := 182) 2 [(17, .int (zI (k + 1))), (13, .int (zI (x + v))), (18, .int (zI (V (17, n, 0, 0) k))), (16, .int (zI 6)), (15, .ref (ad (221, n, 0, 0))), (14, .int (zI 0)), (12, .int (zI 0)), (11, .ref (ad (230, 0, 0, 0))), (10, .int (zI 0)), (9, .int (zI (P 4 n 0))), (8, .int (zI n)), (6, .long w), (5, .int (zI stp)), (4, .int (zI rows)), (3, .ref (ad (0, 0, 0, 0))), (2, .ref (ad (200, 0, 0, 0))), (1, .int (zI tm)), (0, .ref b)] dL_law_182 rfl (by decide) rfl ?_
      refine G_goto (pc := 185) 153 dL_law_185 (by decide) ?_
      refine G_perm (lv' := [(17, .int (zI (k + 1))), (16, .int (zI 6)), (15, .ref (ad (221, n, 0, 0))), (14, .int (zI 0)), (13, .int (zI (x + v))), (12, .int (zI 0)), (11, .ref (ad (230, 0, 0, 0))), (10, .int (zI 0)), (9, .int (zI (P 4 n 0))), (8, .int (zI n)), (6, .long w), (5, .int (zI stp)), (4, .int (zI rows)), (3, .ref (ad (0, 0, 0, 0))), (2, .ref (ad (200, 0, 0, 0))), (1, .int (zI tm)), (0, .ref b)]) [0, 3, 4, 5, 1, 6, 7, 8, 9, 10, 11, 12, 13, 14, 15, 16, 17] rfl ?_
      refine ih (k + 1) (x + v) ⟨by omega, by omega⟩ ?_ (by omega)
      rw [sm_last _ 0 k rfl hkb.1]
      show x + v = sm (fun r => V (17, n, 0, 0) r) 0 k + V (17, n, 0, 0) k
      omega
