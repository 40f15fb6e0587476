/-! ===== take, ack, nack, seek: class and model act alike ===== -/
section ACTS
variable {P : zP} {S M : zS}
theorem cS_A {S' : zS} {g p o : Int} (h : cS g p o S S') : zfr kA S S' := fun k f hk => h k f (by
  rintro ⟨q | q | q, -⟩ <;> rw [q] at hk <;> exact Bool.noConfusion (show true = false from hk))
theorem cS_F {S' : zS} {g p o : Int} (h : cS g p o S S') : zfr kF S S' := fun k f hk => h k f (by
  rintro ⟨q | q | q, -⟩ <;> rw [q] at hk <;> exact Bool.noConfusion (show true = false from hk))
theorem cM_A {M' : zS} {i : Int} (h : cM i M M') : fr mA M M' := fun k f hk => h k f (by
  rintro ⟨q | q | q, -⟩ <;> rw [q] at hk <;> exact Bool.noConfusion (show true = false from hk))
theorem cM_F {M' : zS} {i : Int} (h : cM i M M') : zfr mF M M' := fun k f hk => h k f (by
  rintro ⟨q | q | q, -⟩ <;> rw [q] at hk <;> exact Bool.noConfusion (show true = false from hk))
theorem cM_L {S' M' : zS} {i g p o : Int} (hL : rL S M) (hS : cS g p o S S') (h : cM i M M') : rL S' M' := rL_fr (fun k f hk => hS k f (by
  rintro ⟨q | q | q, -⟩ <;> rw [q] at hk <;> rcases hk with e | e <;> cases e)) (h _ _ (by rintro ⟨q | q | q, -⟩ <;> cases q)) (fun f => h _ _ (by rintro ⟨q | q | q, -⟩ <;> cases q)) hL
theorem cell_eq (h : xh P S M) {g p o : Int} (hg : inG P g) (hp : inQ P g p) (ho : inM P (P 4 g 0) p o) (hn : ¬ (¬ S (14, P 4 g 0, p, o) 5 = 0 ∧ ju S g p o)) : M (69, 0, 0, 0) (g * 80 + mi M (P 4 g 0) p o) = S (19, g, p, 0) o ∧ M (70, 0, 0, 0) (g * 80 + mi M (P 4 g 0) p o) = S (20, g, p, 0) o ∧ M (71, 0, 0, 0) (g * 80 + mi M (P 4 g 0) p o) = S (21, g, p, 0) o := by
  obtain ⟨h1, h2, h3⟩ := h.1 g p o hg hp ho
  rw [if_neg hn] at h1 h2
  exact ⟨h1, h2, h3⟩
theorem xX_cell (h : xX P S M) (hV : zWM P M) {S' M' : zS} {g p o i : Int} (hg : inG P g) (hp : inQ P g p) (ho : inM P (P 4 g 0) p o) (hi : i = g * 80 + mi M (P 4 g 0) p o) (hd : S (14, P 4 g 0, p, o) 5 = 0) (hS : cS g p o S S') (hM : cM i M M')
    (e1 : M' (69, 0, 0, 0) i = S' (19, g, p, 0) o) (e2 : M' (70, 0, 0, 0) i = S' (20, g, p, 0) o) (e3 : M' (71, 0, 0, 0) i = S' (21, g, p, 0) o) (hN : M' (69, 0, 0, 0) i = 1 → 1 ≤ M' (70, 0, 0, 0) i) : xX P S' M' :=
  ⟨xa_fr (cS_A hS) (cM_A hM) h.1, xf_fr (cS_F hS) (cM_F hM) h.2.1, xh_cell h.1.C h.2.2 hV hg hp ho hi hS hM (by rw [if_neg (fun q => q.1 hd)]; exact e1) (by rw [if_neg (fun q => q.1 hd)]; exact e2) e3 hN⟩
theorem zfg_19 {g p o : Int} : zfg S g p o (19, g, p, 0) o = 0 := by
  unfold zfg
  rw [zst_k _ _ _ _ (by simp), zst_s]
theorem zfg_21 {g p o g' p' f : Int} : zfg S g p o (21, g', p', 0) f = S (21, g', p', 0) f := by
  unfold zfg
  rw [zst_k _ _ _ _ (by simp), zst_k _ _ _ _ (by simp)]
theorem mfg_c {g m i : Int} (hi : i = g * 80 + m) : cM i M (mfg M g m) := by
  subst hi
  exact (cM.rf.st (Or.inl rfl)).st (Or.inr (Or.inl rfl))
/-- both forget -/
theorem xX_fg (h : xX P S M) (hV : zWM P M) {g p o m : Int} (hg : inG P g) (hp : inQ P g p) (ho : inM P (P 4 g 0) p o) (hm : m = mi M (P 4 g 0) p o) : xX P (zfg S g p o) (mfg M g m) := by
  subst hm
  obtain ⟨d1, d2, d3⟩ := h.2.2.1 g p o hg hp ho
  have m69 : mfg M g (mi M (P 4 g 0) p o) (69, 0, 0, 0) (g * 80 + mi M (P 4 g 0) p o) = 0 := by
    unfold mfg
    rw [zst_k _ _ _ _ (by simp), zst_s]
  have m70 : mfg M g (mi M (P 4 g 0) p o) (70, 0, 0, 0) (g * 80 + mi M (P 4 g 0) p o) = 0 := zst_s _ _ _ _
  have m71 : mfg M g (mi M (P 4 g 0) p o) (71, 0, 0, 0) (g * 80 + mi M (P 4 g 0) p o) = M (71, 0, 0, 0) (g * 80 + mi M (P 4 g 0) p o) := by
    unfold mfg
    rw [zst_k _ _ _ _ (by simp), zst_k _ _ _ _ (by simp)]
  have z20 : zfg S g p o (20, g, p, 0) o = 0 := zst_s _ _ _ _
  refine ⟨xa_fr (cS_A zfg_c) (cM_A (mfg_c rfl)) h.1, xf_fr (cS_F zfg_c) (cM_F (mfg_c rfl)) h.2.1, xh_cell h.1.C h.2.2 hV hg hp ho rfl zfg_c (mfg_c rfl) ?_ ?_ ?_ (fun q => by omega)⟩
  · exact ite_z m69 zfg_19
  · exact ite_z m70 z20
  · rw [m71, zfg_21, d3]
theorem mi_59 {M' : zS} {i t p o : Int} (h : cM i M M') : mi M' t p o = mi M t p o := h _ _ (by rintro ⟨q | q | q, -⟩ <;> cases q)
/-! ack -/
theorem o_ack (h : xJ P S M) {g p o : Int} (hg : inG P g) (hp : inQ P g p) (ho : inM P (P 4 g 0) p o) (h1 : S (19, g, p, 0) o = 1) :
    xJ P (zlw (zku P (zst S (19, g, p, 0) o 3) g p) 1 g p o (S (0, 0, 0, 0) 6)) (msa P (mwr (zst M (69, 0, 0, 0) (g * 80 + mi M (P 4 g 0) p o) 3) 1 g (mi M (P 4 g 0) p o))) ∧ zlw (zku P (zst S (19, g, p, 0) o 3) g p) 1 g p o (S (0, 0, 0, 0) 6) (18, g, p, 0) 5 = msa P (mwr (zst M (69, 0, 0, 0) (g * 80 + mi M (P 4 g 0) p o) 3) 1 g (mi M (P 4 g 0) p o)) (65, 0, 0, 0) (g * 4 + p) := by
  obtain ⟨hX, hL, hZ, hY, hW, hV, hP⟩ := h
  have hT := hV.qg hg
  have hn := (hZ g p hg hp).1 o ho
  have hd : S (14, P 4 g 0, p, o) 5 = 0 := Classical.byContradiction fun q => hn ⟨q, Or.inl h1⟩
  obtain ⟨c1, c2, c3, -⟩ := hX.1.C (P 4 g 0) p o hT hp ho
  obtain ⟨d1, d2, d3⟩ := cell_eq hX.2.2 hg hp ho hn
  have hq := hV.qt hT
  have hq0 := hV.q
  have hmm := hV.qm hT hp
  generalize hmi : mi M (P 4 g 0) p o = m at c1 c2 c3 d1 d2 d3 ⊢
  have hf := hV.f11
  have cs : cS g p o S (zst S (19, g, p, 0) o 3) := cS.rf.st (Or.inl rfl)
  have cm : cM (g * 80 + m) M (zst M (69, 0, 0, 0) (g * 80 + m) 3) := cM.rf.st (Or.inl rfl)
  have hX1 : xX P (zst S (19, g, p, 0) o 3) (zst M (69, 0, 0, 0) (g * 80 + m) 3) := xX_cell hX hV hg hp ho (by rw [hmi]) hd cs cm (by rw [zst_s, zst_s]) (by rw [zst_k _ _ _ _ (by simp), zst_k _ _ _ _ (by simp)]; exact d2) (by rw [zst_k _ _ _ _ (by simp), zst_k _ _ _ _ (by simp)]; exact d3) (fun q => by rw [zst_s] at q; omega)
  have hV1 : zWM P (zst M (69, 0, 0, 0) (g * 80 + m) 3) := hV.s69 ⟨by omega, by omega⟩
  have hV2 := mwr_W hV1 (a := 1) (g := g) (m := m) ⟨by omega, by omega⟩ ⟨by omega, by omega⟩
  obtain ⟨j1, j2, j3⟩ := r_one (xX_ledM hX1 (m := m) (a' := 1) (g' := g)) hV2 hg hp (fun g' p' hg' hp' hne => sg_off cs.O hne (hZ g' p' hg' hp'))
  have hW1 : zWS P (zst S (19, g, p, 0) o 3) := hW.s19 ⟨by omega, by omega⟩ (fun q => by omega)
  have hW2 := zku_W hP hg hp hW1
  have hL1 : rL (zku P (zst S (19, g, p, 0) o 3) g p) (zst M (69, 0, 0, 0) (g * 80 + m) 3) := rL_fr (fun k f hk => (zku_k (by rcases hk with e | e <;> rw [e] <;> rfl)).trans (cs k f (by
    rintro ⟨q | q | q, -⟩ <;> rw [q] at hk <;> rcases hk with e | e <;> cases e))) (zst_k _ _ _ _ (by simp)) (fun f => zst_k _ _ _ _ (by simp)) hL
  have e1 : zst M (69, 0, 0, 0) (g * 80 + m) 3 (52, 0, 0, 0) m = M (52, 0, 0, 0) m := zst_k _ _ _ _ (by simp)
  have e2 : zst M (69, 0, 0, 0) (g * 80 + m) 3 (53, 0, 0, 0) m = M (53, 0, 0, 0) m := zst_k _ _ _ _ (by simp)
  have e3 : zst M (69, 0, 0, 0) (g * 80 + m) 3 (40, 0, 0, 0) 1 = M (40, 0, 0, 0) 1 := zst_k _ _ _ _ (by simp)
  have hL2 := rL_w hL1 hW2.l.2 (a := 1) (g := g) (p := p) (o := o) (e := S (0, 0, 0, 0) 6) (m := m) (by rw [e1]; omega) (by rw [e2]; exact c3) (by rw [e3]; exact hX.1.A.1)
  have hk := hW.k
  have hY1 : xY P (zst S (19, g, p, 0) o 3) := xY_fr (fun f => zst_k _ _ _ _ (by simp)) (fun t f => zst_k _ _ _ _ (by simp)) (fun g f => zst_k _ _ _ _ (by simp)) (fun g p => zst_k _ _ _ _ (by simp)) (fun g' p' o' hg' hp' => by
    rw [zst_k (k' := (20, g', p', 0)) _ _ _ _ (by simp), zst_at]
    split
    · exact ⟨fun q => by omega, fun q => by omega⟩
    · exact hY.2.1 g' p' o' hg' hp') hY
  have hfin := xX_ledS j1 (a := 1) (g := g) (p := p) (o := o) (e := S (0, 0, 0, 0) 6)
  refine ⟨⟨hfin, rL_fr (fun _ _ _ => rfl) msa_40 (fun _ => msa_73) hL2, xZ_lw j2, xY_lw (xY_ku hmm.1 hY1), zlw_W ⟨by omega, by omega⟩ ⟨by omega, by omega⟩ ⟨by omega, by omega⟩ ⟨by omega, by omega⟩ ⟨by omega, by omega⟩ hW2, j3, hP⟩, ?_⟩
  exact ((hfin.2.1 g p hg hp).1).symm
/-! nack -/
theorem zsh_mul {y s : Int} : y * zsh 1 s = zsh y s := by
  unfold zsh
  split
  · rw [Int.mul_one]
  · rw [show (1 : Int) + 1 = 2 by omega]
    omega
/-- a nack, in both -/
theorem r_nk (hX : xX P S M) (hL : rL S M) (hW : zWS P S) (hV : zWM P M) {g p o m : Int} (hg : inG P g) (hp : inQ P g p) (ho : inM P (P 4 g 0) p o) (hm : m = mi M (P 4 g 0) p o) (hd : S (14, P 4 g 0, p, o) 5 = 0) : xX P (zB S g p o) (mnk M g m) ∧ rL (zB S g p o) (mnk M g m) ∧ zgbr S g p o (S (0, 0, 0, 0) 6) (S (0, 0, 0, 0) 7) = mnr M g m := by
  have hT := hV.qg hg
  obtain ⟨c1, c2, c3, -⟩ := hX.1.C (P 4 g 0) p o hT hp ho
  obtain ⟨d1, d2, d3⟩ := cell_eq hX.2.2 hg hp ho (fun q => q.1 hd)
  have hq := hV.qt hT
  rw [← hm] at c1 c2 c3 d1 d2 d3
  have hA := hX.1.A
  have ht := (hW.c g p o).1
  have hl := hW.l
  have m52 : ∀ a, mwr M a g m (52, 0, 0, 0) m = M (52, 0, 0, 0) m := fun a => mwr_fr (K := fun n => n == 40 || n == 73) rfl rfl _ _ rfl
  have m53 : ∀ a, mwr M a g m (53, 0, 0, 0) m = M (53, 0, 0, 0) m := fun a => mwr_fr (K := fun n => n == 40 || n == 73) rfl rfl _ _ rfl
  have m59 : mi (mwr M 2 g m) (P 4 g 0) p o = mi M (P 4 g 0) p o := mwr_fr (K := fun n => n == 40 || n == 73) rfl rfl _ _ rfl
  have m70 : mwr M 2 g m (70, 0, 0, 0) (g * 80 + m) = M (70, 0, 0, 0) (g * 80 + m) := mwr_70
  have m71 : mwr M 2 g m (71, 0, 0, 0) (g * 80 + m) = M (71, 0, 0, 0) (g * 80 + m) := mwr_fr (K := fun n => n == 40 || n == 73) rfl rfl _ _ rfl
  have hX1 := xX_ledM hX (m := m) (a' := 2) (g' := g)
  have hq0 := hV.q
  have hV1 := mwr_W hV (a := 2) (g := g) (m := m) ⟨by omega, by omega⟩ ⟨by omega, by omega⟩
  unfold zB mnk zgb zgbr mnr
  rw [d2, hA.1, hA.2.1]
  by_cases hc : 3 ≤ S (20, g, p, 0) o
  · rw [if_pos hc, if_pos hc, if_pos hc, if_pos (by omega), if_pos (by omega)]
    have cs : cS g p o S (zst S (19, g, p, 0) o 4) := cS.rf.st (Or.inl rfl)
    have cm : cM (g * 80 + m) (mwr M 2 g m) (zst (mwr M 2 g m) (69, 0, 0, 0) (g * 80 + m) 4) := cM.rf.st (Or.inl rfl)
    have hX2 : xX P (zst S (19, g, p, 0) o 4) (zst (mwr M 2 g m) (69, 0, 0, 0) (g * 80 + m) 4) := xX_cell hX1 hV1 hg hp ho (by rw [m59, hm]) hd cs cm (by rw [zst_s, zst_s]) (by rw [zst_k _ _ _ _ (by simp), zst_k _ _ _ _ (by simp), m70]; exact d2) (by rw [zst_k _ _ _ _ (by simp), zst_k _ _ _ _ (by simp), m71]; exact d3) (fun q => by rw [zst_s] at q; omega)
    have hL1 : rL (zst S (19, g, p, 0) o 4) M := rL_fr (fun k f hk => cs k f (by
      rintro ⟨q | q | q, -⟩ <;> rw [q] at hk <;> rcases hk with e | e <;> cases e)) rfl (fun _ => rfl) hL
    have b1 : zst S (19, g, p, 0) o 4 (1, 0, 0, 0) 1 ≤ 200 := by rw [zst_k _ _ _ _ (by simp)]; exact hl.2
    have hL2 := rL_w hL1 b1 (a := 2) (g := g) (p := p) (o := o) (e := S (0, 0, 0, 0) 6) (m := m) (by omega) c3 hA.1
    have hL3 : rL (zlw (zst S (19, g, p, 0) o 4) 2 g p o (S (0, 0, 0, 0) 6)) (zst (mwr M 2 g m) (69, 0, 0, 0) (g * 80 + m) 4) := rL_fr (fun _ _ _ => rfl) (zst_k _ _ _ _ (by simp)) (fun f => zst_k _ _ _ _ (by simp)) hL2
    have b2 : zlw (zst S (19, g, p, 0) o 4) 2 g p o (S (0, 0, 0, 0) 6) (1, 0, 0, 0) 1 ≤ 200 := by
      unfold zlw
      split
      · exact b1
      · rw [zst_s]; omega
    refine ⟨xX_ledS (xX_led hX2), rL_w hL3 b2 ?_ ?_ ?_, rfl⟩
    · rw [zst_k _ _ _ _ (by simp), m52]; omega
    · rw [zst_k _ _ _ _ (by simp), m53]; exact c3
    · rw [zst_k _ _ _ _ (by simp), mwr_40 (by decide)]; exact hA.1
  · rw [if_neg hc, if_neg hc, if_neg hc, if_neg (by omega), if_neg (by omega), zsh_mul]
    have cs : cS g p o S (zst (zst S (19, g, p, 0) o 2) (21, g, p, 0) o (S (0, 0, 0, 0) 6 + zsh (S (0, 0, 0, 0) 7) (S (20, g, p, 0) o - 1))) := (cS.rf.st (Or.inl rfl)).st (Or.inr (Or.inr rfl))
    have cm : cM (g * 80 + m) (mwr M 2 g m) (zst (zst (mwr M 2 g m) (69, 0, 0, 0) (g * 80 + m) 2) (71, 0, 0, 0) (g * 80 + m) (S (0, 0, 0, 0) 6 + zsh (S (0, 0, 0, 0) 7) (S (20, g, p, 0) o - 1))) := (cM.rf.st (Or.inl rfl)).st (Or.inr (Or.inr rfl))
    have hX2 := xX_cell hX1 hV1 hg hp ho (by rw [m59, hm]) hd cs cm (by rw [zst_k _ _ _ _ (by simp), zst_s, zst_k _ _ _ _ (by simp), zst_s]) (by rw [zst_k _ _ _ _ (by simp), zst_k _ _ _ _ (by simp), zst_k _ _ _ _ (by simp), zst_k _ _ _ _ (by simp), m70]; exact d2) (by rw [zst_s, zst_s]) (fun q => by rw [zst_k _ _ _ _ (by simp), zst_s] at q; omega)
    have hL1 : rL (zst (zst S (19, g, p, 0) o 2) (21, g, p, 0) o (S (0, 0, 0, 0) 6 + zsh (S (0, 0, 0, 0) 7) (S (20, g, p, 0) o - 1))) M := rL_fr (fun k f hk => cs k f (by
      rintro ⟨q | q | q, -⟩ <;> rw [q] at hk <;> rcases hk with e | e <;> cases e)) rfl (fun _ => rfl) hL
    have b1 : zst (zst S (19, g, p, 0) o 2) (21, g, p, 0) o (S (0, 0, 0, 0) 6 + zsh (S (0, 0, 0, 0) 7) (S (20, g, p, 0) o - 1)) (1, 0, 0, 0) 1 ≤ 200 := by rw [zst_k _ _ _ _ (by simp), zst_k _ _ _ _ (by simp)]; exact hl.2
    have hL2 := rL_w hL1 b1 (a := 2) (g := g) (p := p) (o := o) (e := S (0, 0, 0, 0) 6) (m := m) (by omega) c3 hA.1
    exact ⟨xX_ledS hX2, rL_fr (fun _ _ _ => rfl) (by rw [zst_k _ _ _ _ (by simp), zst_k _ _ _ _ (by simp)]) (fun f => by rw [zst_k _ _ _ _ (by simp), zst_k _ _ _ _ (by simp)]) hL2, rfl⟩
def kB (n : Nat) : Bool := n == 1 || (n == 2 || (n == 19 || n == 21))
theorem zB_k {g p o : Int} {k : zK} {f : Int} (h : kB k.1 = false) : zB S g p o k f = S k f := zB_fr (K := kB) rfl rfl rfl rfl _ _ h
theorem zB_O {g p o : Int} (g' p' : Int) (hne : ¬ (g' = g ∧ p' = p)) (f : Int) : zB S g p o (19, g', p', 0) f = S (19, g', p', 0) f := by
  have hl : ∀ (T : zS) (a b c d e : Int), zlw T a b c d e (19, g', p', 0) f = T (19, g', p', 0) f := fun T a b c d e => zlw_fr (K := fun n => n == 1 || n == 2) rfl rfl _ _ rfl
  have hz : ∀ v, zst S (19, g, p, 0) o v (19, g', p', 0) f = S (19, g', p', 0) f := fun v => zst_k _ _ _ _ (fun q => by cases q; exact hne ⟨rfl, rfl⟩)
  unfold zB zgb
  split
  · rw [hl, hl, hz]
  · rw [hl, zst_k _ _ _ _ (by simp), hz]
theorem zB_5 {g p o : Int} (ht : S (20, g, p, 0) o ≤ 3) (h1 : S (19, g, p, 0) o = 1) (h : s5 P S) : s5 P (zB S g p o) := by
  have hl : ∀ (T : zS) (a b c d e : Int) (k : zK) (f : Int), (k.1 == 1 || k.1 == 2) = false → zlw T a b c d e k f = T k f := fun T a b c d e k f hk => zlw_fr (K := fun n => n == 1 || n == 2) rfl rfl _ _ hk
  intro g' p' o' hg hp
  rw [zB_k (k := (20, g', p', 0)) rfl]
  have h0 := h g' p' o' hg hp
  unfold zB zgb
  split
  · next hc =>
    rw [hl _ _ _ _ _ _ _ _ rfl, hl _ _ _ _ _ _ _ _ rfl, zst_at]
    split
    · exact ⟨fun q => by omega, fun q => by omega⟩
    · exact h0
  · next hc =>
    rw [hl _ _ _ _ _ _ _ _ rfl, zst_k _ _ _ _ (by simp), zst_at]
    split
    · next q =>
      obtain ⟨q1, rfl⟩ := q
      cases q1
      exact ⟨fun _ => by omega, fun q => by omega⟩
    · exact h0
theorem xY_B {g p o : Int} (ht : S (20, g, p, 0) o ≤ 3) (h1 : S (19, g, p, 0) o = 1) (h : xY P S) : xY P (zB S g p o) := xY_fr (fun f => zB_k rfl) (fun t f => zB_k rfl) (fun g f => zB_k rfl) (fun g p => zB_k rfl) (zB_5 ht h1 h.2.1) h
theorem o_nack (h : xJ P S M) {g p o : Int} (hg : inG P g) (hp : inQ P g p) (ho : inM P (P 4 g 0) p o) (h1 : S (19, g, p, 0) o = 1) : xJ P (zku P (zB S g p o) g p) (msa P (mnk M g (mi M (P 4 g 0) p o))) ∧ zgbr S g p o (S (0, 0, 0, 0) 6) (S (0, 0, 0, 0) 7) = mnr M g (mi M (P 4 g 0) p o) := by
  obtain ⟨hX, hL, hZ, hY, hW, hV, hP⟩ := h
  have hT := hV.qg hg
  have hn := (hZ g p hg hp).1 o ho
  have hd : S (14, P 4 g 0, p, o) 5 = 0 := Classical.byContradiction fun q => hn ⟨q, Or.inl h1⟩
  have hq := hV.qt hT
  have hq0 := hV.q
  have hmm := hV.qm hT hp
  obtain ⟨n1, n2, n3⟩ := r_nk hX hL hW hV hg hp ho rfl hd
  have hV1 := mnk_W hV (g := g) (m := mi M (P 4 g 0) p o) ⟨by omega, by omega⟩
  obtain ⟨j1, j2, j3⟩ := r_one n1 hV1 hg hp (fun g' p' hg' hp' hne => sg_fr (fun o f => zB_k rfl) (fun f _ => zB_k rfl) (fun f => zB_O g' p' hne f) (hZ g' p' hg' hp'))
  have hW1 := zB_W (g := g) (p := p) (o := o) ⟨by omega, by omega⟩ ⟨by omega, by omega⟩ ⟨by omega, by omega⟩ hW
  exact ⟨⟨j1, rL_settle n2, j2, xY_ku hmm.1 (xY_B (hW.c g p o).1.2 h1 hY), zku_W hP hg hp hW1, j3, hP⟩, n3⟩
end ACTS
