/-! ===== begin, end: class and model act alike ===== -/
def eA (k : zK) (f : Int) : Bool := k.1 == 3 || ((k.1 == 14 && f == 4) || (k.1 == 0 && f == 4))
def eM (k : zK) (f : Int) : Bool := k.1 == 61 || (k.1 == 62 || (k.1 == 40 && f == 20))
section TRAN
variable {P : zP} {S M : zS}
/-- what transactions don't touch -/
theorem xX_tr {S' M' : zS} (hS : fr eA S S') (hM : fr eM M M') (hA : rA S' M') (hC : rC P S' M') (hT : rT P S' M') (hD : rD S' M') (h : xX P S M) : xX P S' M' := by
  obtain ⟨⟨⟨a1, a2, a3, a4⟩, a5, a6, a7, a8⟩, a9, b1, b2, b3, b4, b5⟩ := h
  refine ⟨⟨⟨hA, ?_, hC, hT⟩, hD, ?_, ?_, ?_⟩, ?_, ?_, ?_, ?_, ?_, ?_⟩
  · show rB P (rz eA S') (rz eM M')
    rw [rz_eq hS, rz_eq hM]
    exact a2
  · show rE P (rz eM M')
    rw [rz_eq hM]
    exact a6
  · show rG P (rz eA S') (rz eM M')
    rw [rz_eq hS, rz_eq hM]
    exact a7
  · show rJa P (rz eM M')
    rw [rz_eq hM]
    exact a8
  · show rF P (rz eA S') (rz eM M')
    rw [rz_eq hS, rz_eq hM]
    exact a9
  · show rH P (rz eA S') (rz eM M')
    rw [rz_eq hS, rz_eq hM]
    exact b1
  · show rI P (rz eM M')
    rw [rz_eq hM]
    exact b2
  · show rJh P (rz eM M')
    rw [rz_eq hM]
    exact b3
  · show rK P (rz eA S')
    rw [rz_eq hS]
    exact b4
  · show rN (rz eM M')
    rw [rz_eq hM]
    exact b5
theorem o_begin (h : xJ P S M) {x : Int} {M1 : zS} (hx : 0 ≤ x ∧ x < 4) (h0 : M (62, 0, 0, 0) x = -1) (hM : fr eM M M1) (h61 : ∀ f, 0 ≤ f → f < M (40, 0, 0, 0) 20 → M1 (61, 0, 0, 0) f = M (61, 0, 0, 0) f) (h61' : M1 (61, 0, 0, 0) (M (40, 0, 0, 0) 20) = 0) (h62 : ∀ f, M1 (62, 0, 0, 0) f = if f = x then M (40, 0, 0, 0) 20 else M (62, 0, 0, 0) f) (h20 : M1 (40, 0, 0, 0) 20 = M (40, 0, 0, 0) 20 + 1) : xX P (zst (zst S (3, 0, 0, 0) x 1) (0, 0, 0, 0) 4 (S (0, 0, 0, 0) 4 + 1)) M1 ∧ rL (zst (zst S (3, 0, 0, 0) x 1) (0, 0, 0, 0) 4 (S (0, 0, 0, 0) 4 + 1)) M1 ∧ xZ P (zst (zst S (3, 0, 0, 0) x 1) (0, 0, 0, 0) 4 (S (0, 0, 0, 0) 4 + 1)) ∧ xY P (zst (zst S (3, 0, 0, 0) x 1) (0, 0, 0, 0) 4 (S (0, 0, 0, 0) 4 + 1)) ∧ zWS P (zst (zst S (3, 0, 0, 0) x 1) (0, 0, 0, 0) 4 (S (0, 0, 0, 0) 4 + 1)) ∧ S (0, 0, 0, 0) 4 + 1 = M (40, 0, 0, 0) 20 + 1 := by
  obtain ⟨hX, hL, hZ, hY, hW, hV, hP⟩ := id h
  have hA := hX.1.A
  have b20 := hV.f20
  have hq := hV.q
  have fS : fr eA S (zst (zst S (3, 0, 0, 0) x 1) (0, 0, 0, 0) 4 (S (0, 0, 0, 0) 4 + 1)) := (fr.rf.st rfl).st rfl
  have s3 : ∀ f, zst (zst S (3, 0, 0, 0) x 1) (0, 0, 0, 0) 4 (S (0, 0, 0, 0) 4 + 1) (3, 0, 0, 0) f = if f = x then 1 else S (3, 0, 0, 0) f := fun f => by
    rw [zst_k _ _ _ _ (by simp), zst_at]
    by_cases hf : f = x
    · rw [if_pos ⟨rfl, hf⟩, if_pos hf]
    · rw [if_neg (fun q => hf q.2), if_neg hf]
  have s14 : ∀ t p o f, zst (zst S (3, 0, 0, 0) x 1) (0, 0, 0, 0) 4 (S (0, 0, 0, 0) 4 + 1) (14, t, p, o) f = S (14, t, p, o) f := fun t p o f => by rw [zst_k _ _ _ _ (by simp), zst_k _ _ _ _ (by simp)]
  have s04 : zst (zst S (3, 0, 0, 0) x 1) (0, 0, 0, 0) 4 (S (0, 0, 0, 0) 4 + 1) (0, 0, 0, 0) 4 = S (0, 0, 0, 0) 4 + 1 := zst_s _ _ _ _
  have zk : zfr (fun n => n == 0 || n == 3) S (zst (zst S (3, 0, 0, 0) x 1) (0, 0, 0, 0) 4 (S (0, 0, 0, 0) 4 + 1)) := (zfr.rf.st rfl).st rfl
  have hW1 : zWS P (zst (zst S (3, 0, 0, 0) x 1) (0, 0, 0, 0) 4 (S (0, 0, 0, 0) 4 + 1)) := (hW.sf ⟨by omega, by omega⟩ (by decide)).s0 (by have := hA.2.2.2.2; exact ⟨by omega, by omega⟩) ⟨fun q => by omega, fun q => by omega, fun q => by omega⟩
  generalize zst (zst S (3, 0, 0, 0) x 1) (0, 0, 0, 0) 4 (S (0, 0, 0, 0) 4 + 1) = T at fS s3 s14 s04 zk hW1 ⊢
  have e59 : ∀ t p o, mi M1 t p o = mi M t p o := fun t p o => hM _ _ rfl
  refine ⟨xX_tr fS hM ⟨?_, ?_, ?_, ?_, ?_⟩ (fun t p o ht hp ho => ?_) (fun t p o ht hp ho => ?_) (fun x' g1 g2 => ?_) hX, rL_fr (fun k f hk => zk _ _ (by rcases hk with e | e <;> rw [e] <;> rfl)) (hM _ _ rfl) (fun f => hM _ _ rfl) hL, xZ_fr zk rfl rfl rfl hZ, xY_fr5 (fS _ _ rfl) (fun t f => zk _ _ rfl) (fun g f => zk _ _ rfl) (fun g p => zk _ _ rfl) (fun g p o hg hp => by rw [zk _ _ rfl, zk (20, g, p, 0) _ rfl]; exact hY.2.1 g p o hg hp) hY, hW1, by rw [hA.2.2.2.2]⟩
  · rw [hM _ _ rfl, fS _ _ rfl]; exact hA.1
  · rw [hM _ _ rfl, fS _ _ rfl]; exact hA.2.1
  · rw [hM _ _ rfl, fS _ _ rfl]; exact hA.2.2.1
  · rw [hM _ _ rfl, fS _ _ rfl]; exact hA.2.2.2.1
  · rw [h20, s04, hA.2.2.2.2]
  · obtain ⟨c1, c2, c3, c4, c5, c6, c7, c8⟩ := hX.1.C t p o ht hp ho
    obtain ⟨t1, t2, t3⟩ := hX.1.T t p o ht hp ho
    rw [e59, hM (40, 0, 0, 0) 11 rfl, hM (52, 0, 0, 0) _ rfl, hM (53, 0, 0, 0) _ rfl, hM (54, 0, 0, 0) _ rfl, hM (55, 0, 0, 0) _ rfl, hM (56, 0, 0, 0) _ rfl, hM (58, 0, 0, 0) _ rfl, s14, s14, s14, s14, s14]
    refine ⟨c1, c2, c3, c4, c5, c6, ?_, c8⟩
    rw [← c7]
    unfold mS
    rw [hM (57, 0, 0, 0) _ rfl]
    by_cases hm : M (57, 0, 0, 0) (mi M t p o) = -1
    · rw [if_pos (Or.inl hm), if_pos (Or.inl hm)]
    · have b57 := hV.b57 (mi M t p o)
      rw [h61 _ (by omega) t3]
  · obtain ⟨t1, t2, t3⟩ := hX.1.T t p o ht hp ho
    rw [e59, hM (57, 0, 0, 0) _ rfl, s14, s14, h20]
    refine ⟨fun q => ?_, fun x' g1 g2 g3 g4 => ?_, by omega⟩
    · obtain ⟨u1, u2, u3⟩ := t1 q
      rw [h62, if_neg (fun e => u3 (by rw [e]; exact h0))]
      exact ⟨u1, u2, u3⟩
    · rw [h62] at g3 g4
      by_cases hxx : x' = x
      · rw [if_pos hxx] at g4
        omega
      · rw [if_neg hxx] at g3 g4
        exact t2 x' g1 g2 g3 g4
  · obtain ⟨d1, d2, d3, d4⟩ := hX.1.D x' g1 g2
    by_cases hxx : x' = x
    · subst hxx
      rw [s3, if_pos rfl, h62, if_pos rfl]
      refine ⟨⟨fun q => by omega, fun q => by omega⟩, Or.inr rfl, fun _ => ⟨⟨by omega, by rw [h20]; omega⟩, h61'⟩, fun y g3 g4 g5 g6 => ?_⟩
      rw [h62] at g5
      by_cases hy : y = x'
      · exact hy.symm
      · rw [if_neg hy] at g5
        have := (hX.1.D y g3 g4).2.2.1 (by omega)
        omega
    · rw [s3, if_neg hxx, h62, if_neg hxx]
      refine ⟨d1, d2, fun q => ?_, fun y g3 g4 g5 g6 => ?_⟩
      · obtain ⟨u1, u2⟩ := d3 q
        exact ⟨⟨u1.1, by rw [h20]; omega⟩, by rw [h61 _ u1.1 u1.2]; exact u2⟩
      · rw [h62] at g5
        by_cases hy : y = x
        · rw [if_pos hy] at g5
          have := d3 g6
          omega
        · rw [if_neg hy] at g5
          exact d4 y g3 g4 g5 g6
theorem o_end (h : xJ P S M) {x y z : Int} (hx : 0 ≤ x ∧ x < 4) (h0 : ¬ S (3, 0, 0, 0) x = 0) (hyz : y = 0 ∧ z = 1 ∨ y = 1 ∧ z = 2) : xJ P (zkA P (lp (zse1 P x y) 0 (P 0 0 0) (zst S (3, 0, 0, 0) x 0, 0)).1) (msa P (zst (zst M (62, 0, 0, 0) x (-1)) (61, 0, 0, 0) (M (62, 0, 0, 0) x) z)) ∧ (lp (zse1 P x y) 0 (P 0 0 0) (zst S (3, 0, 0, 0) x 0, 0)).2 = mte (zst (zst M (62, 0, 0, 0) x (-1)) (61, 0, 0, 0) (M (62, 0, 0, 0) x) z) (M (62, 0, 0, 0) x) := by
  obtain ⟨hX, hL, hZ, hY, hW, hV, hP⟩ := id h
  have hA := hX.1.A
  have hq := hV.q
  obtain ⟨dx1, dx2, dx3, dx4⟩ := hX.1.D x hx.1 hx.2
  have hits : ¬ M (62, 0, 0, 0) x = -1 := fun q => h0 (dx1.mpr q)
  have hW1 : zWS P (lp (zse1 P x y) 0 (P 0 0 0) (zst S (3, 0, 0, 0) x 0, 0)).1 := lp_ind (f := zse1 P x y) (fun _ s => zWS P s.1) _ 0 (P 0 0 0) (zst S (3, 0, 0, 0) x 0, 0) hq.1.1.1 rfl (hW.sf ⟨by omega, by omega⟩ (by decide)) (fun t s h1 h2 hs => zse1_W (m := s.2) hP ⟨by omega, by omega⟩ ⟨h1, h2⟩ hs)
  have hV1 : zWM P (zst (zst M (62, 0, 0, 0) x (-1)) (61, 0, 0, 0) (M (62, 0, 0, 0) x) z) := (hV.s62 ⟨by omega, by omega⟩).s61 ⟨by omega, by omega⟩
  rw [eS_all hV] at hW1 ⊢
  dsimp only at hW1 ⊢
  have w14 : ∀ t p o f, zst S (3, 0, 0, 0) x 0 (14, t, p, o) f = S (14, t, p, o) f := fun t p o f => zst_k _ _ _ _ (by simp)
  have T4 : ∀ t p o, inT P t → inP P t p → inM P t p o → eS (zst S (3, 0, 0, 0) x 0) x y (fun t p o => inT P t ∧ inP P t p ∧ inM P t p o) (14, t, p, o) 4 = if S (14, t, p, o) 4 = 2 ∧ S (14, t, p, o) 3 = x then y else S (14, t, p, o) 4 := fun t p o ht hp ho => by
    rw [eS_at (V := fun t p o => inT P t ∧ inP P t p ∧ inM P t p o) ⟨ht, hp, ho⟩, w14, w14]
  have Tn : ∀ (k : zK) (f : Int), ¬ (k.1 = 14 ∧ f = 4) → eS (zst S (3, 0, 0, 0) x 0) x y (fun t p o => inT P t ∧ inP P t p ∧ inM P t p o) k f = zst S (3, 0, 0, 0) x 0 k f := fun k f hk => eS_n (fun q => hk ⟨q.1, q.2.2⟩)
  generalize eS (zst S (3, 0, 0, 0) x 0) x y (fun t p o => inT P t ∧ inP P t p ∧ inM P t p o) = T at hW1 T4 Tn ⊢
  have T3 : ∀ f, T (3, 0, 0, 0) f = if f = x then 0 else S (3, 0, 0, 0) f := fun f => by
    rw [Tn _ _ (fun q => absurd q.1 (by decide)), zst_at]
    by_cases hf : f = x
    · rw [if_pos ⟨rfl, hf⟩, if_pos hf]
    · rw [if_neg (fun q => hf q.2), if_neg hf]
  have fS : fr eA S T := fun k f hk => by
    have e1 : ¬ (k.1 = 14 ∧ f = 4) := fun q => by
      simp only [eA, Bool.or_eq_false_iff, Bool.and_eq_false_iff, beq_eq_false_iff_ne] at hk
      omega
    rw [Tn _ _ e1, zst_k _ _ _ _ (fun q => by rw [q] at hk; exact Bool.noConfusion (show true = false from hk))]
  have zk : zfr (fun n => n == 3 || n == 14) S T := fun k f hk => by
    simp only [Bool.or_eq_false_iff, beq_eq_false_iff_ne] at hk
    rw [Tn _ _ (fun q => hk.2 q.1), zst_k _ _ _ _ (fun q => hk.1 (by rw [q]))]
  have hM : fr eM M (zst (zst M (62, 0, 0, 0) x (-1)) (61, 0, 0, 0) (M (62, 0, 0, 0) x) z) := (fr.rf.st rfl).st rfl
  have hM20 : zst (zst M (62, 0, 0, 0) x (-1)) (61, 0, 0, 0) (M (62, 0, 0, 0) x) z (40, 0, 0, 0) 20 = M (40, 0, 0, 0) 20 := by rw [zst_k _ _ _ _ (by simp), zst_k _ _ _ _ (by simp)]
  have m62 : ∀ f, zst (zst M (62, 0, 0, 0) x (-1)) (61, 0, 0, 0) (M (62, 0, 0, 0) x) z (62, 0, 0, 0) f = if f = x then -1 else M (62, 0, 0, 0) f := fun f => by
    rw [zst_k _ _ _ _ (by simp), zst_at]
    by_cases hf : f = x
    · rw [if_pos ⟨rfl, hf⟩, if_pos hf]
    · rw [if_neg (fun q => hf q.2), if_neg hf]
  have m61 : ∀ f, zst (zst M (62, 0, 0, 0) x (-1)) (61, 0, 0, 0) (M (62, 0, 0, 0) x) z (61, 0, 0, 0) f = if f = M (62, 0, 0, 0) x then z else M (61, 0, 0, 0) f := fun f => by
    rw [zst_at]
    by_cases hf : f = M (62, 0, 0, 0) x
    · rw [if_pos ⟨rfl, hf⟩, if_pos hf]
    · rw [if_neg (fun q => hf q.2), if_neg hf, zst_k _ _ _ _ (by simp)]
  have mcnt : mte (zst (zst M (62, 0, 0, 0) x (-1)) (61, 0, 0, 0) (M (62, 0, 0, 0) x) z) (M (62, 0, 0, 0) x) = sm (fun t => sm (fun p => sm (eC (zst S (3, 0, 0, 0) x 0) x t p) 0 (P 2 t p)) 0 (P 1 t 0)) 0 (P 0 0 0) := by
    unfold mte
    rw [hM (40, 0, 0, 0) 11 rfl, sm_E hX.1.E, sm_fo _ _ _ rfl]
    unfold fo3
    refine fo_cg (fun t h1 h2 => ?_)
    rw [sm_fo _ _ _ rfl]
    refine fo_cg (fun p h3 h4 => ?_)
    rw [sm_fo _ _ _ rfl]
    refine fo_cg (fun o h5 h6 => ?_)
    obtain ⟨t1, t2, t3⟩ := hX.1.T t p o ⟨h1, h2⟩ ⟨h3, h4⟩ ⟨h5, h6⟩
    show (if _ = M (62, 0, 0, 0) x then (1 : Int) else 0) = eC (zst S (3, 0, 0, 0) x 0) x t p o
    unfold eC
    rw [hM (57, 0, 0, 0) _ rfl, w14, w14]
    by_cases hc : S (14, t, p, o) 4 = 2 ∧ S (14, t, p, o) 3 = x
    · have := (t1 hc.1).2.1
      rw [hc.2] at this
      rw [if_pos hc, if_pos this]
    · rw [if_neg hc, if_neg (fun q => hc (t2 x hx.1 hx.2 hits q))]
  rw [mcnt]
  generalize zst (zst M (62, 0, 0, 0) x (-1)) (61, 0, 0, 0) (M (62, 0, 0, 0) x) z = M1 at hV1 hM hM20 m62 m61 ⊢
  have e59 : ∀ t p o, mi M1 t p o = mi M t p o := fun t p o => hM _ _ rfl
  have sn : ∀ t p o f, f ≠ 4 → T (14, t, p, o) f = S (14, t, p, o) f := fun t p o f hf => by rw [Tn _ _ (fun q => hf q.2), w14]
  have X1 : xX P T M1 := by
    refine xX_tr fS hM ⟨?_, ?_, ?_, ?_, ?_⟩ (fun t p o ht hp ho => ?_) (fun t p o ht hp ho => ?_) (fun x' g1 g2 => ?_) hX
    · rw [hM _ _ rfl, zk _ _ rfl]; exact hA.1
    · rw [hM _ _ rfl, zk _ _ rfl]; exact hA.2.1
    · rw [hM _ _ rfl, zk _ _ rfl]; exact hA.2.2.1
    · rw [hM _ _ rfl, zk _ _ rfl]; exact hA.2.2.2.1
    · rw [hM20, zk _ _ rfl]; exact hA.2.2.2.2
    · obtain ⟨c1, c2, c3, c4, c5, c6, c7, c8⟩ := hX.1.C t p o ht hp ho
      obtain ⟨t1, t2, t3⟩ := hX.1.T t p o ht hp ho
      rw [e59, hM (40, 0, 0, 0) 11 rfl, hM (52, 0, 0, 0) _ rfl, hM (53, 0, 0, 0) _ rfl, hM (54, 0, 0, 0) _ rfl, hM (55, 0, 0, 0) _ rfl, hM (56, 0, 0, 0) _ rfl, hM (58, 0, 0, 0) _ rfl, sn _ _ _ 0 (by decide), sn _ _ _ 1 (by decide), sn _ _ _ 2 (by decide), sn _ _ _ 5 (by decide), T4 t p o ht hp ho]
      refine ⟨c1, c2, c3, c4, c5, c6, ?_, c8⟩
      unfold mS
      rw [hM (57, 0, 0, 0) _ rfl, m61]
      by_cases hc : S (14, t, p, o) 4 = 2 ∧ S (14, t, p, o) 3 = x
      · have e := (t1 hc.1).2.1
        rw [hc.2] at e
        rw [if_pos hc, e, if_pos rfl]
        rcases hyz with ⟨rfl, rfl⟩ | ⟨rfl, rfl⟩
        · rw [if_pos (Or.inr rfl)]
        · rw [if_neg (fun q => q.elim hits (fun q => by omega)), if_pos rfl]
      · have hne : ¬ M (57, 0, 0, 0) (mi M t p o) = M (62, 0, 0, 0) x := fun q => hc (t2 x hx.1 hx.2 hits q)
        rw [if_neg hc, if_neg hne]
        exact c7
    · obtain ⟨t1, t2, t3⟩ := hX.1.T t p o ht hp ho
      rw [e59, hM (57, 0, 0, 0) _ rfl, T4 t p o ht hp ho, sn _ _ _ 3 (by decide), hM20]
      refine ⟨fun q => ?_, fun x' g1 g2 g3 g4 => ?_, t3⟩
      · by_cases hc : S (14, t, p, o) 4 = 2 ∧ S (14, t, p, o) 3 = x
        · rw [if_pos hc] at q
          omega
        · rw [if_neg hc] at q
          obtain ⟨u1, u2, u3⟩ := t1 q
          rw [m62, if_neg (fun e => hc ⟨q, e⟩)]
          exact ⟨u1, u2, u3⟩
      · rw [m62] at g3 g4
        by_cases hxx : x' = x
        · rw [if_pos hxx] at g3
          exact absurd rfl g3
        · rw [if_neg hxx] at g3 g4
          have u := t2 x' g1 g2 g3 g4
          rw [if_neg (fun q => hxx (by rw [← u.2]; exact q.2))]
          exact u
    · obtain ⟨d1, d2, d3, d4⟩ := hX.1.D x' g1 g2
      by_cases hxx : x' = x
      · subst hxx
        rw [T3, if_pos rfl, m62, if_pos rfl]
        exact ⟨⟨fun _ => rfl, fun _ => rfl⟩, Or.inl rfl, fun q => absurd rfl q, fun y g3 g4 g5 g6 => absurd rfl g6⟩
      · rw [T3, if_neg hxx, m62, if_neg hxx]
        refine ⟨d1, d2, fun q => ?_, fun y g3 g4 g5 g6 => ?_⟩
        · obtain ⟨u1, u2⟩ := d3 q
          refine ⟨by rw [hM20]; exact u1, ?_⟩
          rw [m61, if_neg (fun e => hxx (d4 x hx.1 hx.2 e q))]
          exact u2
        · rw [m62] at g5
          by_cases hy : y = x
          · rw [if_pos hy] at g5
            exact absurd g5 g6
          · rw [if_neg hy] at g5
            exact d4 y g3 g4 g5 g6
  obtain ⟨j1, j2, j3⟩ := r_sa X1 hV1
  have L1 : rL T M1 := rL_fr (fun k f hk => zk _ _ (by rcases hk with e | e <;> rw [e] <;> rfl)) (hM _ _ rfl) (fun f => hM _ _ rfl) hL
  have Y1 : xY P T := xY_fr5 (zk _ _ rfl) (fun t f => zk _ _ rfl) (fun g f => zk _ _ rfl) (fun g p => zk _ _ rfl) (fun g p o hg hp => by rw [zk _ _ rfl, zk (20, g, p, 0) _ rfl]; exact hY.2.1 g p o hg hp) hY
  exact ⟨⟨j1, rL_kA L1, j2, xY_kA hV1 Y1, zkA_W hP hW1, j3, hP⟩, rfl⟩
end TRAN
