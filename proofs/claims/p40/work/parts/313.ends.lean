/-! ===== setKeep, setPatience, begin, end: class and model act alike ===== -/
section ENDS
variable {P : zP} {S M : zS}
theorem o_patience (h : xJ P S M) {x y : Int} (hx : 1 ≤ x ∧ x ≤ 20) (hy : 1 ≤ y ∧ y ≤ 50) : xJ P (zst (zst S (0, 0, 0, 0) 7 x) (0, 0, 0, 0) 8 y) (zst (zst M (40, 0, 0, 0) 2 x) (40, 0, 0, 0) 3 y) := by
  obtain ⟨hX, hL, hZ, hY, hW, hV, hP⟩ := id h
  have hA := hX.1.A
  have fS : zfr k0 S (zst (zst S (0, 0, 0, 0) 7 x) (0, 0, 0, 0) 8 y) := (zfr.rf.st rfl).st rfl
  have n0 : ∀ f, f ≠ 7 → f ≠ 8 → zst (zst S (0, 0, 0, 0) 7 x) (0, 0, 0, 0) 8 y (0, 0, 0, 0) f = S (0, 0, 0, 0) f := fun f h1 h2 => by rw [zst_f _ _ _ h2, zst_f _ _ _ h1]
  have m0 : ∀ f, f ≠ 2 → f ≠ 3 → zst (zst M (40, 0, 0, 0) 2 x) (40, 0, 0, 0) 3 y (40, 0, 0, 0) f = M (40, 0, 0, 0) f := fun f h1 h2 => by rw [zst_f _ _ _ h2, zst_f _ _ _ h1]
  refine ⟨xX_num fS ((fr.rf.st rfl).st rfl) ⟨?_, ?_, ?_, ?_, ?_⟩ hX, rL_fr (fun k f hk => fS _ _ (by rcases hk with e | e <;> rw [e] <;> rfl)) (m0 _ (by decide) (by decide)) (fun f => by rw [zst_k _ _ _ _ (by simp), zst_k _ _ _ _ (by simp)]) hL, xZ_fr fS rfl rfl rfl hZ, xY_fr5 (n0 5 (by decide) (by decide)) (fun t f => fS _ _ rfl) (fun g f => fS _ _ rfl) (fun g p => fS _ _ rfl) (fun g p o hg hp => by rw [fS _ _ rfl, fS (20, g, p, 0) _ rfl]; exact hY.2.1 g p o hg hp) hY, (hW.s0 ⟨by omega, by omega⟩ ⟨fun q => by omega, fun _ => hx, fun q => by omega⟩).s0 ⟨by omega, by omega⟩ ⟨fun q => by omega, fun q => by omega, fun _ => hy⟩, (hV.s40_2 hx).s40_3 hy, hP⟩
  · rw [m0 1 (by decide) (by decide), n0 6 (by decide) (by decide)]; exact hA.1
  · rw [zst_f _ _ _ (show (2 : Int) ≠ 3 by decide), zst_s, zst_f _ _ _ (show (7 : Int) ≠ 8 by decide), zst_s]
  · rw [zst_s, zst_s]
  · rw [m0 11 (by decide) (by decide), n0 5 (by decide) (by decide)]; exact hA.2.2.2.1
  · rw [m0 20 (by decide) (by decide), n0 4 (by decide) (by decide)]; exact hA.2.2.2.2
def k8 (n : Nat) : Bool := n == 8
def n46 (n : Nat) : Bool := n == 46
theorem o_keep (h : xJ P S M) {t k : Int} (ht : inT P t) (hk : 0 ≤ k ∧ k ≤ 200) : xJ P (zst S (8, t, 0, 0) 3 k) (zst M (46, 0, 0, 0) t k) := by
  obtain ⟨hX, hL, hZ, hY, hW, hV, hP⟩ := id h
  obtain ⟨⟨⟨a1, a2, a3, a4⟩, a5, a6, a7, a8⟩, a9, a10⟩ := hX
  have fS : zfr k8 S (zst S (8, t, 0, 0) 3 k) := zfr.rf.st rfl
  have fM : zfr n46 M (zst M (46, 0, 0, 0) t k) := zfr.rf.st rfl
  refine ⟨⟨⟨⟨?_, fun t' g1 => ?_, ?_, ?_⟩, ?_, ?_, ?_, ?_⟩, xf_fr (zfr.rf.st rfl) (zfr.rf.st rfl) a9, xh_fr (zfr.rf.st rfl) (fr.rf.st rfl) a10⟩, rL_fr (fun k f hk => fS _ _ (by rcases hk with e | e <;> rw [e] <;> rfl)) (fM _ _ rfl) (fun f => fM _ _ rfl) hL, xZ_fr fS rfl rfl rfl hZ, xY_fr5 (fS _ _ rfl) (fun t f => fS _ _ rfl) (fun g f => fS _ _ rfl) (fun g p => fS _ _ rfl) (fun g p o hg hp => by rw [fS _ _ rfl, fS (20, g, p, 0) _ rfl]; exact hY.2.1 g p o hg hp) hY, hW.sf ⟨by omega, by omega⟩ (by decide), hV.s46 hk, hP⟩
  · show rA (rq k8 (zst S (8, t, 0, 0) 3 k)) (rq n46 (zst M (46, 0, 0, 0) t k))
    rw [rq_eq fS, rq_eq fM]
    exact a1
  · obtain ⟨c1, c2, c3, c4⟩ := a2 t' g1
    refine ⟨?_, by rw [fM _ _ rfl, zst_at, if_neg (fun q => absurd q.2 (by decide))]; exact c2, fun x h1 h2 => by rw [fM _ _ rfl, fS _ _ rfl]; exact c3 x h1 h2, fun p hp => by rw [fM _ _ rfl, fS _ _ rfl]; exact c4 p hp⟩
    by_cases hc : t' = t
    · subst hc; rw [zst_s, zst_s]
    · rw [zst_f _ _ _ hc, zst_k _ _ _ _ (fun q => hc (by cases q; rfl))]
      exact c1
  · show rC P (rq k8 (zst S (8, t, 0, 0) 3 k)) (rq n46 (zst M (46, 0, 0, 0) t k))
    rw [rq_eq fS, rq_eq fM]
    exact a3
  · show rT P (rq k8 (zst S (8, t, 0, 0) 3 k)) (rq n46 (zst M (46, 0, 0, 0) t k))
    rw [rq_eq fS, rq_eq fM]
    exact a4
  · show rD (rq k8 (zst S (8, t, 0, 0) 3 k)) (rq n46 (zst M (46, 0, 0, 0) t k))
    rw [rq_eq fS, rq_eq fM]
    exact a5
  · show rE P (rq n46 (zst M (46, 0, 0, 0) t k))
    rw [rq_eq fM]
    exact a6
  · show rG P (rq k8 (zst S (8, t, 0, 0) 3 k)) (rq n46 (zst M (46, 0, 0, 0) t k))
    rw [rq_eq fS, rq_eq fM]
    exact a7
  · obtain ⟨e1, e2, e3⟩ := a8
    have ht2 := ht.2
    refine ⟨fun t' g1 g2 => ?_, fun g' r g1 g2 g3 g4 => by rw [fM _ _ rfl]; exact e2 g' r g1 g2 g3 g4, fun m' g1 g2 => by rw [fM (40, 0, 0, 0) _ rfl] at g1; rw [fM _ _ rfl]; exact e3 m' g1 g2⟩
    obtain ⟨f1, f2, f3⟩ := e1 t' g1 g2
    exact ⟨by rw [zst_f _ _ _ (by omega)]; exact f1, fun p k1 k2 => by rw [fM _ _ rfl, fM _ _ rfl]; exact f2 p k1 k2, fun x k1 k2 => by rw [fM _ _ rfl]; exact f3 x k1 k2⟩
/-! what an ended transaction leaves of a state: those pending of x stand as y -/
noncomputable def eS (S : zS) (x y : Int) (V : Int → Int → Int → Prop) : zS := by
  classical
  exact fun k f => if k.1 = 14 ∧ V k.2.1 k.2.2.1 k.2.2.2 ∧ f = 4 ∧ S k 4 = 2 ∧ S k 3 = x then y else S k f
theorem eS_at {x y t p o : Int} {V : Int → Int → Int → Prop} (hv : V t p o) : eS S x y V (14, t, p, o) 4 = if S (14, t, p, o) 4 = 2 ∧ S (14, t, p, o) 3 = x then y else S (14, t, p, o) 4 := by
  unfold eS
  by_cases hc : S (14, t, p, o) 4 = 2 ∧ S (14, t, p, o) 3 = x
  · rw [if_pos ⟨rfl, hv, rfl, hc⟩, if_pos hc]
  · rw [if_neg (fun q => hc q.2.2.2), if_neg hc]
theorem eS_n {x y : Int} {V : Int → Int → Int → Prop} {k : zK} {f : Int} (h : ¬ (k.1 = 14 ∧ V k.2.1 k.2.2.1 k.2.2.2 ∧ f = 4)) : eS S x y V k f = S k f := by
  unfold eS
  rw [if_neg (fun q => h ⟨q.1, q.2.1, q.2.2.1⟩)]
theorem eS_cg {x y : Int} {V V' : Int → Int → Int → Prop} (h : ∀ t p o, V t p o ↔ V' t p o) : eS S x y V = eS S x y V' := by
  have : V = V' := by
    funext t p o
    exact propext (h t p o)
  rw [this]
theorem eS_step {x y t p o : Int} {V : Int → Int → Int → Prop} (hv : ¬ V t p o) (c : Int) : zsp t p x y o (eS S x y V, c) = (eS S x y (fun t' p' o' => V t' p' o' ∨ (t' = t ∧ p' = p ∧ o' = o)), c + if S (14, t, p, o) 4 = 2 ∧ S (14, t, p, o) 3 = x then 1 else 0) := by
  have e4 : eS S x y V (14, t, p, o) 4 = S (14, t, p, o) 4 := eS_n (fun q => hv q.2.1)
  have e3 : eS S x y V (14, t, p, o) 3 = S (14, t, p, o) 3 := eS_n (fun q => absurd q.2.2 (by decide))
  have hS : (if S (14, t, p, o) 4 = 2 ∧ S (14, t, p, o) 3 = x then zst (eS S x y V) (14, t, p, o) 4 y else eS S x y V) = eS S x y (fun t' p' o' => V t' p' o' ∨ (t' = t ∧ p' = p ∧ o' = o)) := by
    funext k f
    by_cases hk : k = (14, t, p, o) ∧ f = 4
    · obtain ⟨rfl, rfl⟩ := hk
      rw [eS_at (Or.inr ⟨rfl, rfl, rfl⟩)]
      by_cases hc : S (14, t, p, o) 4 = 2 ∧ S (14, t, p, o) 3 = x
      · rw [if_pos hc, if_pos hc, zst_s]
      · rw [if_neg hc, if_neg hc, e4]
    · have e9 : (if S (14, t, p, o) 4 = 2 ∧ S (14, t, p, o) 3 = x then zst (eS S x y V) (14, t, p, o) 4 y else eS S x y V) k f = eS S x y V k f := by
        split
        · rw [zst_at, if_neg hk]
        · rfl
      rw [e9]
      by_cases hq : k.1 = 14 ∧ V k.2.1 k.2.2.1 k.2.2.2 ∧ f = 4
      · obtain ⟨k1, t', p', o'⟩ := k
        obtain ⟨q1, q2, q3⟩ := hq
        cases q1
        cases q3
        rw [eS_at q2, eS_at (Or.inl q2)]
      · rw [eS_n hq, eS_n (fun q => by
          obtain ⟨q1, q2, q3⟩ := q
          rcases q2 with q2 | q2
          · exact hq ⟨q1, q2, q3⟩
          · obtain ⟨k1, t', p', o'⟩ := k
            obtain ⟨r1, r2, r3⟩ := q2
            cases q1
            cases r1
            cases r2
            cases r3
            exact hk ⟨rfl, q3⟩)]
  unfold zsp
  show (if eS S x y V (14, t, p, o) 4 = 2 ∧ eS S x y V (14, t, p, o) 3 = x then (zst (eS S x y V) (14, t, p, o) 4 y, c + 1) else (eS S x y V, c)) = _
  rw [e4, e3, ← hS]
  by_cases hc : S (14, t, p, o) 4 = 2 ∧ S (14, t, p, o) 3 = x
  · rw [if_pos hc, if_pos hc, if_pos hc]
  · rw [if_neg hc, if_neg hc, if_neg hc]
    congr 1
    omega
def eC (S : zS) (x t p o : Int) : Int := if S (14, t, p, o) 4 = 2 ∧ S (14, t, p, o) 3 = x then 1 else 0
theorem lp_sm {f : Int → Int} : ∀ (k : Nat) (a n c : Int), (n - a).toNat = k → lp (fun o s => s + f o) a n c = c + sm f a n := by
  intro k
  induction k with
  | zero => intro a n c hk; rw [lp_end (by omega), sm_end (by omega)]; omega
  | succ k ih =>
    intro a n c hk
    rw [lp_step (by omega), ih (a + 1) n _ (by omega), sm_step (f := f) (a := a) (n := n) (by omega)]
    omega
theorem eS_p {x y t p : Int} {V : Int → Int → Int → Prop} (hv : ∀ o, ¬ V t p o) {n : Int} (hn : 0 ≤ n) (c : Int) : lp (zsp t p x y) 0 n (eS S x y V, c) = (eS S x y (fun t' p' o' => V t' p' o' ∨ (t' = t ∧ p' = p ∧ 0 ≤ o' ∧ o' < n)), c + sm (eC S x t p) 0 n) := by
  have key := lp_ind2 (f := zsp t p x y) (F := fun o (s : Int) => s + eC S x t p o) (fun o (s : zS × Int) d => s = (eS S x y (fun t' p' o' => V t' p' o' ∨ (t' = t ∧ p' = p ∧ 0 ≤ o' ∧ o' < o)), d)) _ 0 n (eS S x y V, c) c hn rfl (by
    congr 1
    exact eS_cg (fun t' p' o' => ⟨Or.inl, fun q => q.elim id (fun q => by omega)⟩)) (fun o s d h1 h2 hs => by
    rw [hs, eS_step (fun q => q.elim (hv o) (fun q => by omega))]
    show (_, _) = (_, _)
    congr 1
    exact eS_cg (fun t' p' o' => by
      constructor
      · rintro ((q | q) | q)
        · exact Or.inl q
        · exact Or.inr ⟨q.1, q.2.1, q.2.2.1, by omega⟩
        · exact Or.inr ⟨q.1, q.2.1, by omega, by omega⟩
      · rintro (q | q)
        · exact Or.inl (Or.inl q)
        · by_cases hoo : o' = o
          · exact Or.inr ⟨q.1, q.2.1, hoo⟩
          · exact Or.inl (Or.inr ⟨q.1, q.2.1, q.2.2.1, by omega⟩)))
  rw [key, lp_sm _ _ _ _ rfl]
theorem eS_t {x y t : Int} {V : Int → Int → Int → Prop} (hV : zWM P M) (ht : inT P t) (hv : ∀ p o, ¬ V t p o) (c : Int) : zse1 P x y t (eS S x y V, c) = (eS S x y (fun t' p' o' => V t' p' o' ∨ (t' = t ∧ inP P t' p' ∧ inM P t' p' o')), c + sm (fun p => sm (eC S x t p) 0 (P 2 t p)) 0 (P 1 t 0)) := by
  have hN := hV.qt ht
  have key := lp_ind2 (f := zts P t x y) (F := fun p (s : Int) => s + sm (eC S x t p) 0 (P 2 t p)) (fun p (s : zS × Int) d => s = (eS S x y (fun t' p' o' => V t' p' o' ∨ (t' = t ∧ (0 ≤ p' ∧ p' < p) ∧ inM P t' p' o')), d)) _ 0 (P 1 t 0) (eS S x y V, 0) 0 (by omega) rfl (by
    congr 1
    exact eS_cg (fun t' p' o' => ⟨Or.inl, fun q => q.elim id (fun q => by omega)⟩)) (fun p s d h1 h2 hs => by
    have hm := hV.qm ht (p := p) ⟨h1, h2⟩
    unfold zts
    rw [hs]
    dsimp only
    rw [eS_p (fun o q => q.elim (hv p o) (fun q => by omega)) hm.1]
    dsimp only
    rw [show d + (0 + sm (eC S x t p) 0 (P 2 t p)) = d + sm (eC S x t p) 0 (P 2 t p) by omega]
    congr 1
    exact eS_cg (fun t' p' o' => by
      constructor
      · rintro ((q | q) | q)
        · exact Or.inl q
        · exact Or.inr ⟨q.1, ⟨q.2.1.1, by omega⟩, q.2.2⟩
        · obtain ⟨rfl, rfl, q3⟩ := q
          exact Or.inr ⟨rfl, ⟨h1, by omega⟩, q3⟩
      · rintro (q | q)
        · exact Or.inl (Or.inl q)
        · by_cases hpp : p' = p
          · obtain ⟨rfl, q2, q3⟩ := q
            subst hpp
            exact Or.inr ⟨rfl, rfl, q3⟩
          · exact Or.inl (Or.inr ⟨q.1, ⟨q.2.1.1, by omega⟩, q.2.2⟩)))
  unfold zse1
  show ((lp (zts P t x y) 0 (P 1 t 0) (eS S x y V, 0)).1, c + (lp (zts P t x y) 0 (P 1 t 0) (eS S x y V, 0)).2) = _
  rw [key, lp_sm _ _ _ _ rfl]
  dsimp only
  rw [show c + (0 + sm (fun p => sm (eC S x t p) 0 (P 2 t p)) 0 (P 1 t 0)) = c + sm (fun p => sm (eC S x t p) 0 (P 2 t p)) 0 (P 1 t 0) by omega]
  congr 1
  exact eS_cg (fun t' p' o' => by
    constructor
    · rintro (q | ⟨rfl, q2, q3⟩)
      · exact Or.inl q
      · exact Or.inr ⟨rfl, q2, q3⟩
    · rintro (q | ⟨rfl, q2, q3⟩)
      · exact Or.inl q
      · exact Or.inr ⟨rfl, q2, q3⟩)
theorem eS_all {x y : Int} (hV : zWM P M) : lp (zse1 P x y) 0 (P 0 0 0) (S, 0) = (eS S x y (fun t p o => inT P t ∧ inP P t p ∧ inM P t p o), sm (fun t => sm (fun p => sm (eC S x t p) 0 (P 2 t p)) 0 (P 1 t 0)) 0 (P 0 0 0)) := by
  have hq := hV.q
  have key := lp_ind2 (f := zse1 P x y) (F := fun t (s : Int) => s + sm (fun p => sm (eC S x t p) 0 (P 2 t p)) 0 (P 1 t 0)) (fun t (s : zS × Int) d => s = (eS S x y (fun t' p' o' => (0 ≤ t' ∧ t' < t) ∧ inP P t' p' ∧ inM P t' p' o'), d)) _ 0 (P 0 0 0) (S, 0) 0 hq.1.1.1 rfl (by
    congr 1
    funext k f
    rw [eS_n (fun q => by have := q.2.1.1; omega)]) (fun t s d h1 h2 hs => by
    rw [hs, eS_t hV ⟨h1, h2⟩ (fun p o q => by omega)]
    show (_, _) = (_, _)
    congr 1
    exact eS_cg (fun t' p' o' => by
      constructor
      · rintro (q | q)
        · exact ⟨⟨q.1.1, by omega⟩, q.2⟩
        · obtain ⟨rfl, q2⟩ := q
          exact ⟨⟨h1, by omega⟩, q2⟩
      · intro q
        by_cases htt : t' = t
        · exact Or.inr ⟨htt, q.2⟩
        · exact Or.inl ⟨⟨q.1.1, by omega⟩, q.2⟩))
  rw [key, lp_sm _ _ _ _ rfl]
  show (_, _) = (_, _)
  congr 1
  omega
end ENDS
