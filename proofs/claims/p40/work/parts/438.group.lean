/-! ===== the Pier's acts: addGroup ===== -/
theorem va_eqIi {D : va_G} {q n : Nat} {c : ClassId} {F F' : Int → Int} (hF : ∀ x : Int, 0 ≤ x → x < n → F x = F' x) (H : Heap) (h : va_at D vwCl (q, .inl (c, n, .inl (zAi F))) H) : va_at D vwCl (q, .inl (c, n, .inl (zAi F'))) H := by
  have e : vp_cell c (n, .inl (zAi F)) = vp_cell c (n, .inl (zAi F')) := by
    rw [vp_cell_i, vp_cell_i]
    unfold arrV
    congr 1
    congr 1
    funext j
    show Value.int (zI (F ((j.val : Nat) : Int))) = Value.int (zI (F' ((j.val : Nat) : Int)))
    rw [hF _ (by omega) (by have := j.isLt; omega)]
  have h' : H[q]? = some (vp_cell c (n, .inl (zAi F))) := h
  rw [e] at h'
  exact h'
def zGu (P : zP) (D : zS) (t : Int) : zS := zst (zst (zSg P D t) (213, 0, 0, 0) (P 3 0 0) t) (200, 0, 0, 0) 15 (P 3 0 0 + 1)
def zGf (P : zP) (D : zS) (t z : Int) : zS := zst (zkG (zPg P t 200) (P 3 0 0) (zGu P D t)) (6, 0, 0, 0) 0 z
theorem zWV_213 {Q : zP} {V : zS} (h : zWV Q V) {x v : Int} (hv : 0 ≤ v ∧ v ≤ 3) (hx : ¬ inG Q x) : zWV Q (zst V (213, 0, 0, 0) x v) := by
  have hz : zfr (fun m => m == 213) V (zst V (213, 0, 0, 0) x v) := zfr_1
  refine ⟨h.1.sf ⟨by omega, by omega⟩ (by decide), ⟨h.2.1.1.fr hz rfl, h.2.1.2.1.fr hz rfl, h.2.1.2.2.fr hz rfl rfl⟩, ⟨h.2.2.1.1.fr hz rfl, ⟨fun g => ?_, fun g hg => ?_⟩⟩, ⟨h.2.2.2.1.1.fr hz rfl, h.2.2.2.1.2.1.fr hz rfl, h.2.2.2.1.2.2.fr hz rfl rfl⟩, h.2.2.2.2.1.fr hz rfl, h.2.2.2.2.2.fr hz rfl⟩
  · rw [zst_at]
    split
    · exact hv
    · exact h.2.2.1.2.1 g
  · rw [zst_at, if_neg (fun q => hx (by rw [← q.2]; exact hg))]
    exact h.of hg
theorem pcnt_Q {Δ : zDl} {ad : zK → Nat} {Q Q' : zP} {V : zS} {k : zK} (h0 : Q' 0 = Q 0) (h1 : Q' 1 = Q 1) (h2 : Q' 2 = Q 2) (hz : ∀ t p o, zpr Q' V t p o = zpr Q V t p o) : pcnt Δ ad Q' V k = pcnt Δ ad Q V k := by
  have hz' : ∀ t p o, zpr Q' V t p o = zpr Q V t p o := hz
  simp only [pcnt, pc200, pc201, pc202, pc203, pc204, pc205, pc206, pc207, pc208, pc209, pc210, pc211, pc212, pc213, pc214, pc215, pc216, pc217, pc218, pc219, pc220, pc221, pc222, pc223, h0, h1, h2, hz']
theorem pm_ad2 {Δ : zDl} {ad ad' : zK → Nat} {Q : zP} {V : zS} {X : zMem} (h : ∀ k : zK, k.1 = 0 ∨ 200 ≤ k.1 → ad' k = ad k) : pm Δ ad' Q V X = pm Δ ad Q V X := by
  have cut : ∀ (ad0 : zK → Nat) (k : zK), pcnt Δ ad0 Q V k = pcnt Δ (fun q => if q.1 = 0 ∨ 200 ≤ q.1 then ad0 q else 0) Q V k := fun ad0 k => rfl
  have e : (fun q : zK => if q.1 = 0 ∨ 200 ≤ q.1 then ad' q else 0) = fun q => if q.1 = 0 ∨ 200 ≤ q.1 then ad q else 0 := by
    funext q
    by_cases hq : q.1 = 0 ∨ 200 ≤ q.1
    · rw [if_pos hq, if_pos hq, h q hq]
    · rw [if_neg hq, if_neg hq]
  funext k
  show (if 200 ≤ k.1 ∧ k.1 < 224 then pcnt Δ ad' Q V k else X k) = if 200 ≤ k.1 ∧ k.1 < 224 then pcnt Δ ad Q V k else X k
  rw [cut ad', cut ad, e]
section ZGRP
variable {P Q : zP} {V D S : zS} {t z c : Int}
theorem zSg_18 {p f : Int} : zSg Q D t (18, Q 3 0 0, p, 0) f = if f = 4 then -1 else if f = 5 ∨ f = 6 then D (11, t, p, 0) 1 else 0 := by simp [zSg]
theorem zSg_n {k : zK} {f : Int} (h : ¬ ((15 ≤ k.1 ∧ k.1 ≤ 21) ∧ k.2.1 = Q 3 0 0)) : zSg Q D t k f = D k f := by
  unfold zSg
  rw [if_neg h]
theorem zSg_0 {n : Nat} {j l f : Int} (hn : n = 15 ∨ n = 16 ∨ n = 17 ∨ n = 19 ∨ n = 20 ∨ n = 21) : zSg Q D t (n, Q 3 0 0, j, l) f = 0 := by
  unfold zSg
  rw [if_pos ⟨by show 15 ≤ n ∧ n ≤ 21; omega, rfl⟩, if_neg (by show ¬ n = 18; omega)]
theorem zGu_n {k : zK} {f : Int} (h : ¬ (k = (213, 0, 0, 0) ∧ f = Q 3 0 0)) (h2 : ¬ (k = (200, 0, 0, 0) ∧ f = 15)) : zGu Q D t k f = zSg Q D t k f := by
  unfold zGu
  rw [zst_at, if_neg h2, zst_at, if_neg h]
/-- the Pier's memory, where a group more is told of -/
theorem G_grp {Γ : zCx} {R : Room} {cc : ByteArray} {nL : Nat} {own : String} {ad : zK → Nat} {nc ns pc : Nat} {lv : List (Nat × Value)} {st : List Value} {X : zMem} (hH : zHD Q D) (h3 : 0 ≤ Q 3 0 0 ∧ Q 3 0 0 < 4)
    (hS : ∀ k f, ¬ (k = (200, 0, 0, 0) ∧ f = 15) → ¬ (k = (213, 0, 0, 0) ∧ f = Q 3 0 0) → ¬ (k.1 = 18 ∧ k.2.1 = Q 3 0 0 ∧ (0 ≤ k.2.2.1 ∧ k.2.2.1 < 4) ∧ k.2.2.2 = 0 ∧ (f = 4 ∨ f = 5 ∨ f = 6)) → S k f = D k f) (h15 : S (200, 0, 0, 0) 15 = Q 3 0 0 + 1) (h213 : S (213, 0, 0, 0) (Q 3 0 0) = t)
    (h18 : ∀ q, 0 ≤ q → q < 4 → S (18, Q 3 0 0, q, 0) 5 = D (11, t, q, 0) 1 ∧ S (18, Q 3 0 0, q, 0) 6 = D (11, t, q, 0) 1 ∧ S (18, Q 3 0 0, q, 0) 4 = -1) (kk : G Γ R cc nL own ad (pm (z_d Γ) ad (zPg Q t 200) (zGu Q D t) X) nc ns pc lv st) : G Γ R cc nL own ad (pm (z_d Γ) ad Q S X) nc ns pc lv st := by
  have hz : ∀ t' p o, zpr (zPg Q t 200) (zGu Q D t) t' p o = zpr Q (zGu Q D t) t' p o := fun t' p o => by
    funext j
    unfold zpr
    refine ite_cg (fun _ => rfl) (fun _ => ite_cg (fun _ => rfl) (fun _ => ite_cg (fun _ => rfl) (fun _ => ite_cg (fun _ => rfl) (fun _ => ite_cg (fun _ => rfl) (fun _ => ?_)))))
    generalize (j - 5) / 3 = g
    rw [zPg_3]
    by_cases hg : g = Q 3 0 0
    · subst hg
      rw [zPg_4s]
      have e0 : ∀ n : Nat, n = 19 ∨ n = 20 ∨ n = 21 → zGu Q D t (n, Q 3 0 0, p, 0) o = 0 := fun n hn => by
        rw [zGu_n (fun q => by have := q.1; simp at this; omega) (fun q => by have := q.1; simp at this; omega)]
        exact zSg_0 (by omega)
      rw [e0 19 (by simp), e0 20 (by simp), e0 21 (by simp), if_neg (show ¬ (0 ≤ Q 3 0 0 ∧ Q 3 0 0 < Q 3 0 0 ∧ Q 4 (Q 3 0 0) 0 = t') from fun q => by omega)]
      split <;> simp
    · rw [zPg_4n hg]
      by_cases hc : 0 ≤ g ∧ g < Q 3 0 0 ∧ Q 4 g 0 = t'
      · rw [if_pos hc, if_pos ⟨hc.1, by omega, hc.2.2⟩]
      · rw [if_neg hc, if_neg (fun q => hc ⟨q.1, by omega, q.2.2⟩)]
  have hun : ∀ k f, ¬ (k = (200, 0, 0, 0) ∧ f = 15) → ¬ (k = (213, 0, 0, 0) ∧ f = Q 3 0 0) → ¬ ((15 ≤ k.1 ∧ k.1 ≤ 21) ∧ k.2.1 = Q 3 0 0) → zGu Q D t k f = S k f := fun k f a b c => by
    rw [zGu_n b a, zSg_n c, hS k f a b (fun q => c ⟨by omega, q.2.1⟩)]
  refine G_eqv (fun k e' hk => ?_) kk
  by_cases hr : 200 ≤ k.1 ∧ k.1 < 224
  · rw [pm_in _ hr, pcnt_Q (Q := Q) (Q' := zPg Q t 200) rfl rfl rfl hz] at hk
    rw [pm_in _ hr]
    obtain ⟨n, i, j, l⟩ := k
    by_cases hsp : (n = 215 ∨ n = 217 ∨ n = 219) ∧ i = Q 3 0 0
    · obtain ⟨hn, rfl⟩ := hsp
      have e18 : ∀ x : Int, 0 ≤ x → x < 4 → S (18, Q 3 0 0, x, 0) 5 = zGu Q D t (18, Q 3 0 0, x, 0) 5 ∧ S (18, Q 3 0 0, x, 0) 6 = zGu Q D t (18, Q 3 0 0, x, 0) 6 ∧ S (18, Q 3 0 0, x, 0) 4 = zGu Q D t (18, Q 3 0 0, x, 0) 4 := fun x x0 x1 => by
        rw [zGu_n (by simp) (by simp), zGu_n (by simp) (by simp), zGu_n (by simp) (by simp), zSg_18, zSg_18, zSg_18]
        simp
        exact h18 x x0 x1
      rcases hn with rfl | rfl | rfl
      · have hk : pc215 (z_d Γ) ad Q (zGu Q D t) (Q 3 0 0) j l = some e' := hk
        show ∃ e, pc215 (z_d Γ) ad Q S (Q 3 0 0) j l = some e ∧ _
        unfold pc215 at hk ⊢
        split at hk
        · next hc =>
          rw [if_pos hc]
          cases hk
          exact ⟨_, rfl, fun H => va_eqIi (fun x x0 x1 => (e18 x x0 x1).1) H⟩
        · cases hk
      · have hk : pc217 (z_d Γ) ad Q (zGu Q D t) (Q 3 0 0) j l = some e' := hk
        show ∃ e, pc217 (z_d Γ) ad Q S (Q 3 0 0) j l = some e ∧ _
        unfold pc217 at hk ⊢
        split at hk
        · next hc =>
          rw [if_pos hc]
          cases hk
          exact ⟨_, rfl, fun H => va_eqIi (fun x x0 x1 => (e18 x x0 x1).2.1) H⟩
        · cases hk
      · have hk : pc219 (z_d Γ) ad Q (zGu Q D t) (Q 3 0 0) j l = some e' := hk
        show ∃ e, pc219 (z_d Γ) ad Q S (Q 3 0 0) j l = some e ∧ _
        unfold pc219 at hk ⊢
        split at hk
        · next hc =>
          rw [if_pos hc]
          cases hk
          exact ⟨_, rfl, fun H => va_eqIi (fun x x0 x1 => (e18 x x0 x1).2.2) H⟩
        · cases hk
    · have e : pcnt (z_d Γ) ad Q (zGu Q D t) (n, i, j, l) = pcnt (z_d Γ) ad Q S (n, i, j, l) := by
        refine pcnt_V (fun k' f hp => ?_)
        by_cases a : k' = (200, 0, 0, 0) ∧ f = 15
        · rw [a.1, a.2, h15]
          unfold zGu
          rw [zst_s]
        · by_cases b : k' = (213, 0, 0, 0) ∧ f = Q 3 0 0
          · rw [b.1, b.2, h213]
            unfold zGu
            rw [zst_k _ _ _ _ (by decide), zst_s]
          · by_cases c : (15 ≤ k'.1 ∧ k'.1 ≤ 21) ∧ k'.2.1 = Q 3 0 0
            · by_cases c17 : k' = (17, Q 3 0 0, 0, 0)
              · rw [c17, zGu_n (by simp) (by simp), zSg_0 (by simp), hS _ _ (by simp) (by simp) (by simp), hH.2.1 _ _ (by omega)]
              · exfalso
                obtain ⟨n', i', j', l'⟩ := k'
                obtain ⟨c1, rfl⟩ : (15 ≤ n' ∧ n' ≤ 21) ∧ i' = Q 3 0 0 := c
                clear hk hun hz hS h18 kk hH
                simp only [Prod.mk.injEq, true_and] at c17
                by_cases h204 : n = 204
                · subst h204
                  have hp2 : ((n', Q 3 0 0, j', l') : zK) = (14, i, j, l) ∨ ∃ g, (0 ≤ g ∧ g < Q 3 0 0 ∧ Q 4 g 0 = i) ∧ f = l ∧ (((n', Q 3 0 0, j', l') : zK) = (19, g, j, 0) ∨ ((n', Q 3 0 0, j', l') : zK) = (20, g, j, 0) ∨ ((n', Q 3 0 0, j', l') : zK) = (21, g, j, 0)) := hp
                  rcases hp2 with hp2 | ⟨g, hg, -, hp2⟩
                  · simp only [Prod.mk.injEq] at hp2
                    omega
                  · simp only [Prod.mk.injEq] at hp2
                    omega
                · clear a b
                  unfold pD at hp
                  dsimp only at hp
                  have hr' : 200 ≤ n ∧ n < 224 := hr
                  clear hr h213 h15
                  have hn : n = 200 ∨ n = 201 ∨ n = 202 ∨ n = 203 ∨ n = 204 ∨ n = 205 ∨ n = 206 ∨ n = 207 ∨ n = 208 ∨ n = 209 ∨ n = 210 ∨ n = 211 ∨ n = 212 ∨ n = 213 ∨ n = 214 ∨ n = 215 ∨ n = 216 ∨ n = 217 ∨ n = 218 ∨ n = 219 ∨ n = 220 ∨ n = 221 ∨ n = 222 ∨ n = 223 := by omega
                  rcases hn with rfl | rfl | rfl | rfl | rfl | rfl | rfl | rfl | rfl | rfl | rfl | rfl | rfl | rfl | rfl | rfl | rfl | rfl | rfl | rfl | rfl | rfl | rfl | rfl <;> (repeat (first | rw [if_pos rfl] at hp | rw [if_neg (by decide)] at hp)) <;> first | exact hp.elim | exact absurd rfl h204 | (simp only [Prod.mk.injEq] at hp; omega)
            · exact hun k' f a b c
      rw [e] at hk
      exact ⟨e', hk, fun H h => h⟩
  · rw [pm_out _ hr] at hk ⊢
    exact ⟨e', hk, fun H h => h⟩
theorem zSg_R' (h : ∀ k f, zR (D k f)) : ∀ k f, zR (zSg Q D t k f) := fun k f => by
  unfold zSg
  split
  · split
    · split
      · exact ⟨by omega, by omega⟩
      · split
        · exact h _ _
        · exact zR_0
    · exact zR_0
  · exact h k f
theorem o_gL {M : zS} (h : xJ Q D M) (ht : inT Q t) (h3 : Q 3 0 0 < 4) (hP2 : zWP (zPg Q t c)) : (∃ M2, xJ (zPg Q t c) (zkG (zPg Q t c) (Q 3 0 0) (zSg Q D t)) M2) ∧ zWS (zPg Q t c) (zSg Q D t) := by
  have := o_group (P2 := zPg Q t c) (S2 := zSg Q D t) h ht h3 zgg_Pg hP2 (zSg_R' h.2.2.2.2.1.R) (fun j f q => congrFun (zSg_k q) f) (fun f => by simp [zSg]) (fun p => ⟨by simp [zSg], by simp [zSg], by simp [zSg]⟩) (fun p f => ⟨by simp [zSg], by simp [zSg], by simp [zSg]⟩)
  exact ⟨⟨_, this.1⟩, this.2⟩
theorem zGu_lo {k : zK} {f : Int} (h : k.1 < 40) : zGu Q D t k f = zSg Q D t k f := zGu_n (fun q => by rw [q.1] at h; revert h; decide) (fun q => by rw [q.1] at h; revert h; decide)
theorem zGu_D {k : zK} {f : Int} (h : ¬ ((15 ≤ k.1 ∧ k.1 ≤ 21) ∧ k.2.1 = Q 3 0 0)) (h2 : ¬ (k = (213, 0, 0, 0) ∧ f = Q 3 0 0)) (h3 : ¬ (k = (200, 0, 0, 0) ∧ f = 15)) : zGu Q D t k f = D k f := by
  rw [zGu_n h2 h3, zSg_n h]
theorem zGu_l {k : zK} {f : Int} (h : k.1 < 15) : zGu Q D t k f = D k f := zGu_D (fun q => by omega) (fun q => by rw [q.1] at h; revert h; decide) (fun q => by rw [q.1] at h; revert h; decide)
theorem zGu_V (hJ : zJ Q D) (ht : inT Q t) (h3 : Q 3 0 0 < 4) (hc : Q 3 0 0 < c ∧ c ≤ 200) : zWV (zPg Q t c) (zGu Q D t) := by
  have h := hJ.wv
  have hP := hJ.wp
  have hq := hP.n
  have ht2 := ht.2
  have ht1 := ht.1
  have hP2 := zWP_Pg (c := c) hP ht h3 hc
  obtain ⟨-, ⟨M, hM⟩, -⟩ := hJ
  have hW : zWS (zPg Q t c) (zGu Q D t) := ((o_gL hM ht h3 hP2).2.sf ⟨by omega, by omega⟩ (by decide)).sf ⟨by omega, by omega⟩ (by decide)
  have hg : ∀ n : Nat, n = 17 ∨ n = 19 → ∀ g j l f, zGu Q D t (n, g, j, l) f = 0 ∨ zGu Q D t (n, g, j, l) f = D (n, g, j, l) f := fun n hn g j l f => by
    rw [zGu_n (fun q => by have := q.1; simp at this; omega) (fun q => by have := q.1; simp at this; omega)]
    by_cases he : g = Q 3 0 0
    · subst he; exact Or.inl (zSg_0 (by omega))
    · exact Or.inr (zSg_n (fun q => he q.2))
  refine ⟨hW, ⟨fun t p o => ?_, fun g p o => ?_, fun t p o a b c => ?_⟩, ⟨⟨?_, ?_⟩, ⟨fun g => ?_, fun g hg2 => ?_⟩⟩, ⟨fun g r => ?_, fun t => ?_, ⟨fun x => ?_, fun x => ?_⟩⟩, ⟨?_, ?_⟩, fun t x => ?_⟩
  · rw [zGu_l (by simp), zGu_l (by simp), zGu_l (by simp)]
    exact ⟨h.dr t p o, h.tr t p o, h.ky t p o⟩
  · rcases hg 19 (Or.inr rfl) g p 0 o with e | e
    · rw [e]; omega
    · rw [e]; exact h.st4 g p o
  · have e : zsn (zGu Q D t) t p o = zsn D t p o := by
      unfold zsn
      rw [zGu_l (k := (14, t, p, o)) (by simp), zGu_D (k := (211, 0, 0, 0)) (by simp) (by simp) (by simp)]
    have e : ∀ t', zsn (zGu Q D t') t p o = zsn D t p o := fun t' => by
      unfold zsn
      rw [zGu_l (k := (14, t, p, o)) (by simp), zGu_D (k := (211, 0, 0, 0)) (by simp) (by simp) (by simp)]
    rw [e, zGu_l (by simp)]
    exact h.sn a b c
  · unfold zGu
    rw [zst_s]
    rfl
  · rw [zGu_D (by simp) (by simp) (by simp)]
    exact h.dw
  · by_cases he : g = Q 3 0 0
    · rw [he]
      unfold zGu
      rw [zst_k _ _ _ _ (by decide), zst_s]
      omega
    · rw [zGu_D (by simp) (fun q => he q.2) (by simp)]
      exact h.2.2.1.2.1 g
  · by_cases he : g = Q 3 0 0
    · rw [he, zPg_4s]
      unfold zGu
      rw [zst_k _ _ _ _ (by decide), zst_s]
    · rw [zGu_D (by simp) (fun q => he q.2) (by simp), zPg_4n he]
      have := hg2.2
      rw [zPg_3] at this
      exact h.of ⟨hg2.1, by omega⟩
  · rcases hg 17 (Or.inl rfl) g 0 0 r with e | e
    · rw [e]; exact Or.inl rfl
    · rw [e]; exact h.in2 g r
  · rw [zGu_l (by simp), zGu_l (by simp)]
    exact h.t8 t
  · rw [zGu_D (by simp) (by simp) (by simp)]
    exact h.op x
  · rw [zGu_D (by simp) (by simp) (by simp)]
    exact h.en x
  · rw [zGu_l (by simp)]
    exact h.f0.1
  · rw [zGu_l (by simp)]
    exact h.f0.2
  · rw [zGu_l (by simp)]
    exact h.nx t x
theorem zGu_set (hJ : zJ Q D) (ht : inT Q t) : zSet (zPg Q t c) (zGu Q D t) ∧ ∀ g p, 0 ≤ g → g < Q 3 0 0 → 0 ≤ p ∧ p < Q 1 (Q 4 g 0) 0 → sg (zPg Q t c) (zGu Q D t) g p := by
  have hn : ∀ (n : Nat) (g j l f : Int), g ≠ Q 3 0 0 → n < 40 → zGu Q D t (n, g, j, l) f = D (n, g, j, l) f := fun n g j l f hg hn => zGu_D (fun q => hg q.2) (fun q => by have := q.1; simp at this; omega) (fun q => by have := q.1; simp at this; omega)
  refine ⟨fun g p o hg hp ho q => ?_, fun g p g0 g1 hp => ?_⟩
  · obtain ⟨q1, q2⟩ := q
    have q3 : zGu Q D t (19, g, p, 0) o = 1 ∨ zGu Q D t (19, g, p, 0) o = 2 := q2
    by_cases he : g = Q 3 0 0
    · subst he
      rw [zGu_lo (by simp), zSg_0 (by simp)] at q3
      omega
    · have hg2 := hg.2
      rw [zPg_3] at hg2
      rw [hn _ _ _ _ _ he (by decide)] at q3
      rw [zGu_l (by simp)] at q1
      have e4 : zPg Q t c 4 g 0 = Q 4 g 0 := zPg_4n he
      have hp' : 0 ≤ p ∧ p < Q 1 (Q 4 g 0) 0 := by rw [← e4]; exact hp
      have ho' : 0 ≤ o ∧ o < Q 2 (Q 4 g 0) p := by rw [← e4]; exact ho
      rw [e4] at q1
      exact hJ.st g p o ⟨hg.1, by omega⟩ hp' ho' ⟨q1, q3⟩
  · have he : g ≠ Q 3 0 0 := by omega
    have e4 : zPg Q t c 4 g 0 = Q 4 g 0 := zPg_4n he
    have hs : sg Q (zGu Q D t) g p := sg_fr (fun o f => zGu_l (by simp)) (fun f _ => hn _ _ _ _ _ he (by decide)) (fun f => hn _ _ _ _ _ he (by decide)) (hJ.xz g p ⟨g0, g1⟩ hp)
    obtain ⟨s1, s2, s3⟩ := hs
    refine ⟨fun o ho => ?_, fun q => s2 ?_, s3⟩
    · rw [e4]
      exact s1 o (by rw [← e4]; exact ho)
    · have q1 : zGu Q D t (18, g, p, 0) 5 < Q 2 (zPg Q t c 4 g 0) p ∧ (¬ zGu Q D t (14, zPg Q t c 4 g 0, p, zGu Q D t (18, g, p, 0) 5) 5 = 0 ∨ zGu Q D t (14, zPg Q t c 4 g 0, p, zGu Q D t (18, g, p, 0) 5) 4 = 1 ∨ jt (zGu Q D t) g p (zGu Q D t (18, g, p, 0) 5)) := q
      rw [e4] at q1
      exact q1
theorem zGu_kA (hJ : zJ Q D) (ht : inT Q t) : zkA (zPg Q t c) (zGu Q D t) = zkG (zPg Q t c) (Q 3 0 0) (zGu Q D t) := by
  have hq := hJ.wp.n
  have h1 : lp (zkG (zPg Q t c)) 0 (Q 3 0 0) (zGu Q D t) = zGu Q D t := lp_id _ _ _ _ rfl (fun g g0 g1 => zkG_id (fun p hp => (zGu_set hJ ht).2 g p g0 g1 (by
    have e4 : zPg Q t c 4 g 0 = Q 4 g 0 := zPg_4n (by omega)
    rw [← e4]
    exact hp)))
  show lp (zkG (zPg Q t c)) 0 (Q 3 0 0 + 1) (zGu Q D t) = _
  rw [lp_split (f := zkG (zPg Q t c)) _ 0 (Q 3 0 0) (Q 3 0 0 + 1) _ (by omega) (by omega) rfl, h1, lp_step (by omega), lp_end (by omega)]
theorem zkG_mx {S T : zS} {g : Int} : zkG P g (mx S T) = mx (zkG P g S) T := lp_mx (fun p S => zku_mx) _ _ _ _ rfl
theorem zkG_lo {S T : zS} {g : Int} (h : ∀ k f, k.1 < 40 → T k f = S k f) {k : zK} {f : Int} (hk : k.1 < 40) : zkG P g T k f = zkG P g S k f := by
  rw [← mx_id h, zkG_mx, mx_lt hk]
theorem zGf_n {k : zK} {f : Int} (h : k.1 ≠ 6 ∧ k.1 ≠ 18 ∧ k.1 ≠ 19 ∧ k.1 ≠ 20) : zGf Q D t z k f = zGu Q D t k f := by
  unfold zGf
  rw [zst_k _ _ _ _ (fun q => h.1 (by rw [q])), zkG_fr (K := k189) rfl rfl rfl k f (by simp [k189, h])]
theorem zGf_k {k : zK} {f : Int} (h : k.1 ≠ 6 ∧ k.1 < 15 ∧ k.1 ≠ 7) : zGf Q D t z k f = D k f := by
  rw [zGf_n ⟨h.1, by omega, by omega, by omega⟩, zGu_l h.2.1]
theorem zGf_2 : zGf Q D t z (200, 0, 0, 0) 2 = D (200, 0, 0, 0) 2 := by
  rw [zGf_n (by simp), zGu_D (by simp) (by simp) (by simp)]
theorem zGf_15 : zGf Q D t z (200, 0, 0, 0) 15 = Q 3 0 0 + 1 := by
  rw [zGf_n (by simp)]
  unfold zGu
  rw [zst_s]
theorem zGf_m {Δ : zDl} {ad adx : zK → Nat} (hadx : ∀ k : zK, (k.1 = 0 ∨ 40 ≤ k.1) → k ≠ (91, 0, 0, 0) → adx k = ad k) : mm Δ adx (zPg Q t c) (zst (zkG (zPg Q t c) (Q 3 0 0) (zSg Q D t)) (6, 0, 0, 0) 0 z) (pm Δ ad (zPg Q t 200) (zkG (zPg Q t 200) (Q 3 0 0) (zGu Q D t)) z00) = pm Δ adx (zPg Q t c) (zGf Q D t z) (mm Δ adx (zPg Q t c) (zGf Q D t z) z00) := by
  rw [pm_mm]
  have e1 : mm Δ adx (zPg Q t c) (zst (zkG (zPg Q t c) (Q 3 0 0) (zSg Q D t)) (6, 0, 0, 0) 0 z) (pm Δ ad (zPg Q t 200) (zkG (zPg Q t 200) (Q 3 0 0) (zGu Q D t)) z00) = mm Δ adx (zPg Q t c) (zGf Q D t z) (pm Δ ad (zPg Q t 200) (zkG (zPg Q t 200) (Q 3 0 0) (zGu Q D t)) z00) := mm_cg4 (fun k f hk => by
    unfold zGf
    rw [zkG_Pg (c' := 200), zst_at, zst_at (zkG (zPg Q t 200) (Q 3 0 0) (zGu Q D t))]
    split
    · rfl
    · exact (zkG_lo (fun k f h => zGu_lo h) hk).symm)
  have e2 : pm Δ ad (zPg Q t 200) (zkG (zPg Q t 200) (Q 3 0 0) (zGu Q D t)) z00 = pm Δ adx (zPg Q t c) (zGf Q D t z) z00 := by
    rw [← pm_ad2 (ad := ad) (ad' := adx) (fun k hk => hadx k (by omega) (fun q => by rw [q] at hk; revert hk; decide))]
    show pm Δ adx (zPg Q t c) (zkG (zPg Q t 200) (Q 3 0 0) (zGu Q D t)) z00 = _
    refine (pm_cg (fun k k' f hp => ?_)).symm
    unfold zGf
    refine zst_k _ _ _ _ (fun q => ?_)
    subst q
    obtain ⟨n, i, j, l⟩ := k
    simp only [pD] at hp
    (repeat' split at hp) <;> simp_all
  rw [e1, e2]
theorem zK0_g (hJ : zJ Q D) (ht : inT Q t) : zK0 (zPg Q t c) (zGu Q D t) := by
  have hq := hJ.wp.n
  obtain ⟨h7, hSd, hLg⟩ := hJ.k0
  have hn : ∀ (n : Nat) (g j l f : Int), g ≠ Q 3 0 0 → n < 40 → zGu Q D t (n, g, j, l) f = D (n, g, j, l) f := fun n g j l f hg hn => zGu_D (fun q => hg q.2) (fun q => by have := q.1; simp at this; omega) (fun q => by have := q.1; simp at this; omega)
  refine ⟨fun g p o hg hp ho => ?_, fun t' p o a b c d => ?_, ?_⟩
  · by_cases he : g = Q 3 0 0
    · subst he
      rw [zGu_lo (by simp), zSg_0 (by simp)]
      exact ⟨fun q => by omega, fun q => by omega⟩
    · have hg2 := hg.2
      rw [zPg_3] at hg2
      have e4 : zPg Q t c 4 g 0 = Q 4 g 0 := zPg_4n he
      rw [hn _ _ _ _ _ he (by decide), hn _ _ _ _ _ he (by decide)]
      exact h7 g p o ⟨hg.1, by omega⟩ (by rw [show inQ Q g p = (0 ≤ p ∧ p < Q 1 (Q 4 g 0) 0) from rfl, ← e4]; exact hp) (by rw [← e4]; exact ho)
  · rw [zGu_l (by simp)] at d ⊢
    exact hSd t' p o a b c d
  · obtain ⟨a1, a2, a3, a4⟩ := hLg
    have e1 : zGu Q D t (1, 0, 0, 0) 1 = D (1, 0, 0, 0) 1 := zGu_l (by simp)
    have e2 : ∀ f, zGu Q D t (2, 0, 0, 0) f = D (2, 0, 0, 0) f := fun f => zGu_l (by simp)
    unfold zLg
    rw [e1, zcs_fr e1 e2, zcs_fr e1 e2, zGu_l (k := (0, 0, 0, 0)) (by simp)]
    refine ⟨a1, fun k k1 k2 => by rw [e2, e2, e2, e2]; exact a2 k k1 k2, a3, fun q => ?_⟩
    have hle : zcoA (zPg Q t c) (zGu Q D t) ≤ zcoA Q D := by
      show sm (zcoG (zPg Q t c) (zGu Q D t)) 0 (Q 3 0 0 + 1) ≤ sm (zcoG Q D) 0 (Q 3 0 0)
      rw [sm_last _ 0 (Q 3 0 0) rfl (by omega)]
      have z0 : zcoG (zPg Q t c) (zGu Q D t) (Q 3 0 0) = 0 := by
        unfold zcoG zcoP
        refine sm_zero _ _ _ rfl (fun p _ _ => sm_zero _ _ _ rfl (fun o _ _ => ?_))
        unfold zco1
        rw [zGu_lo (by simp), zSg_0 (by simp)]
        simp
      rw [z0]
      have := sm_mono (f := zcoG (zPg Q t c) (zGu Q D t)) (f' := zcoG Q D) _ 0 (Q 3 0 0) rfl (fun g g0 g1 => by
        have he : g ≠ Q 3 0 0 := by omega
        have e4 : zPg Q t c 4 g 0 = Q 4 g 0 := zPg_4n he
        unfold zcoG zcoP
        rw [e4]
        show sm (fun p => sm (zco1 (zGu Q D t) g p) 0 (Q 2 (Q 4 g 0) p)) 0 (Q 1 (Q 4 g 0) 0) ≤ sm (fun p => sm (zco1 D g p) 0 (Q 2 (Q 4 g 0) p)) 0 (Q 1 (Q 4 g 0) 0)
        refine sm_mono _ _ _ rfl (fun p _ _ => sm_mono _ _ _ rfl (fun o _ _ => ?_))
        unfold zco1
        rw [hn _ _ _ _ _ he (by decide)]
        exact Int.le_refl _)
      omega
    have := a4 q
    omega
theorem zJ_grp (hJ : zJ Q D) (ht : inT Q t) (h3 : Q 3 0 0 < 4) : (∀ c z, (Q 3 0 0 < c ∧ c ≤ 200) → zR z → zJ (zPg Q t c) (zGf Q D t z)) ∧ zWS (zPg Q t 200) (zSg Q D t) ∧ zWV (zPg Q t 200) (zGu Q D t) ∧ (zSet (zPg Q t 200) (zGu Q D t) ∧ zkA (zPg Q t 200) (zGu Q D t) = zkG (zPg Q t 200) (Q 3 0 0) (zGu Q D t)) := by
  have hP := hJ.wp
  have hq := hP.n
  refine ⟨fun c z hc hz => ?_, ?_, zGu_V hJ ht h3 ⟨by omega, by omega⟩, (zGu_set hJ ht).1, zGu_kA hJ ht⟩
  · have hP2 := zWP_Pg (c := c) hP ht h3 hc
    have hg3 : inG (zPg Q t c) (Q 3 0 0) := ⟨by omega, by rw [zPg_3]; omega⟩
    have hV1 := zkG_V hP2 hg3 (zGu_V hJ ht h3 hc)
    have hK1 := (zK0_g (c := c) hJ ht).kG hP2 hg3
    rw [zkG_Pg (c' := 200)] at hV1 hK1
    have hV : zWV (zPg Q t c) (zGf Q D t z) := hV1.k (zfr_kV rfl) (hV1.1.sf hz (by decide))
    have hK : zK0 (zPg Q t c) (zGf Q D t z) := hK1.fr (zfr.rf.st rfl)
    have hT : zTr Q (zGf Q D t z) := zTr_fr (zGf_k (by simp)) (fun f => zGf_k (by simp)) (fun t p o f _ => zGf_k (by simp)) (fun f => by rw [zGf_n (by simp), zGu_D (by simp) (by simp) (by simp)]) (fun f => by rw [zGf_n (by simp), zGu_D (by simp) (by simp) (by simp)]) hJ.tr
    have hH := hJ.hd
    have hHH : zHD (zPg Q t c) (zGf Q D t z) := ⟨fun t' ht' => by
      obtain ⟨b1, b2, b3⟩ := hH.1 t' ht'
      exact ⟨by rw [zGf_k (by simp)]; exact b1, fun x => by rw [zGf_k (by simp)]; exact b2 x, fun p => by rw [zGf_k (by simp)]; exact b3 p⟩, fun g r hg => by
      rw [zPg_3] at hg
      rw [zGf_n (by simp), zGu_D (fun q => by have := q.2; simp at this; omega) (by simp) (by simp)]
      exact hH.2.1 g r (by omega), hH.2.2⟩
    obtain ⟨-, ⟨M, hM⟩, -⟩ := hJ
    obtain ⟨M2, hM2⟩ := (o_gL (c := c) hM ht h3 hP2).1
    refine ⟨hV, ⟨M2, xJ_hi (fun k f hk => ?_) hV.R (xJ_ctr hM2 (S' := zst (zkG (zPg Q t c) (Q 3 0 0) (zSg Q D t)) (6, 0, 0, 0) 0 z) (zfr.rf.st rfl) (zst_R hM2.2.2.2.2.1.R hz))⟩, hT, hHH, hK⟩
    unfold zGf
    rw [zst_at, zst_at (zkG (zPg Q t c) (Q 3 0 0) (zSg Q D t))]
    split
    · rfl
    · rw [zkG_Pg (c := c) (c' := 200)]
      exact zkG_lo (fun k f h => zGu_lo h) hk
  · have hP2 := zWP_Pg (c := 200) hP ht h3 ⟨by omega, by omega⟩
    obtain ⟨-, ⟨M, hM⟩, -⟩ := hJ
    exact (o_gL hM ht h3 hP2).2
end ZGRP
set_option maxHeartbeats 4000000 in
set_option maxRecDepth 100000 in
theorem c_X7_addGroup {l : Launch} {Δ : zDl} {ad : zK → Nat} {Q : zP} {V : zS} {X : zMem} {Q1 : zP} (hJ : zJ Q V) (hX : X = mm Δ ad Q V z00) (hL : Δ.2.2.2.2.1 ≤ 3072) (hD : V (200, 0, 0, 0) 2 ≤ 930000) (h4 : V (0, 0, 0, 0) 4 ≤ 190) (h0 : 1 ≤ Q 0 0 0) (hQ1 : Q1 0 0 0 ≤ Q 0 0 0) (hQ3 : Q1 3 0 0 ≤ Q 3 0 0 + 1 ∧ Q1 3 0 0 ≤ 4) : zMn l Δ yX7_addGroup cX7_addGroup 3 (some .boolean) 10 20 1200 [.ref (ad (200, 0, 0, 0))] ad (pm Δ ad Q V X) (zAct Δ ad Q1 V 1000) := by
  refine zMn_of (by decide) (Nat.le_of_ble_eq_true rfl) (fun Γ hl hΔ hF => ?_)
  subst hl hΔ
  show G Γ _ _ _ RX7 _ _ _ _ _ [(0, .ref (ad (200, 0, 0, 0)))] []
  have hP := hJ.wp
  have hV := hJ.wv
  have hq := hP.n
  have hdw := hV.dw
  refine G_aload_n (pc := 0) 0 0 dX7_addGroup_0 rfl rfl ?_
  refine G_getfV (pc := 1) (w := Q 3 0 0) fl_X7_105 dX7_addGroup_1 pg_200 rfl (congrArg (fun z => Value.int (zI z)) hV.gn) ?_
  refine G_iconst (pc := 4) dX7_addGroup_4 ?_
  refine G_icmp_ne (pc := 5) 10 dX7_addGroup_5 (by decide) (by first | exact zWV.R (by assumption) _ _ | exact ⟨by omega, by omega⟩ | assumption | (subst_vars; first | exact zWV.R (by assumption) _ _ | exact ⟨by omega, by omega⟩)) (by first | exact zWV.R (by assumption) _ _ | exact ⟨by omega, by omega⟩ | assumption | (subst_vars; first | exact zWV.R (by assumption) _ _ | exact ⟨by omega, by omega⟩)) (fun c5 => ?_) (fun c5 => ?_)
  · have h34 : Q 3 0 0 < 4 := by omega
    refine G_aload_n (pc := 10) 0 0 dX7_addGroup_10 rfl rfl ?_
    refine G_aload_n (pc := 11) 0 0 dX7_addGroup_11 rfl rfl ?_
    refine G_getf (pc := 12) fl_X7_25 dX7_addGroup_12 pg_200 rfl ?_
    refine G_alenV (pc := 15) (t := 7) (Q 0 0 0) rfl dX7_addGroup_15 pg_201 (by omega) ?_
    refine G_callV (pc := 16) gk_X7_94 dX7_addGroup_16 pg_200 rfl (c_X7_draw (n := (Q 0 0 0)) hV (by assumption) ⟨by omega, by omega⟩) rfl rfl (Nat.le_of_ble_eq_true rfl) ⟨⟨Nat.le_of_ble_eq_true rfl, Nat.le_of_ble_eq_true rfl⟩, Nat.le_of_ble_eq_true rfl, Nat.le_of_ble_eq_true rfl⟩ (fun vx adx Mx hpo => ?_)
    obtain ⟨r16, hr16, rfl, hadx, rfl⟩ := hpo
    rw [hadx]
    show G Γ _ _ _ _ _ _ (0) (0) 19 [(0, .ref (ad (200, 0, 0, 0)))] [.int (zI r16)]
    refine G_nameV (fun V1_16 hV1_16 => ?_)
    have hVV1_16 : zWV Q V1_16 := by rw [hV1_16]; exact hV.s200_2 ⟨by omega, by omega⟩
    have hdV1_16 : V1_16 (200, 0, 0, 0) 2 = V (200, 0, 0, 0) 2 + 1 := by rw [hV1_16, zst_s]
    have hfV1_16 : ∀ k f, k ≠ (200, 0, 0, 0) → V1_16 k f = V k f := fun k f hk => by rw [hV1_16, zst_k _ _ _ _ hk]
    have hJV1_16 : zJ Q V1_16 := by rw [hV1_16]; exact zJ_dr hJ ⟨by omega, by omega⟩
    have hXV1_16 : X = mm (z_d Γ) ad Q V1_16 z00 := by rw [hV1_16, mm_st (by decide)]; exact hX
    refine G_istore_n (pc := 19) 1 [(1, .int (zI r16)), (0, .ref (ad (200, 0, 0, 0)))] dX7_addGroup_19 rfl (by decide) rfl ?_
    obtain ⟨D, hD0⟩ : ∃ D, D = V1_16 := ⟨_, rfl⟩
    have hJD : zJ Q D := by rw [hD0]; exact hJV1_16
    have hXD : X = mm (z_d Γ) ad Q D z00 := by rw [hD0]; exact hXV1_16
    have hVD := hJD.wv
    have hDd : D (200, 0, 0, 0) 2 ≤ V (200, 0, 0, 0) 2 + 3 := by rw [hD0]; omega
    have hD4 : D (0, 0, 0, 0) 4 = V (0, 0, 0, 0) 4 := by rw [hD0, hfV1_16 _ _ (by decide)]
    have hD6 : D (0, 0, 0, 0) 6 = V (0, 0, 0, 0) 6 := by rw [hD0, hfV1_16 _ _ (by decide)]
    have hD1 : D (1, 0, 0, 0) 1 = V (1, 0, 0, 0) 1 := by rw [hD0, hfV1_16 _ _ (by decide)]
    have ht : inT Q r16 := ⟨by omega, by omega⟩
    obtain ⟨hJf, hW3, hG1, hG2⟩ := zJ_grp hJD ht h34
    refine G_aload_n (pc := 20) 0 1 dX7_addGroup_20 rfl rfl ?_
    refine G_getf (pc := 21) fl_X7_51 dX7_addGroup_21 pg_200 rfl ?_
    refine G_aload_n (pc := 24) 0 1 dX7_addGroup_24 rfl rfl ?_
    refine G_getfV (pc := 25) (w := Q 3 0 0) fl_X7_105 dX7_addGroup_25 pg_200 rfl (congrArg (fun z => Value.int (zI z)) hVV1_16.gn) ?_
    refine G_iload_n (pc := 28) 1 0 dX7_addGroup_28 rfl rfl ?_
    refine G_iast (pc := 29) dX7_addGroup_29 pg_213 ⟨by omega, by omega, by omega, by omega⟩ pp_213 ?_
    refine G_nameV (fun V2_29 hV2_29 => ?_)
    have hVV2_29 : zWV Q V2_29 := by rw [hV2_29]; exact zWV_213 hVV1_16 ⟨by omega, by omega⟩ (fun q => by omega)
    have hF0 : ∀ k f, ¬ (k = (213, 0, 0, 0) ∧ f = Q 3 0 0) → V2_29 k f = D k f := fun k f hk => by rw [hV2_29, zst_at, if_neg hk, hD0]
    have hF1 : V2_29 (213, 0, 0, 0) (Q 3 0 0) = r16 := by rw [hV2_29, zst_s]
    refine G_iconst (pc := 30) dX7_addGroup_30 ?_
    refine G_istore_ne (pc := 31) 2 (fun zw => [(2, .int (zI zw)), (1, .int (zI r16)), (0, .ref (ad (200, 0, 0, 0)))]) dX7_addGroup_31 rfl (by decide) (fun _ => rfl) (fun v31 e31 => ?_)
    have L32 : ∀ (n : Nat) (p : Int) (T : zS), ((0 ≤ p ∧ p ≤ 4) ∧ zWV Q T ∧ (∀ k f, ¬ (k.1 = 18 ∧ k.2.1 = Q 3 0 0) → T k f = V2_29 k f) ∧ (∀ q f, ¬ (0 ≤ q ∧ q < p ∧ (f = 4 ∨ f = 5 ∨ f = 6)) → T (18, Q 3 0 0, q, 0) f = V2_29 (18, Q 3 0 0, q, 0) f) ∧ (∀ q o f, o ≠ 0 → T (18, Q 3 0 0, q, o) f = V2_29 (18, Q 3 0 0, q, o) f) ∧ ∀ q, 0 ≤ q → q < p → T (18, Q 3 0 0, q, 0) 5 = D (11, r16, q, 0) 1 ∧ T (18, Q 3 0 0, q, 0) 6 = D (11, r16, q, 0) 1 ∧ T (18, Q 3 0 0, q, 0) 4 = -1) → (4 - p).toNat < n → G Γ (zRm 10 20 1200) cX7_addGroup 3 RX7 ad (pm (z_d Γ) ad Q T X) 0 0 32 [(0, .ref (ad (200, 0, 0, 0))), (1, .int (zI r16)), (2, .int (zI p))] [] := by
      intro n
      induction n with
      | zero => intro p T _ hn; omega
      | succ n ih32 =>
        intro p T hi32 hn32
        obtain ⟨hp0, hVT, hT1, hT2, hT3, hT5⟩ := hi32
        have h11T : T (11, r16, p, 0) 1 = D (11, r16, p, 0) 1 := by rw [hT1 _ _ (by simp)]; exact hF0 _ _ (by simp)
        refine G_iload_n (pc := 32) 2 2 dX7_addGroup_32 rfl rfl ?_
        refine G_iconst (pc := 33) dX7_addGroup_33 ?_
        refine G_icmp_ge (pc := 34) 93 dX7_addGroup_34 (by decide) (by first | exact zWV.R (by assumption) _ _ | exact ⟨by omega, by omega⟩ | assumption | (subst_vars; first | exact zWV.R (by assumption) _ _ | exact ⟨by omega, by omega⟩)) (by first | exact zWV.R (by assumption) _ _ | exact ⟨by omega, by omega⟩ | assumption | (subst_vars; first | exact zWV.R (by assumption) _ _ | exact ⟨by omega, by omega⟩)) (fun c34 => ?_) (fun c34 => ?_)
        · refine G_aload_n (pc := 93) 0 0 dX7_addGroup_93 rfl rfl ?_
          refine G_dup (pc := 94) dX7_addGroup_94 rfl ?_
          refine G_getfV (pc := 95) (w := Q 3 0 0) fl_X7_105 dX7_addGroup_95 pg_200 rfl (congrArg (fun z => Value.int (zI z)) hVT.gn) ?_
          refine G_iconst (pc := 98) dX7_addGroup_98 ?_
          refine G_iadd (pc := 99) dX7_addGroup_99 ?_
          refine G_putf (pc := 100) fl_X7_105 fp_X7_15 dX7_addGroup_100 pg_200 (Nat.le_of_ble_eq_true rfl) rfl rfl pp_200_15 ?_
          refine G_nameV (fun V3_100 hV3_100 => ?_)
          have hsw := fun {nc ns pc : Nat} {lv : List (Nat × Value)} {st : List Value} {R : Room} {cc : ByteArray} {nL : Nat} {own : String} (kk : G Γ R cc nL own ad (pm (z_d Γ) ad (zPg Q r16 200) (zGu Q D r16) X) nc ns pc lv st) => G_grp (Γ := Γ) (ad := ad) (Q := Q) (D := D) (S := V3_100) (X := X) (t := r16) hJD.hd ⟨hP.n.1.2.1, h34⟩ (fun k f k1 k2 k3 => by
            rw [hV3_100, zst_at, if_neg k1]
            by_cases k4 : k.1 = 18 ∧ k.2.1 = Q 3 0 0
            · obtain ⟨n, i, q, l⟩ := k
              obtain ⟨rfl, rfl⟩ : n = 18 ∧ i = Q 3 0 0 := k4
              by_cases hl : l = 0
              · subst hl
                rw [hT2 q f (fun z => k3 ⟨rfl, rfl, ⟨z.1, by have := z.2.1; show q < 4; omega⟩, rfl, z.2.2⟩)]
                exact hF0 _ _ (by simp)
              · rw [hT3 q l f hl]
                exact hF0 _ _ (by simp)
            · rw [hT1 k f k4]
              exact hF0 k f k2) (by rw [hV3_100, zst_s]) (by rw [hV3_100, zst_k _ _ _ _ (by decide), hT1 _ _ (by simp)]; exact hF1) (fun q q1 q2 => by rw [hV3_100, zst_k _ _ _ _ (by simp), zst_k _ _ _ _ (by simp), zst_k _ _ _ _ (by simp)]; exact hT5 q q1 (by omega)) kk
          refine hsw ?_
          refine G_nameV (fun U hU => ?_)
          have hVU : zWV (zPg Q r16 200) U := by rw [hU]; exact hG1
          have hPg := zWP_Pg (c := 200) hP ht h34 ⟨by omega, by omega⟩
          have hsU : zSet (zPg Q r16 200) U := by rw [hU]; exact hG2.1
          refine G_aload_n (pc := 103) 0 0 dX7_addGroup_103 rfl rfl ?_
          refine G_callVv (pc := 104) gk_X7_126 dX7_addGroup_104 pg_200 rfl (c_X7_settle hPg hVU hsU) rfl rfl (Nat.le_of_ble_eq_true rfl) ⟨⟨Nat.le_of_ble_eq_true rfl, Nat.le_of_ble_eq_true rfl⟩, Nat.le_of_ble_eq_true rfl, Nat.le_of_ble_eq_true rfl⟩ ?_
          refine G_nameV (fun V4_104 hV4_104 => ?_)
          have hSa : V4_104 = zkG (zPg Q r16 200) (Q 3 0 0) (zGu Q D r16) := by rw [hV4_104, hU]; exact hG2.2
          refine G_aload_n (pc := 107) 0 0 dX7_addGroup_107 rfl rfl ?_
          refine G_getf (pc := 108) fl_X7_10 dX7_addGroup_108 pg_200 rfl ?_
          refine G_iload_n (pc := 111) 1 1 dX7_addGroup_111 rfl rfl ?_
          rw [hXD, pm_mm]
          refine G_callV (pc := 112) gk_X7_185 dX7_addGroup_112 mg_0 rfl (c_X6_group (t := r16) hP hJD.wv.W ht h34 hW3 (by rfl)) rfl rfl (Nat.le_of_ble_eq_true rfl) ⟨⟨(by exact Nat.le_of_ble_eq_true rfl), (by exact Nat.le_of_ble_eq_true rfl)⟩, (by exact Nat.le_of_ble_eq_true rfl), (by exact Nat.le_of_ble_eq_true rfl)⟩ (fun vx adx Mx hpo => ?_)
          obtain ⟨rfl, c, z, hc, hz, rfl, hadx⟩ := hpo
          rw [hSa, zGf_m (c := c) hadx]
          rw [← hadx (200, 0, 0, 0) (Or.inr (by decide)) (by decide)]
          have h15 := zGf_15 (Q := Q) (D := D) (t := r16) (z := z)
          show G Γ _ _ _ _ _ _ (20) (1200) 115 _ _
          refine G_aload_n (pc := 115) 0 0 dX7_addGroup_115 rfl rfl ?_
          refine G_getf (pc := 116) fl_X7_105 dX7_addGroup_116 pg_200 rfl ?_
          refine G_iconst (pc := 119) dX7_addGroup_119 ?_
          refine G_isub (pc := 120) dX7_addGroup_120 ?_
          refine G_icmp_ne (pc := 121) 128 dX7_addGroup_121 (by decide) (by first | exact zWV.R (by assumption) _ _ | exact ⟨by omega, by omega⟩ | assumption | (subst_vars; first | exact zWV.R (by assumption) _ _ | exact ⟨by omega, by omega⟩)) (by first | exact zWV.R (by assumption) _ _ | exact ⟨by omega, by omega⟩ | assumption | (subst_vars; first | exact zWV.R (by assumption) _ _ | exact ⟨by omega, by omega⟩)) (fun c121 => ?_) (fun c121 => ?_)
          · exfalso
            exact c121 (by rw [zGf_15]; omega)
          · refine G_iconst (pc := 124) dX7_addGroup_124 ?_
            refine G_goto (pc := 125) 129 dX7_addGroup_125 (by decide) ?_
            exact G_zret (pc := 129) hF dX7_addGroup_129 ⟨Nat.le_of_ble_eq_true rfl, Nat.le_of_ble_eq_true rfl⟩ (by first | exact zb_ite | omega) ⟨rfl, zPg Q r16 c, zGf Q D r16 z, ⟨hadx _ (Or.inl rfl) (by decide), hadx _ (Or.inr (by decide)) (by decide)⟩, rfl, hJf c z hc hz, by rw [zGf_2]; omega, by rw [zGf_k ⟨by simp, by simp, by simp⟩]; omega, by rw [zGf_k ⟨by simp, by simp, by simp⟩]; omega, by rw [zGf_k ⟨by simp, by simp, by simp⟩]; omega, hQ1, by show Q1 3 0 0 ≤ Q 3 0 0 + 1; omega⟩
        · refine G_aload_n (pc := 37) 0 0 dX7_addGroup_37 rfl rfl ?_
          refine G_getf (pc := 38) fl_X7_54 dX7_addGroup_38 pg_200 rfl ?_
          refine G_aload_n (pc := 41) 0 0 dX7_addGroup_41 rfl rfl ?_
          refine G_getfV (pc := 42) (w := Q 3 0 0) fl_X7_105 dX7_addGroup_42 pg_200 rfl (congrArg (fun z => Value.int (zI z)) hVT.gn) ?_
          refine G_aldA (pc := 45) (t := 5) rfl dX7_addGroup_45 pg_214 ⟨by omega, by omega, by omega, by omega⟩ rfl ?_
          refine G_iload_n (pc := 46) 2 2 dX7_addGroup_46 rfl rfl ?_
          refine G_aload_n (pc := 47) 0 0 dX7_addGroup_47 rfl rfl ?_
          refine G_getf (pc := 48) fl_X7_39 dX7_addGroup_48 pg_200 rfl ?_
          refine G_iload_n (pc := 51) 1 1 dX7_addGroup_51 rfl rfl ?_
          refine G_aldA (pc := 52) (t := 5) rfl dX7_addGroup_52 pg_207 ⟨by omega, by omega, by omega, by omega⟩ rfl ?_
          refine G_iload_n (pc := 53) 2 2 dX7_addGroup_53 rfl rfl ?_
          refine G_ialdV (pc := 54) (T (11, r16, p, 0) 1) dX7_addGroup_54 (pg_208 (by first | assumption | omega | exact ⟨by omega, by omega⟩ | exact ⟨⟨by omega, by omega⟩, by omega⟩ | exact zWV.R (by assumption) _ _)) ⟨by omega, by omega, by omega, by omega⟩ rfl ?_
          refine G_iast (pc := 55) dX7_addGroup_55 (pg_215 (by first | assumption | omega | exact ⟨by omega, by omega⟩ | exact ⟨⟨by omega, by omega⟩, by omega⟩ | exact zWV.R (by assumption) _ _)) ⟨by omega, by omega, by omega, by omega⟩ (pp_215 (by first | assumption | omega | exact ⟨by omega, by omega⟩ | exact ⟨⟨by omega, by omega⟩, by omega⟩ | exact zWV.R (by assumption) _ _)) ?_
          refine G_nameV (fun V5_55 hV5_55 => ?_)
          have hVV5_55 : zWV Q V5_55 := by rw [hV5_55]; exact hVT.s18 (by first | exact ⟨by omega, by omega⟩ | exact zWV.R (by assumption) _ _) (fun _ _ _ => by omega)
          refine G_aload_n (pc := 56) 0 0 dX7_addGroup_56 rfl rfl ?_
          refine G_getf (pc := 57) fl_X7_57 dX7_addGroup_57 pg_200 rfl ?_
          refine G_aload_n (pc := 60) 0 0 dX7_addGroup_60 rfl rfl ?_
          refine G_getfV (pc := 61) (w := Q 3 0 0) fl_X7_105 dX7_addGroup_61 pg_200 rfl (congrArg (fun z => Value.int (zI z)) hVV5_55.gn) ?_
          refine G_aldA (pc := 64) (t := 5) rfl dX7_addGroup_64 pg_216 ⟨by omega, by omega, by omega, by omega⟩ rfl ?_
          refine G_iload_n (pc := 65) 2 2 dX7_addGroup_65 rfl rfl ?_
          refine G_aload_n (pc := 66) 0 0 dX7_addGroup_66 rfl rfl ?_
          refine G_getf (pc := 67) fl_X7_39 dX7_addGroup_67 pg_200 rfl ?_
          refine G_iload_n (pc := 70) 1 1 dX7_addGroup_70 rfl rfl ?_
          refine G_aldA (pc := 71) (t := 5) rfl dX7_addGroup_71 pg_207 ⟨by omega, by omega, by omega, by omega⟩ rfl ?_
          refine G_iload_n (pc := 72) 2 2 dX7_addGroup_72 rfl rfl ?_
          refine G_ialdV (pc := 73) (V5_55 (11, r16, p, 0) 1) dX7_addGroup_73 (pg_208 (by first | assumption | omega | exact ⟨by omega, by omega⟩ | exact ⟨⟨by omega, by omega⟩, by omega⟩ | exact zWV.R (by assumption) _ _)) ⟨by omega, by omega, by omega, by omega⟩ rfl ?_
          refine G_iast (pc := 74) dX7_addGroup_74 (pg_217 (by first | assumption | omega | exact ⟨by omega, by omega⟩ | exact ⟨⟨by omega, by omega⟩, by omega⟩ | exact zWV.R (by assumption) _ _)) ⟨by omega, by omega, by omega, by omega⟩ (pp_217 (by first | assumption | omega | exact ⟨by omega, by omega⟩ | exact ⟨⟨by omega, by omega⟩, by omega⟩ | exact zWV.R (by assumption) _ _)) ?_
          refine G_nameV (fun V6_74 hV6_74 => ?_)
          have hVV6_74 : zWV Q V6_74 := by rw [hV6_74]; exact hVV5_55.s18 (by first | exact ⟨by omega, by omega⟩ | exact zWV.R (by assumption) _ _) (fun _ _ _ => by omega)
          refine G_aload_n (pc := 75) 0 0 dX7_addGroup_75 rfl rfl ?_
          refine G_getf (pc := 76) fl_X7_60 dX7_addGroup_76 pg_200 rfl ?_
          refine G_aload_n (pc := 79) 0 0 dX7_addGroup_79 rfl rfl ?_
          refine G_getfV (pc := 80) (w := Q 3 0 0) fl_X7_105 dX7_addGroup_80 pg_200 rfl (congrArg (fun z => Value.int (zI z)) hVV6_74.gn) ?_
          refine G_aldA (pc := 83) (t := 5) rfl dX7_addGroup_83 pg_218 ⟨by omega, by omega, by omega, by omega⟩ rfl ?_
          refine G_iload_n (pc := 84) 2 2 dX7_addGroup_84 rfl rfl ?_
          refine G_iconst (pc := 85) dX7_addGroup_85 ?_
          refine G_iast (pc := 86) dX7_addGroup_86 (pg_219 (by first | assumption | omega | exact ⟨by omega, by omega⟩ | exact ⟨⟨by omega, by omega⟩, by omega⟩ | exact zWV.R (by assumption) _ _)) ⟨by omega, by omega, by omega, by omega⟩ (pp_219 (by first | assumption | omega | exact ⟨by omega, by omega⟩ | exact ⟨⟨by omega, by omega⟩, by omega⟩ | exact zWV.R (by assumption) _ _)) ?_
          refine G_nameV (fun V7_86 hV7_86 => ?_)
          have hVV7_86 : zWV Q V7_86 := by rw [hV7_86]; exact hVV6_74.s18 (by first | exact ⟨by omega, by omega⟩ | exact zWV.R (by assumption) _ _) (fun q => by omega)
          have hL1 : ∀ k f, ¬ (k.1 = 18 ∧ k.2.1 = Q 3 0 0) → V7_86 k f = T k f := fun k f hk => by rw [hV7_86, hV6_74, hV5_55, zst_k _ _ _ _ (fun q => hk (by rw [q]; exact ⟨rfl, rfl⟩)), zst_k _ _ _ _ (fun q => hk (by rw [q]; exact ⟨rfl, rfl⟩)), zst_k _ _ _ _ (fun q => hk (by rw [q]; exact ⟨rfl, rfl⟩))]
          have hL2 : ∀ q f, ¬ (q = p ∧ (f = 4 ∨ f = 5 ∨ f = 6)) → V7_86 (18, Q 3 0 0, q, 0) f = T (18, Q 3 0 0, q, 0) f := fun q f hq => by rw [hV7_86, hV6_74, hV5_55, zst_at, if_neg (fun z => hq (by have := z.1; simp at this; exact ⟨this, Or.inl z.2⟩)), zst_at, if_neg (fun z => hq (by have := z.1; simp at this; exact ⟨this, Or.inr (Or.inr z.2)⟩)), zst_at, if_neg (fun z => hq (by have := z.1; simp at this; exact ⟨this, Or.inr (Or.inl z.2)⟩))]
          have hL3 : ∀ q o f, o ≠ 0 → V7_86 (18, Q 3 0 0, q, o) f = T (18, Q 3 0 0, q, o) f := fun q o f ho => by rw [hV7_86, hV6_74, hV5_55, zst_k _ _ _ _ (by simp [ho]), zst_k _ _ _ _ (by simp [ho]), zst_k _ _ _ _ (by simp [ho])]
          have hL5 : V7_86 (18, Q 3 0 0, p, 0) 5 = T (11, r16, p, 0) 1 ∧ V7_86 (18, Q 3 0 0, p, 0) 6 = T (11, r16, p, 0) 1 ∧ V7_86 (18, Q 3 0 0, p, 0) 4 = -1 := by
            refine ⟨?_, ?_, ?_⟩
            · rw [hV7_86, hV6_74, hV5_55, zst_o (by decide), zst_o (by decide), zst_s]
            · rw [hV7_86, hV6_74, hV5_55, zst_o (by decide), zst_s, zst_k _ _ _ _ (by simp)]
            · rw [hV7_86, zst_s]
          refine G_iinc_e (pc := 87) 2 (fun zw => [(2, .int (zI zw)), (0, .ref (ad (200, 0, 0, 0))), (1, .int (zI r16))]) dX7_addGroup_87 rfl (by decide) (fun _ => rfl) (fun v87 e87 => ?_)
          refine G_goto (pc := 90) 32 dX7_addGroup_90 (by decide) ?_
          refine G_perm (lv' := [(0, .ref (ad (200, 0, 0, 0))), (1, .int (zI r16)), (2, .int (zI v87))]) [1, 2, 0] rfl ?_
          exact ih32 v87 V7_86 ⟨by omega, by assumption, fun k f hk => by rw [hL1 k f hk]; exact hT1 k f hk, fun q f hq => by rw [hL2 q f (fun z => hq ⟨by omega, by omega, z.2⟩)]; exact hT2 q f (fun z => hq ⟨z.1, by omega, z.2.2⟩), fun q o f hq => by rw [hL3 q o f hq]; exact hT3 q o f hq, fun q q1 q2 => by
            by_cases hqp : q = p
            · subst hqp; rw [hL5.1, hL5.2.1, hL5.2.2]; exact ⟨h11T, h11T, rfl⟩
            · rw [hL2 q 5 (fun z => hqp z.1), hL2 q 6 (fun z => hqp z.1), hL2 q 4 (fun z => hqp z.1)]; exact hT5 q q1 (by omega)⟩ (by omega)
    refine G_perm (lv' := [(0, .ref (ad (200, 0, 0, 0))), (1, .int (zI r16)), (2, .int (zI v31))]) [2, 1, 0] rfl ?_
    exact L32 _ v31 V2_29 ⟨by omega, by assumption, fun _ _ _ => rfl, fun _ _ _ => rfl, fun _ _ _ _ => rfl, fun q q1 q2 => by omega⟩ (Nat.lt_succ_self _)
  · refine G_iconst (pc := 8) dX7_addGroup_8 ?_
    exact G_zret (pc := 9) hF dX7_addGroup_9 ⟨Nat.le_of_ble_eq_true rfl, Nat.le_of_ble_eq_true rfl⟩ (by first | exact zb_ite | omega) ⟨rfl, Q, V, ⟨rfl, rfl⟩, by rw [hX]; rfl, hJ, by omega, by omega, by omega, by omega, by omega, by omega⟩
