/-! ===== the Pier's acts: addTopic ===== -/
/-- cells change their names, and contents beyond the length -/
theorem G_rneq {Γ : zCx} {R : Room} {cc : ByteArray} {nL : Nat} {own : String} {ad ad' : zK → Nat} {M M' : zMem} {nc ns pc : Nat} {lv : List (Nat × Value)} {st : List Value} (ρ : zK → zK) (h : ∀ k e', M' k = some e' → ad' k = ad (ρ k) ∧ ∃ e, M (ρ k) = some e ∧ ∀ H : Heap, va_at (z_d Γ).1 vwCl (ad (ρ k), e) H → va_at (z_d Γ).1 vwCl (ad (ρ k), e') H) (hi : ∀ k k', M' k ≠ none → M' k' ≠ none → ρ k = ρ k' → k = k') (kk : G Γ R cc nL own ad' M' nc ns pc lv st) : G Γ R cc nL own ad M nc ns pc lv st := by
  intro C H locs ls h1 h2 h3 h4
  have hd : ∀ k, M' k ≠ none → M (ρ k) ≠ none ∧ ad' k = ad (ρ k) := fun k hk => by
    cases hm : M' k with
    | none => exact absurd hm hk
    | some e =>
      obtain ⟨g1, e0, g2, -⟩ := h k e hm
      exact ⟨(by rw [g2]; exact (fun q => by cases q)), g1⟩
  refine kk C H locs ls ⟨fun k e hk => ?_, fun k k' hk hk' e => ?_⟩ (fun k hk => ?_) h3 h4
  · obtain ⟨g1, e0, g2, g3⟩ := h k e hk
    rw [g1]
    exact g3 H (h1.1 _ e0 g2)
  · rw [(hd k hk).2, (hd k' hk').2] at e
    exact hi k k' hk hk' (h1.2 _ _ (hd k hk).1 (hd k' hk').1 e)
  · rw [(hd k hk).2]
    exact h2 _ (hd k hk).1
theorem cl_X7_23 : Cond.classLink RX7 23 (FieldType.array (.array (.array .int))).toString ∈ zAW := zAW_of 515 (by decide +kernel) (by decide +kernel)
theorem cl_X7_23m : Cond.classLink RX7 23 ("[" ++ (FieldType.array (.array .int)).toString) ∈ zAW := zAW_of 515 (by decide +kernel) (by decide +kernel)
/-- the new names -/
def zrT (t : Int) (k : zK) : zK := if k = (201, 0, 0, 0) then (231, 0, 0, 0) else if k = (202, t, 0, 0) then (232, 0, 0, 0) else if k.1 = 203 ∧ k.2.1 = t then (233, k.2.2.1, k.2.2.2, 0) else k
section ZTOP
variable {Q : zP} {D : zS} {n b c z : Int}
theorem zSt_lo {k : zK} {f : Int} (h : ¬ (k = (4, 0, 0, 0) ∧ f = 0)) (h2 : ¬ ((k.1 = 8 ∨ k.1 = 10 ∨ k.1 = 11 ∨ k.1 = 12) ∧ k.2.1 = Q 0 0 0)) : zSt Q D b z k f = D k f := by
  unfold zSt
  by_cases h4 : k = (4, 0, 0, 0)
  · rw [if_pos h4, if_neg (fun q => h ⟨h4, q⟩)]
  · rw [if_neg h4, if_neg (fun q => h2 ⟨Or.inl (by rw [q]), by rw [q]⟩), if_neg (fun q => h2 ⟨Or.inr q.1, q.2⟩)]
theorem zSt_8 {f : Int} : zSt Q D b z (8, Q 0 0 0, 0, 0) f = if f = 1 then b else 0 := by simp [zSt]
theorem zSt_h {m : Nat} {j l f : Int} (hm : m = 10 ∨ m = 11 ∨ m = 12) : zSt Q D b z (m, Q 0 0 0, j, l) f = 0 := by
  unfold zSt
  rw [if_neg (by simp; omega), if_neg (by simp; omega), if_pos ⟨hm, rfl⟩]
/-- what a cell of the Pier's tells, cell by cell -/
theorem pcnt_F {Δ : zDl} {ad : zK → Nat} {V V' : zS} {k : zK} (e0 : ∀ f, V' (0, 0, 0, 0) f = V (0, 0, 0, 0) f) (e200 : ∀ f, V' (200, 0, 0, 0) f = V (200, 0, 0, 0) f) (e81 : ∀ x, V' (8, x, 0, 0) 1 = V (8, x, 0, 0) 1) (e83 : ∀ x, V' (8, x, 0, 0) 3 = V (8, x, 0, 0) 3) (e11 : ∀ i x, V' (11, i, x, 0) 1 = V (11, i, x, 0) 1) (e10 : ∀ i x, V' (10, i, 0, 0) x = V (10, i, 0, 0) x) (e14 : ∀ t p o f, V' (14, t, p, o) f = V (14, t, p, o) f) (eg : ∀ (m : Nat) g p f, 17 ≤ m → m ≤ 21 → V' (m, g, p, 0) f = V (m, g, p, 0) f) (e1 : ∀ f, V' (1, 0, 0, 0) f = V (1, 0, 0, 0) f) (e2 : ∀ f, V' (2, 0, 0, 0) f = V (2, 0, 0, 0) f) (e211 : ∀ f, V' (211, 0, 0, 0) f = V (211, 0, 0, 0) f) (e212 : ∀ f, V' (212, 0, 0, 0) f = V (212, 0, 0, 0) f) (e213 : ∀ f, V' (213, 0, 0, 0) f = V (213, 0, 0, 0) f) : pcnt Δ ad Q V' k = pcnt Δ ad Q V k := by
  have e17 := fun g p f => eg 17 g p f (by decide) (by decide)
  have e18 := fun g p f => eg 18 g p f (by decide) (by decide)
  have e19 := fun g p f => eg 19 g p f (by decide) (by decide)
  have e20 := fun g p f => eg 20 g p f (by decide) (by decide)
  have e21 := fun g p f => eg 21 g p f (by decide) (by decide)
  have hz : ∀ t p o, zpr Q V' t p o = zpr Q V t p o := fun t p o => by
    funext j
    unfold zpr
    rw [e14, e14, e14, e14, e14, e19, e20, e21]
  simp only [pcnt, pc200, pc201, pc202, pc203, pc204, pc205, pc206, pc207, pc208, pc209, pc210, pc211, pc212, pc213, pc214, pc215, pc216, pc217, pc218, pc219, pc220, pc221, pc222, pc223, e0, e200, e81, e83, e11, e10, e18, e17, e1, e2, e211, e212, e213, hz]
theorem pmT {Δ : zDl} {ad : zK → Nat} (hH : zHD Q D) (k : zK) : pcnt Δ ad (zPt Q n 200) (zst D (8, Q 0 0 0, 0, 0) 1 b) k = pcnt Δ ad (zPt Q n c) (zSt Q D b z) k := by
  obtain ⟨a1, a2, a3⟩ := hH.1 _ (Int.le_refl (Q 0 0 0))
  have lo : ∀ (k : zK) f, k.1 ≠ 8 → ¬ (k = (4, 0, 0, 0) ∧ f = 0) → ¬ ((k.1 = 8 ∨ k.1 = 10 ∨ k.1 = 11 ∨ k.1 = 12) ∧ k.2.1 = Q 0 0 0) → zSt Q D b z k f = zst D (8, Q 0 0 0, 0, 0) 1 b k f := fun k f h8 h4 h2 => by
    rw [zSt_lo h4 h2, zst_k _ _ _ _ (fun q => h8 (by rw [q]))]
  refine (pcnt_F (Q := zPt Q n 200) (fun f => lo _ _ (by simp) (by simp) (by simp)) (fun f => lo _ _ (by simp) (by simp) (by simp)) (fun x => ?_) (fun x => ?_) (fun i x => ?_) (fun i x => ?_) (fun t p o f => lo _ _ (by simp) (by simp) (by simp)) (fun m g p f m1 m2 => lo _ _ (by simp; omega) (by simp; omega) (by simp; omega)) (fun f => lo _ _ (by simp) (by simp) (by simp)) (fun f => lo _ _ (by simp) (by simp) (by simp)) (fun f => lo _ _ (by simp) (by simp) (by simp)) (fun f => lo _ _ (by simp) (by simp) (by simp)) (fun f => lo _ _ (by simp) (by simp) (by simp))).symm
  · by_cases hx : x = Q 0 0 0
    · rw [hx, zSt_8, zst_s]; rfl
    · rw [zSt_lo (by simp) (fun q => hx q.2), zst_k _ _ _ _ (fun q => hx (by simp at q; exact q))]
  · by_cases hx : x = Q 0 0 0
    · rw [hx, zSt_8, zst_o (by decide), a1]; rfl
    · rw [zSt_lo (by simp) (fun q => hx q.2), zst_o (by decide)] <;> rw [zst_k _ _ _ _ (fun q => hx (by simp at q; exact q))]
  · by_cases hi : i = Q 0 0 0
    · rw [hi, zSt_h (by simp), zst_k _ _ _ _ (by simp), a3]
    · rw [zSt_lo (by simp) (fun q => hi q.2), zst_k _ _ _ _ (by simp)]
  · by_cases hi : i = Q 0 0 0
    · rw [hi, zSt_h (by simp), zst_k _ _ _ _ (by simp), a2]
    · rw [zSt_lo (by simp) (fun q => hi q.2), zst_k _ _ _ _ (by simp)]
theorem zJ_top (hJ : zJ Q D) (hn : 1 ≤ n ∧ n ≤ 4) (h4 : Q 0 0 0 < 4) (hb : b = 0 ∨ b = 1) (hc : Q 0 0 0 < c ∧ c ≤ 200) (hz : zR z) : zJ (zPt Q n c) (zSt Q D b z) := by
  have h := hJ.wv
  have hP := hJ.wp
  have hq := hP.n
  have hH := hJ.hd
  have hP2 := zWP_Pt hP h4 hn hc
  have lo : ∀ (k : zK) f, ¬ (k = (4, 0, 0, 0) ∧ f = 0) → ¬ ((k.1 = 8 ∨ k.1 = 10 ∨ k.1 = 11 ∨ k.1 = 12) ∧ k.2.1 = Q 0 0 0) → zSt Q D b z k f = D k f := fun k f a b => zSt_lo a b
  have hx : ∃ M, xJ (zPt Q n c) (zSt Q D b z) M := by
    obtain ⟨-, ⟨M, hM⟩, -⟩ := hJ
    refine ⟨_, o_topic hM hn h4 hb zgt_Pt hP2 (fun k f => ?_) (fun k f hk => lo k f (fun q => hk (Or.inl (by rw [q.1]))) (fun q => hk (Or.inr q))) ⟨by rw [zSt_8]; rfl, by rw [zSt_8]; rfl⟩ (fun x => zSt_h (by simp)) (fun p => zSt_h (by simp))⟩
    unfold zSt
    split
    · split
      · exact hz
      · exact h.R k f
    · split
      · split
        · exact ⟨by omega, by omega⟩
        · exact zR_0
      · split
        · exact zR_0
        · exact h.R k f
  have nm : ∀ t p o, ¬ (t = Q 0 0 0) → inT (zPt Q n c) t → inP (zPt Q n c) t p → inM (zPt Q n c) t p o → inT Q t ∧ inP Q t p ∧ inM Q t p o := fun t p o hne a b' d => by
    have a2 := a.2
    have b2 := b'.2
    have d2 := d.2
    rw [zPt_0] at a2
    rw [zPt_1, if_neg hne] at b2
    rw [zPt_2, if_neg hne] at d2
    exact ⟨⟨a.1, by omega⟩, ⟨b'.1, b2⟩, ⟨d.1, d2⟩⟩
  have nn : ∀ t p o, inM (zPt Q n c) t p o → ¬ (t = Q 0 0 0) := fun t p o d e => by
    have d1 := d.1
    have d2 := d.2
    rw [zPt_2, if_pos e] at d2
    omega
  have nq : ∀ g p o, inG (zPt Q n c) g → inQ (zPt Q n c) g p → inM (zPt Q n c) (zPt Q n c 4 g 0) p o → inG Q g ∧ inQ Q g p ∧ inM Q (Q 4 g 0) p o := fun g p o a b' d => by
    have a' : inG Q g := ⟨a.1, by have := a.2; rw [zPt_m (by decide)] at this; exact this⟩
    have e4 : zPt Q n c 4 g 0 = Q 4 g 0 := zPt_m (by decide)
    have hg := (hP.g a').2
    have b2 := b'.2
    rw [e4, zPt_1, if_neg (by omega)] at b2
    have d2 := d.2
    rw [e4, zPt_2, if_neg (by omega)] at d2
    exact ⟨a', ⟨b'.1, b2⟩, ⟨d.1, d2⟩⟩
  refine ⟨⟨?_, ⟨fun t p o => ?_, fun g p o => ?_, fun t p o a b' d => ?_⟩, ⟨⟨?_, ?_⟩, ⟨fun g => ?_, fun g hg => ?_⟩⟩, ⟨fun g r => ?_, fun t => ?_, ⟨fun x => ?_, fun x => ?_⟩⟩, ⟨?_, ?_⟩, fun t x => ?_⟩, hx, ?_, ?_, ?_⟩
  · obtain ⟨M, hM⟩ := hx
    exact hM.2.2.2.2.1
  · rw [lo _ _ (by simp) (by simp), lo _ _ (by simp) (by simp), lo _ _ (by simp) (by simp)]
    exact ⟨h.dr t p o, h.tr t p o, h.ky t p o⟩
  · rw [lo _ _ (by simp) (by simp)]
    exact h.st4 g p o
  · obtain ⟨a1, b1, d1⟩ := nm t p o (nn t p o d) a b' d
    have e : zsn (zSt Q D b z) t p o = zsn D t p o := by
      unfold zsn
      rw [lo (14, t, p, o) 6 (by simp) (by simp), lo (211, 0, 0, 0) _ (by simp) (by simp)]
    rw [e, lo _ _ (by simp) (by simp)]
    exact h.sn a1 b1 d1
  · rw [lo _ _ (by simp) (by simp), h.gn]
    exact (zPt_m (by decide)).symm
  · rw [lo _ _ (by simp) (by simp)]
    exact h.dw
  · rw [lo _ _ (by simp) (by simp)]
    exact h.2.2.1.2.1 g
  · rw [lo _ _ (by simp) (by simp), zPt_m (by decide)]
    exact h.of ⟨hg.1, by have := hg.2; rw [zPt_m (by decide)] at this; exact this⟩
  · rw [lo _ _ (by simp) (by simp)]
    exact h.in2 g r
  · by_cases ht : t = Q 0 0 0
    · rw [ht, zSt_8, zSt_8]
      simp
      exact hb
    · rw [lo _ _ (by simp) (fun q => ht q.2), lo _ _ (by simp) (fun q => ht q.2)]
      exact h.t8 t
  · rw [lo _ _ (by simp) (by simp)]
    exact h.op x
  · rw [lo _ _ (by simp) (by simp)]
    exact h.en x
  · rw [lo _ _ (by simp) (by simp)]
    exact h.f0.1
  · rw [lo _ _ (by simp) (by simp)]
    exact h.f0.2
  · by_cases ht : t = Q 0 0 0
    · rw [ht, zSt_h (by simp)]
      omega
    · rw [lo _ _ (by simp) (fun q => ht q.2)]
      exact h.nx t x
  · obtain ⟨t1, t2, t3⟩ : zTr Q (zSt Q D b z) := zTr_fr (lo _ _ (by simp) (by simp)) (fun f => lo _ _ (by simp) (by simp)) (fun t p o f _ => lo _ _ (by simp) (by simp)) (fun f => lo _ _ (by simp) (by simp)) (fun f => lo _ _ (by simp) (by simp)) hJ.tr
    exact ⟨t1, t2, fun t p o a b' d => by
      obtain ⟨a1, b1, d1⟩ := nm t p o (nn t p o d) a b' d
      exact t3 t p o a1 b1 d1⟩
  · refine ⟨fun t ht => ?_, fun g r hg => ?_, ?_⟩
    · rw [zPt_0] at ht
      obtain ⟨a1, a2, a3⟩ := hH.1 t (by omega)
      have hne : ¬ t = Q 0 0 0 := by omega
      exact ⟨by rw [lo _ _ (by simp) (fun q => hne q.2)]; exact a1, fun x => by rw [lo _ _ (by simp) (fun q => hne q.2)]; exact a2 x, fun p => by rw [lo _ _ (by simp) (fun q => hne q.2)]; exact a3 p⟩
    · rw [zPt_m (by decide)] at hg
      rw [lo _ _ (by simp) (by simp)]
      exact hH.2.1 g r hg
    · rw [zPt_m (by decide)]
      exact hH.2.2
  · obtain ⟨h7, hSd, hLg⟩ := hJ.k0
    refine ⟨fun g p o a b' d => ?_, fun t p o a b' d e => ?_, ?_⟩
    · obtain ⟨a1, b1, d1⟩ := nq g p o a b' d
      rw [lo _ _ (by simp) (by simp), lo _ _ (by simp) (by simp)]
      exact h7 g p o a1 b1 d1
    · have hne := nn t p o d
      obtain ⟨a1, b1, d1⟩ := nm t p o hne a b' d
      rw [lo _ _ (by simp) (fun q => hne q.2)] at e
      rw [lo _ _ (by simp) (by simp)]
      exact hSd t p o a1 b1 d1 e
    · obtain ⟨a1, a2, a3, a4⟩ := hLg
      have e1 : zSt Q D b z (1, 0, 0, 0) 1 = D (1, 0, 0, 0) 1 := lo _ _ (by simp) (by simp)
      have e2 : ∀ f, zSt Q D b z (2, 0, 0, 0) f = D (2, 0, 0, 0) f := fun f => lo _ _ (by simp) (by simp)
      unfold zLg
      rw [e1, zcs_fr e1 e2, zcs_fr e1 e2, lo (0, 0, 0, 0) 6 (by simp) (by simp)]
      refine ⟨a1, fun k k1 k2 => by rw [e2, e2, e2, e2]; exact a2 k k1 k2, a3, fun q => ?_⟩
      have hle : zcoA (zPt Q n c) (zSt Q D b z) ≤ zcoA Q D := by
        unfold zcoA
        rw [zPt_m (by decide)]
        refine sm_mono _ _ _ rfl (fun g g0 g1 => ?_)
        have hg := (hP.g ⟨g0, g1⟩).2
        unfold zcoG
        rw [zPt_m (m := 4) (by decide), zPt_1, if_neg (by omega)]
        refine sm_mono _ _ _ rfl (fun p _ _ => ?_)
        unfold zcoP
        rw [zPt_m (m := 4) (by decide), zPt_2, if_neg (by omega)]
        refine sm_mono _ _ _ rfl (fun o _ _ => ?_)
        unfold zco1
        rw [lo _ _ (by simp) (by simp)]
        exact Int.le_refl _
      have := a4 q
      omega
end ZTOP
