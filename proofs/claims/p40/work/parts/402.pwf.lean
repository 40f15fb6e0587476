/-! ===== the bounds of the Pier's numbers ===== -/
/-- how a message stands, by its transaction -/
def zsn (V : zS) (t p o : Int) : Int := if V (14, t, p, o) 6 < 0 then 0 else if V (211, 0, 0, 0) (V (14, t, p, o) 6) = 1 then 0 else if V (211, 0, 0, 0) (V (14, t, p, o) 6) = 2 then 1 else 2
def zV14 (V : zS) : Prop := ∀ t p o, (V (14, t, p, o) 5 = 0 ∨ V (14, t, p, o) 5 = 1) ∧ (-1 ≤ V (14, t, p, o) 6 ∧ V (14, t, p, o) 6 < 200) ∧ (-1 ≤ V (14, t, p, o) 0 ∧ V (14, t, p, o) 0 ≤ 9)
def zV19 (V : zS) : Prop := ∀ g p o, 0 ≤ V (19, g, p, 0) o ∧ V (19, g, p, 0) o ≤ 4
def zVsn (Q : zP) (V : zS) : Prop := ∀ t p o, inT Q t → inP Q t p → inM Q t p o → zsn V t p o = V (14, t, p, o) 4
def zV20 (Q : zP) (V : zS) : Prop := V (200, 0, 0, 0) 15 = Q 3 0 0 ∧ (0 ≤ V (200, 0, 0, 0) 2 ∧ V (200, 0, 0, 0) 2 ≤ 1000000)
def zVof (Q : zP) (V : zS) : Prop := (∀ g, 0 ≤ V (213, 0, 0, 0) g ∧ V (213, 0, 0, 0) g ≤ 3) ∧ ∀ g, inG Q g → V (213, 0, 0, 0) g = Q 4 g 0
def zV17 (V : zS) : Prop := ∀ g r, V (17, g, 0, 0) r = 0 ∨ V (17, g, 0, 0) r = 1
def zV8 (V : zS) : Prop := ∀ t, (V (8, t, 0, 0) 1 = 0 ∨ V (8, t, 0, 0) 1 = 1) ∧ (0 ≤ V (8, t, 0, 0) 3 ∧ V (8, t, 0, 0) 3 ≤ 200)
def zV212 (V : zS) : Prop := (∀ x, -1 ≤ V (212, 0, 0, 0) x ∧ V (212, 0, 0, 0) x < 200) ∧ ∀ x, 0 ≤ V (211, 0, 0, 0) x ∧ V (211, 0, 0, 0) x ≤ 2
def zV0 (V : zS) : Prop := (0 ≤ V (0, 0, 0, 0) 4 ∧ V (0, 0, 0, 0) 4 ≤ 200) ∧ (0 ≤ V (0, 0, 0, 0) 5 ∧ V (0, 0, 0, 0) 5 ≤ 80)
def zV10 (V : zS) : Prop := ∀ t x, 0 ≤ V (10, t, 0, 0) x ∧ V (10, t, 0, 0) x ≤ 80
def zWV (Q : zP) (V : zS) : Prop := zWS Q V ∧ (zV14 V ∧ zV19 V ∧ zVsn Q V) ∧ (zV20 Q V ∧ zVof Q V) ∧ (zV17 V ∧ zV8 V ∧ zV212 V) ∧ (zV0 V ∧ zV10 V)
theorem zst_o {S : zS} {k k' : zK} {f f' v : Int} (h : f' ≠ f) : zst S k f v k' f' = S k' f' := by
  rw [zst_at, if_neg (fun q => h q.2)]
section ZWV
variable {Q : zP} {V V' : zS}
theorem zWV.W (h : zWV Q V) : zWS Q V := h.1
theorem zWV.R (h : zWV Q V) : ∀ k f, zR (V k f) := h.1.1
theorem zWV.dr (h : zWV Q V) : ∀ t p o, V (14, t, p, o) 5 = 0 ∨ V (14, t, p, o) 5 = 1 := fun t p o => (h.2.1.1 t p o).1
theorem zWV.tr (h : zWV Q V) : ∀ t p o, -1 ≤ V (14, t, p, o) 6 ∧ V (14, t, p, o) 6 < 200 := fun t p o => (h.2.1.1 t p o).2.1
theorem zWV.ky (h : zWV Q V) : ∀ t p o, -1 ≤ V (14, t, p, o) 0 ∧ V (14, t, p, o) 0 ≤ 9 := fun t p o => (h.2.1.1 t p o).2.2
theorem zWV.st4 (h : zWV Q V) : ∀ g p o, 0 ≤ V (19, g, p, 0) o ∧ V (19, g, p, 0) o ≤ 4 := h.2.1.2.1
theorem zWV.sn (h : zWV Q V) {t p o : Int} (ht : inT Q t) (hp : inP Q t p) (ho : inM Q t p o) : zsn V t p o = V (14, t, p, o) 4 := h.2.1.2.2 t p o ht hp ho
theorem zsn_le {V : zS} {t p o : Int} : 0 ≤ zsn V t p o ∧ zsn V t p o ≤ 2 := by
  unfold zsn
  split
  · omega
  · split
    · omega
    · split <;> omega
theorem zWV.s2 (h : zWV Q V) {t p o : Int} (ht : inT Q t) (hp : inP Q t p) (ho : inM Q t p o) : 0 ≤ V (14, t, p, o) 4 ∧ V (14, t, p, o) 4 ≤ 2 := by
  rw [← h.sn ht hp ho]
  exact zsn_le
theorem zWV.gn (h : zWV Q V) : V (200, 0, 0, 0) 15 = Q 3 0 0 := h.2.2.1.1.1
theorem zWV.dw (h : zWV Q V) : 0 ≤ V (200, 0, 0, 0) 2 ∧ V (200, 0, 0, 0) 2 ≤ 1000000 := h.2.2.1.1.2
theorem zWV.of (h : zWV Q V) {g : Int} (hg : inG Q g) : V (213, 0, 0, 0) g = Q 4 g 0 := h.2.2.1.2.2 g hg
theorem zWV.in2 (h : zWV Q V) : ∀ g r, V (17, g, 0, 0) r = 0 ∨ V (17, g, 0, 0) r = 1 := h.2.2.2.1.1
theorem zWV.t8 (h : zWV Q V) : ∀ t, (V (8, t, 0, 0) 1 = 0 ∨ V (8, t, 0, 0) 1 = 1) ∧ (0 ≤ V (8, t, 0, 0) 3 ∧ V (8, t, 0, 0) 3 ≤ 200) := h.2.2.2.1.2.1
theorem zWV.op (h : zWV Q V) : ∀ x, -1 ≤ V (212, 0, 0, 0) x ∧ V (212, 0, 0, 0) x < 200 := h.2.2.2.1.2.2.1
theorem zWV.en (h : zWV Q V) : ∀ x, 0 ≤ V (211, 0, 0, 0) x ∧ V (211, 0, 0, 0) x ≤ 2 := h.2.2.2.1.2.2.2
theorem zWV.f0 (h : zWV Q V) : (0 ≤ V (0, 0, 0, 0) 4 ∧ V (0, 0, 0, 0) 4 ≤ 200) ∧ (0 ≤ V (0, 0, 0, 0) 5 ∧ V (0, 0, 0, 0) 5 ≤ 80) := h.2.2.2.2.1
theorem zWV.nx (h : zWV Q V) : ∀ t x, 0 ≤ V (10, t, 0, 0) x ∧ V (10, t, 0, 0) x ≤ 80 := h.2.2.2.2.2
/-- the pieces, by the kinds that they read -/
theorem zV14.fr {K : Nat → Bool} (hf : zfr K V V') (h14 : K 14 = false) (h : zV14 V) : zV14 V' := fun t p o => by
  rw [hf _ _ h14, hf _ _ h14, hf _ _ h14]
  exact h t p o
theorem zV19.fr {K : Nat → Bool} (hf : zfr K V V') (h19 : K 19 = false) (h : zV19 V) : zV19 V' := fun g p o => by
  rw [hf _ _ h19]
  exact h g p o
theorem zsn_fr {K : Nat → Bool} (hf : zfr K V V') (h14 : K 14 = false) (h211 : K 211 = false) {t p o : Int} : zsn V' t p o = zsn V t p o := by
  unfold zsn
  rw [hf (14, t, p, o) 6 h14, hf (211, 0, 0, 0) _ h211]
theorem zVsn.fr {K : Nat → Bool} (hf : zfr K V V') (h14 : K 14 = false) (h211 : K 211 = false) (h : zVsn Q V) : zVsn Q V' := fun t p o ht hp ho => by
  rw [hf _ _ h14, zsn_fr hf h14 h211]
  exact h t p o ht hp ho
theorem zV20.fr {K : Nat → Bool} (hf : zfr K V V') (h200 : K 200 = false) (h : zV20 Q V) : zV20 Q V' := by
  unfold zV20
  rw [hf _ _ h200, hf _ _ h200]
  exact h
theorem zVof.fr {K : Nat → Bool} (hf : zfr K V V') (h213 : K 213 = false) (h : zVof Q V) : zVof Q V' := ⟨fun g => by
  rw [hf _ _ h213]
  exact h.1 g, fun g hg => by
  rw [hf _ _ h213]
  exact h.2 g hg⟩
theorem zV17.fr {K : Nat → Bool} (hf : zfr K V V') (h17 : K 17 = false) (h : zV17 V) : zV17 V' := fun g r => by
  rw [hf _ _ h17]
  exact h g r
theorem zV8.fr {K : Nat → Bool} (hf : zfr K V V') (h8 : K 8 = false) (h : zV8 V) : zV8 V' := fun t => by
  rw [hf _ _ h8, hf _ _ h8]
  exact h t
theorem zV212.fr {K : Nat → Bool} (hf : zfr K V V') (h212 : K 212 = false) (h211 : K 211 = false) (h : zV212 V) : zV212 V' := ⟨fun x => by
  rw [hf _ _ h212]
  exact h.1 x, fun x => by
  rw [hf _ _ h211]
  exact h.2 x⟩
theorem zV0.fr {K : Nat → Bool} (hf : zfr K V V') (h0 : K 0 = false) (h : zV0 V) : zV0 V' := by
  unfold zV0
  rw [hf _ _ h0, hf _ _ h0]
  exact h
theorem zV10.fr {K : Nat → Bool} (hf : zfr K V V') (h10 : K 10 = false) (h : zV10 V) : zV10 V' := fun t x => by
  rw [hf _ _ h10]
  exact h t x
/-- one kind is written -/
theorem zfr_1 {n : Nat} {i j o f v : Int} : zfr (fun m => m == n) V (zst V (n, i, j, o) f v) := zfr.rf.st (by simp)
def kV (n : Nat) : Bool := !(n == 0 || (n == 8 || (n == 10 || (n == 14 || (n == 17 || (n == 19 || (n == 200 || (n == 211 || (n == 212 || n == 213)))))))))
theorem zWV.k (h : zWV Q V) (hf : zfr kV V V') (hW : zWS Q V') : zWV Q V' :=
  ⟨hW, ⟨h.2.1.1.fr hf rfl, h.2.1.2.1.fr hf rfl, h.2.1.2.2.fr hf rfl rfl⟩, ⟨h.2.2.1.1.fr hf rfl, h.2.2.1.2.fr hf rfl⟩, ⟨h.2.2.2.1.1.fr hf rfl, h.2.2.2.1.2.1.fr hf rfl, h.2.2.2.1.2.2.fr hf rfl rfl⟩, h.2.2.2.2.1.fr hf rfl, h.2.2.2.2.2.fr hf rfl⟩
theorem zfr_kV {n : Nat} {i j o f v : Int} (hn : kV n = true) : zfr kV V (zst V (n, i, j, o) f v) := zfr.rf.st hn
theorem zWV.s18 (h : zWV Q V) {g p f v : Int} (hv : zR v) (hf : (f = 5 ∨ f = 6) → 0 ≤ g ∧ g < Q 3 0 0 → 0 ≤ p ∧ p < Q 1 (Q 4 g 0) 0 → 0 ≤ v ∧ v ≤ Q 2 (Q 4 g 0) p) : zWV Q (zst V (18, g, p, 0) f v) := h.k (zfr_kV rfl) (h.1.s18 hv hf)
theorem zWV.s20 (h : zWV Q V) {g p f v : Int} (hf : (0 ≤ v ∧ v ≤ 3) ∧ (V (19, g, p, 0) f = 1 → 1 ≤ v)) : zWV Q (zst V (20, g, p, 0) f v) := h.k (zfr_kV rfl) (h.1.s20 hf)
theorem zWV.s21 (h : zWV Q V) {g p f v : Int} (hf : 0 ≤ v ∧ v ≤ 20000) : zWV Q (zst V (21, g, p, 0) f v) := h.k (zfr_kV rfl) (h.1.s21 hf)
theorem zWV.s11 (h : zWV Q V) {t p f v : Int} (hv : zR v) (hf : 0 ≤ t ∧ t < Q 0 0 0 → 0 ≤ p ∧ p < Q 1 t 0 → 0 ≤ v ∧ v ≤ Q 2 t p) : zWV Q (zst V (11, t, p, 0) f v) := h.k (zfr_kV rfl) (h.1.s11 hv hf)
theorem zWV.s1 (h : zWV Q V) {f v : Int} (hv : zR v) (hf : f = 1 → 0 ≤ v ∧ v ≤ 200) : zWV Q (zst V (1, 0, 0, 0) f v) := h.k (zfr_kV rfl) (h.1.s1 hv hf)
theorem zWV.s2w (h : zWV Q V) {f v : Int} (hv : zR v) : zWV Q (zst V (2, 0, 0, 0) f v) := h.k (zfr_kV rfl) (h.1.sf hv (by decide))
theorem zWV.lw (h : zWV Q V) {a b c d e : Int} (ha : zR a) (hb : zR b) (hc : zR c) (hd : zR d) (he : zR e) : zWV Q (zlw V a b c d e) := h.k (zlw_fr rfl rfl) (zlw_W ha hb hc hd he h.1)
theorem zWV.s19 (h : zWV Q V) {g p f v : Int} (hv : 0 ≤ v ∧ v ≤ 4) (hf : v = 1 → 1 ≤ V (20, g, p, 0) f) : zWV Q (zst V (19, g, p, 0) f v) := by
  have hz : zfr (fun m => m == 19) V (zst V (19, g, p, 0) f v) := zfr_1
  refine ⟨h.1.s19 ⟨by omega, by omega⟩ hf, ⟨h.2.1.1.fr hz rfl, fun g' p' o' => ?_, h.2.1.2.2.fr hz rfl rfl⟩, ⟨h.2.2.1.1.fr hz rfl, h.2.2.1.2.fr hz rfl⟩, ⟨h.2.2.2.1.1.fr hz rfl, h.2.2.2.1.2.1.fr hz rfl, h.2.2.2.1.2.2.fr hz rfl rfl⟩, h.2.2.2.2.1.fr hz rfl, h.2.2.2.2.2.fr hz rfl⟩
  rw [zst_at]
  split
  · exact hv
  · exact h.st4 g' p' o'
theorem zWV.s14_5 (h : zWV Q V) {t p o v : Int} (hv : v = 0 ∨ v = 1) : zWV Q (zst V (14, t, p, o) 5 v) := by
  have hz : zfr (fun m => m == 14) V (zst V (14, t, p, o) 5 v) := zfr_1
  refine ⟨h.1.s14 ⟨by omega, by omega⟩ (fun q => by omega), ⟨fun t' p' o' => ⟨?_, ?_, ?_⟩, h.2.1.2.1.fr hz rfl, fun t' p' o' a b c => ?_⟩, ⟨h.2.2.1.1.fr hz rfl, h.2.2.1.2.fr hz rfl⟩, ⟨h.2.2.2.1.1.fr hz rfl, h.2.2.2.1.2.1.fr hz rfl, h.2.2.2.1.2.2.fr hz rfl rfl⟩, h.2.2.2.2.1.fr hz rfl, h.2.2.2.2.2.fr hz rfl⟩
  · rw [zst_at]
    split
    · exact hv
    · exact h.dr t' p' o'
  · rw [zst_o (show (6 : Int) ≠ 5 by decide)]
    exact h.tr t' p' o'
  · rw [zst_o (show (0 : Int) ≠ 5 by decide)]
    exact h.ky t' p' o'
  · rw [zst_o (show (4 : Int) ≠ 5 by decide)]
    unfold zsn
    rw [zst_o (show (6 : Int) ≠ 5 by decide), zst_k _ _ _ _ (by simp)]
    exact h.sn a b c
theorem zWV.s200_2 (h : zWV Q V) {v : Int} (hv : 0 ≤ v ∧ v ≤ 1000000) : zWV Q (zst V (200, 0, 0, 0) 2 v) := by
  have hz : zfr (fun m => m == 200) V (zst V (200, 0, 0, 0) 2 v) := zfr_1
  refine ⟨h.1.sf ⟨by omega, by omega⟩ (by decide), ⟨h.2.1.1.fr hz rfl, h.2.1.2.1.fr hz rfl, h.2.1.2.2.fr hz rfl rfl⟩, ⟨⟨?_, ?_⟩, h.2.2.1.2.fr hz rfl⟩, ⟨h.2.2.2.1.1.fr hz rfl, h.2.2.2.1.2.1.fr hz rfl, h.2.2.2.1.2.2.fr hz rfl rfl⟩, h.2.2.2.2.1.fr hz rfl, h.2.2.2.2.2.fr hz rfl⟩
  · rw [zst_f _ _ _ (by decide)]
    exact h.gn
  · rw [zst_s]
    exact hv
theorem zWV.s17 (h : zWV Q V) {g r v : Int} (hv : v = 0 ∨ v = 1) : zWV Q (zst V (17, g, 0, 0) r v) := by
  have hz : zfr (fun m => m == 17) V (zst V (17, g, 0, 0) r v) := zfr_1
  refine ⟨h.1.sf ⟨by omega, by omega⟩ (by decide), ⟨h.2.1.1.fr hz rfl, h.2.1.2.1.fr hz rfl, h.2.1.2.2.fr hz rfl rfl⟩, ⟨h.2.2.1.1.fr hz rfl, h.2.2.1.2.fr hz rfl⟩, ⟨fun g' r' => ?_, h.2.2.2.1.2.1.fr hz rfl, h.2.2.2.1.2.2.fr hz rfl rfl⟩, h.2.2.2.2.1.fr hz rfl, h.2.2.2.2.2.fr hz rfl⟩
  rw [zst_at]
  split
  · exact hv
  · exact h.in2 g' r'
theorem zWV.s8_3 (h : zWV Q V) {t v : Int} (hv : 0 ≤ v ∧ v ≤ 200) : zWV Q (zst V (8, t, 0, 0) 3 v) := by
  have hz : zfr (fun m => m == 8) V (zst V (8, t, 0, 0) 3 v) := zfr_1
  refine ⟨h.1.sf ⟨by omega, by omega⟩ (by decide), ⟨h.2.1.1.fr hz rfl, h.2.1.2.1.fr hz rfl, h.2.1.2.2.fr hz rfl rfl⟩, ⟨h.2.2.1.1.fr hz rfl, h.2.2.1.2.fr hz rfl⟩, ⟨h.2.2.2.1.1.fr hz rfl, fun t' => ⟨?_, ?_⟩, h.2.2.2.1.2.2.fr hz rfl rfl⟩, h.2.2.2.2.1.fr hz rfl, h.2.2.2.2.2.fr hz rfl⟩
  · rw [zst_o (show (1 : Int) ≠ 3 by decide)]
    exact (h.t8 t').1
  · rw [zst_at]
    split
    · exact hv
    · exact (h.t8 t').2
theorem zWV.s8_1 (h : zWV Q V) {t v : Int} (hv : v = 0 ∨ v = 1) : zWV Q (zst V (8, t, 0, 0) 1 v) := by
  have hz : zfr (fun m => m == 8) V (zst V (8, t, 0, 0) 1 v) := zfr_1
  refine ⟨h.1.sf ⟨by omega, by omega⟩ (by decide), ⟨h.2.1.1.fr hz rfl, h.2.1.2.1.fr hz rfl, h.2.1.2.2.fr hz rfl rfl⟩, ⟨h.2.2.1.1.fr hz rfl, h.2.2.1.2.fr hz rfl⟩, ⟨h.2.2.2.1.1.fr hz rfl, fun t' => ⟨?_, ?_⟩, h.2.2.2.1.2.2.fr hz rfl rfl⟩, h.2.2.2.2.1.fr hz rfl, h.2.2.2.2.2.fr hz rfl⟩
  · rw [zst_at]
    split
    · exact hv
    · exact (h.t8 t').1
  · rw [zst_o (show (3 : Int) ≠ 1 by decide)]
    exact (h.t8 t').2
theorem zWV.s10 (h : zWV Q V) {t x v : Int} (hv : 0 ≤ v ∧ v ≤ 80) : zWV Q (zst V (10, t, 0, 0) x v) := by
  have hz : zfr (fun m => m == 10) V (zst V (10, t, 0, 0) x v) := zfr_1
  refine ⟨h.1.sf ⟨by omega, by omega⟩ (by decide), ⟨h.2.1.1.fr hz rfl, h.2.1.2.1.fr hz rfl, h.2.1.2.2.fr hz rfl rfl⟩, ⟨h.2.2.1.1.fr hz rfl, h.2.2.1.2.fr hz rfl⟩, ⟨h.2.2.2.1.1.fr hz rfl, h.2.2.2.1.2.1.fr hz rfl, h.2.2.2.1.2.2.fr hz rfl rfl⟩, h.2.2.2.2.1.fr hz rfl, fun t' x' => ?_⟩
  rw [zst_at]
  split
  · exact hv
  · exact h.nx t' x'
theorem zWV.s212 (h : zWV Q V) {x v : Int} (hv : -1 ≤ v ∧ v < 200) : zWV Q (zst V (212, 0, 0, 0) x v) := by
  have hz : zfr (fun m => m == 212) V (zst V (212, 0, 0, 0) x v) := zfr_1
  refine ⟨h.1.sf ⟨by omega, by omega⟩ (by decide), ⟨h.2.1.1.fr hz rfl, h.2.1.2.1.fr hz rfl, h.2.1.2.2.fr hz rfl rfl⟩, ⟨h.2.2.1.1.fr hz rfl, h.2.2.1.2.fr hz rfl⟩, ⟨h.2.2.2.1.1.fr hz rfl, h.2.2.2.1.2.1.fr hz rfl, ⟨fun x' => ?_, fun x' => ?_⟩⟩, h.2.2.2.2.1.fr hz rfl, h.2.2.2.2.2.fr hz rfl⟩
  · rw [zst_at]
    split
    · exact hv
    · exact h.op x'
  · rw [zst_k _ _ _ _ (by simp)]
    exact h.en x'
theorem zWV.s0 (h : zWV Q V) {f v : Int} (hv : zR v) (hf : (f = 6 → 0 ≤ v ∧ v ≤ 9999) ∧ (f = 7 → 1 ≤ v ∧ v ≤ 20) ∧ (f = 8 → 1 ≤ v ∧ v ≤ 50)) (h4 : f = 4 → 0 ≤ v ∧ v ≤ 200) (h5 : f = 5 → 0 ≤ v ∧ v ≤ 80) : zWV Q (zst V (0, 0, 0, 0) f v) := by
  have hz : zfr (fun m => m == 0) V (zst V (0, 0, 0, 0) f v) := zfr_1
  refine ⟨h.1.s0 hv hf, ⟨h.2.1.1.fr hz rfl, h.2.1.2.1.fr hz rfl, h.2.1.2.2.fr hz rfl rfl⟩, ⟨h.2.2.1.1.fr hz rfl, h.2.2.1.2.fr hz rfl⟩, ⟨h.2.2.2.1.1.fr hz rfl, h.2.2.2.1.2.1.fr hz rfl, h.2.2.2.1.2.2.fr hz rfl rfl⟩, ⟨?_, ?_⟩, h.2.2.2.2.2.fr hz rfl⟩
  · rw [zst_at]
    split
    · next q => exact h4 q.2.symm
    · exact h.f0.1
  · rw [zst_at]
    split
    · next q => exact h5 q.2.symm
    · exact h.f0.2
/-! what the methods do keeps them -/
theorem zfg_V {g p o : Int} (h : zWV Q V) : zWV Q (zfg V g p o) := (h.s19 ⟨by omega, by omega⟩ (fun q => by omega)).s20 ⟨by omega, fun q => by rw [zst_s] at q; omega⟩
theorem zk1_V {g p : Int} {a n : Int} (han : a ≤ n) (h : zWV Q V) : zWV Q (lp (zk1 Q g p) a n V) := by
  refine lp_ind (fun _ s => zWV Q s) _ a n V han rfl h (fun o s _ _ hs => ?_)
  unfold zk1
  split
  · exact zfg_V hs
  · exact hs
theorem zmk_V (hP : zWP Q) {g p : Int} (hg : 0 ≤ g ∧ g < Q 3 0 0) (hp : 0 ≤ p ∧ p < Q 1 (Q 4 g 0) 0) (n : Nat) (h : zWV Q V) : zWV Q (zmk Q g p n V) := h.k ((zmk_fr (K := fun m => m == 18) rfl n V).mono (fun m hm => by simp at hm; subst hm; rfl)) (zmk_W hP hg hp n V h.1)
theorem zku_V (hP : zWP Q) {g p : Int} (hg : 0 ≤ g ∧ g < Q 3 0 0) (hp : 0 ≤ p ∧ p < Q 1 (Q 4 g 0) 0) (h : zWV Q V) : zWV Q (zku Q V g p) := by
  have hm := hP.m (hP.g hg) hp
  have h1 : zWV Q (lp (zk1 Q g p) 0 (Q 2 (Q 4 g 0) p) V) := zk1_V hm.1 h
  refine h1.k ?_ (zku_W hP hg hp h.1)
  unfold zku
  refine zfr.st (zfr.mono (zmk_fr (K := fun m => m == 18) rfl _ _) (fun m hm => by simp at hm; subst hm; rfl)) rfl
theorem zkG_V (hP : zWP Q) {g : Int} (hg : 0 ≤ g ∧ g < Q 3 0 0) (h : zWV Q V) : zWV Q (zkG Q g V) := by
  have hn := hP.t (hP.g hg)
  exact lp_ind (fun _ s => zWV Q s) _ 0 _ V (by omega) rfl h (fun p s h1 h2 hs => zku_V hP hg ⟨h1, h2⟩ hs)
theorem zkA_V (hP : zWP Q) (h : zWV Q V) : zWV Q (zkA Q V) := by
  have hn := hP.n
  exact lp_ind (fun _ s => zWV Q s) _ 0 _ V (by omega) rfl h (fun g s h1 h2 hs => zkG_V hP ⟨h1, h2⟩ hs)
end ZWV
/-! names for the Pier's memory; reads with their values -/
theorem G_nameV {Γ : zCx} {R : Room} {cc : ByteArray} {nL : Nat} {own : String} {ad : zK → Nat} {nc ns pc : Nat} {lv : List (Nat × Value)} {st : List Value} {Δ : zDl} {Q : zP} {V : zS} {X : zMem} (kk : ∀ T : zS, T = V → G Γ R cc nL own ad (pm Δ ad Q T X) nc ns pc lv st) : G Γ R cc nL own ad (pm Δ ad Q V X) nc ns pc lv st := kk V rfl
section ZRDV
variable {Γ : zCx} {R : Room} {cc : ByteArray} {nL : Nat} {own : String} {ad : zK → Nat} {M : zMem} {nc ns pc : Nat} {lv : List (Nat × Value)} {st : List Value}
theorem G_ialdV {key : zK} {n : Nat} {F : Int → Int} {a : Int} (v : Int) (hd : decode cc pc = .ok (.iaload, 1)) (hM : M key = some (.inl ((z_d Γ).2.1 0, n, .inl (zAi F)))) (ha : 0 ≤ a ∧ a < n ∧ zR a) (hv : F a = v) (kk : G Γ R cc nL own ad M nc ns (pc + 1) lv (.int (zI v) :: st)) : G Γ R cc nL own ad M nc ns pc lv (.int (zI a) :: .ref (ad key) :: st) := G_iald hd hM ha (by rw [hv]; exact kk)
theorem G_zaldV {key : zK} {n : Nat} {F : Int → Int} {a : Int} (v : Int) (hd : decode cc pc = .ok (.baload, 1)) (hM : M key = some (.inl ((z_d Γ).2.1 1, n, .inl (zAi F)))) (ha : 0 ≤ a ∧ a < n ∧ zR a) (hv : F a = v) (kk : G Γ R cc nL own ad M nc ns (pc + 1) lv (.int (zI v) :: st)) : G Γ R cc nL own ad M nc ns pc lv (.int (zI a) :: .ref (ad key) :: st) := G_zald hd hM ha (by rw [hv]; exact kk)
theorem G_alenV {key : zK} {cA : ClassId} {n : Nat} {x : (Nat → Int32) ⊕ ((Nat → Int64) ⊕ ((Nat → UInt32) ⊕ ((Nat → UInt64) ⊕ (Nat → Option Nat))))} {t : Nat} {ty : FieldType} (v : Int) (ht : (zT (z_d Γ).2.1)[t]? = some (cA, ty)) (hd : decode cc pc = .ok (.arraylength, 1)) (hM : M key = some (.inl (cA, n, x))) (hv : (n : Int) = v) (kk : G Γ R cc nL own ad M nc ns (pc + 1) lv (.int (zI v) :: st)) : G Γ R cc nL own ad M nc ns pc lv (.ref (ad key) :: st) := G_alen ht hd hM (by rw [hv]; exact kk)
theorem G_getfV {idx ci k : Nat} {Cn : String} {T : u_T} {N : Nat} (hF : zFl own idx ci k Cn T N) {key : zK} {fs : List Value} {v : Value} {w : Int} (hd : decode cc pc = .ok (.getfield idx, 3)) (hM : M key = some (.inr (ci, fs))) (hv : fs[k]? = some v) (hw : v = .int (zI w)) (kk : G Γ R cc nL own ad M nc ns (pc + 3) lv (.int (zI w) :: st)) : G Γ R cc nL own ad M nc ns pc lv (.ref (ad key) :: st) := G_getf hF hd hM hv (by rw [hw]; exact kk)
end ZRDV
