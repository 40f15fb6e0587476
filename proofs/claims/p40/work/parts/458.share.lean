/-! ===== shares: how many partitions each reader has ===== -/
/-- six readers, in or not -/
def zqs (x0 x1 x2 x3 x4 x5 : Int) : zS := fun _ f => if f = 0 then x0 else if f = 1 then x1 else if f = 2 then x2 else if f = 3 then x3 else if f = 4 then x4 else x5
def zqP (K : Int) : zP := fun _ _ _ => K
def zqc (x0 x1 x2 x3 x4 x5 K r : Int) : Int := sm (fun p => if zsr (zqP K) (zqs x0 x1 x2 x3 x4 x5) 0 p (-1) = r then 1 else 0) 0 K
def zqn (x0 x1 x2 x3 x4 x5 : Int) : Int := x0 + x1 + x2 + x3 + x4 + x5
def zqB (x0 x1 x2 x3 x4 x5 K r : Int) : Bool := decide ((zqs x0 x1 x2 x3 x4 x5 (0, 0, 0, 0) r = 1 → 0 < zqn x0 x1 x2 x3 x4 x5 ∧ K / zqn x0 x1 x2 x3 x4 x5 ≤ zqc x0 x1 x2 x3 x4 x5 K r ∧ zqc x0 x1 x2 x3 x4 x5 K r ≤ (K + zqn x0 x1 x2 x3 x4 x5 - 1) / zqn x0 x1 x2 x3 x4 x5) ∧ (zqs x0 x1 x2 x3 x4 x5 (0, 0, 0, 0) r = 0 → zqc x0 x1 x2 x3 x4 x5 K r = 0) ∧ (r < K → (zsr (zqP K) (zqs x0 x1 x2 x3 x4 x5) 0 r (-1) < 0 ↔ zqn x0 x1 x2 x3 x4 x5 = 0)))
theorem zqT : (([0, 1] : List Int).all fun x0 => ([0, 1] : List Int).all fun x1 => ([0, 1] : List Int).all fun x2 => ([0, 1] : List Int).all fun x3 => ([0, 1] : List Int).all fun x4 => ([0, 1] : List Int).all fun x5 => ([1, 2, 3, 4] : List Int).all fun K => ([0, 1, 2, 3, 4, 5] : List Int).all fun r => zqB x0 x1 x2 x3 x4 x5 K r) = true := by decide +kernel
section ZSHR
variable {P : zP} {V : zS} {g p : Int}
theorem zqs_at {x0 x1 x2 x3 x4 x5 : Int} {k : zK} {F : Int → Int} (h0 : F 0 = x0) (h1 : F 1 = x1) (h2 : F 2 = x2) (h3 : F 3 = x3) (h4 : F 4 = x4) (h5 : F 5 = x5) {r : Int} (r0 : 0 ≤ r) (r6 : r < 6) : zqs x0 x1 x2 x3 x4 x5 k r = F r := by
  have hr : r = 0 ∨ r = 1 ∨ r = 2 ∨ r = 3 ∨ r = 4 ∨ r = 5 := by omega
  rcases hr with rfl | rfl | rfl | rfl | rfl | rfl
  · exact h0.symm
  · exact h1.symm
  · exact h2.symm
  · exact h3.symm
  · exact h4.symm
  · exact h5.symm
theorem zsr_q {K : Int} (hK : P 1 (P 4 g 0) 0 = K) : zsr P V g p (-1) = zsr (zqP K) (zqs (V (17, g, 0, 0) 0) (V (17, g, 0, 0) 1) (V (17, g, 0, 0) 2) (V (17, g, 0, 0) 3) (V (17, g, 0, 0) 4) (V (17, g, 0, 0) 5)) 0 p (-1) := by
  generalize hS : zqs (V (17, g, 0, 0) 0) (V (17, g, 0, 0) 1) (V (17, g, 0, 0) 2) (V (17, g, 0, 0) 3) (V (17, g, 0, 0) 4) (V (17, g, 0, 0) 5) = S
  have hin : ∀ r : Int, 0 ≤ r → r < 6 → (zin S 0 r (-1) ↔ zin V g r (-1)) := fun r r0 r6 => by
    show ¬ S (17, 0, 0, 0) r = _ ↔ ¬ V (17, g, 0, 0) r = _
    rw [← hS, zqs_at (F := V (17, g, 0, 0)) rfl rfl rfl rfl rfl rfl r0 r6]
  have hc : zcr S 0 (-1) = zcr V g (-1) := sm_congr _ _ _ rfl (fun r r0 r6 => by
    show (if zin S 0 r (-1) then (1 : Int) else 0) = if zin V g r (-1) then 1 else 0
    by_cases hz : zin V g r (-1)
    · rw [if_pos hz, if_pos ((hin r r0 r6).mpr hz)]
    · rw [if_neg hz, if_neg (fun q => hz ((hin r r0 r6).mp q))])
  have hN : ∀ (n : Nat) (a b r s k : Int), 0 ≤ r → r + n ≤ 6 → zsN S 0 (-1) p a b n r s k = zsN V g (-1) p a b n r s k := by
    intro n
    induction n with
    | zero => intro a b r s k _ _; rfl
    | succ n ih =>
      intro a b r s k r0 r6
      by_cases hz : zin V g r (-1)
      · rw [zsN_in n hz rfl, zsN_in n ((hin r r0 (by omega)).mpr hz) rfl, ih _ _ _ _ _ (by omega) (by omega)]
      · rw [zsN_out n hz, zsN_out n (fun q => hz ((hin r r0 (by omega)).mp q)), ih _ _ _ _ _ (by omega) (by omega)]
  have e : zqP K 1 (zqP K 4 0 0) 0 = K := rfl
  unfold zsr
  rw [hc, hK, e, hN 6 _ _ 0 0 0 (by omega) (by omega)]
/-- how many are in -/
def znin (V : zS) (g : Int) : Int := sm (fun r => V (17, g, 0, 0) r) 0 6
theorem znin_q : znin V g = zqn (V (17, g, 0, 0) 0) (V (17, g, 0, 0) 1) (V (17, g, 0, 0) 2) (V (17, g, 0, 0) 3) (V (17, g, 0, 0) 4) (V (17, g, 0, 0) 5) := by
  have e : znin V g = V (17, g, 0, 0) 0 + (V (17, g, 0, 0) 1 + (V (17, g, 0, 0) 2 + (V (17, g, 0, 0) 3 + (V (17, g, 0, 0) 4 + (V (17, g, 0, 0) 5 + 0))))) := rfl
  rw [e]
  unfold zqn
  omega
/-- how many partitions a reader has, below n -/
def zpc1 (V : zS) (g r : Int) (p : Int) : Int := if V (18, g, p, 0) 4 = r then 1 else 0
theorem zC_share (h : zJ P V) (hg : inG P g) {r : Int} (hr : 0 ≤ r ∧ r < 6) : (V (17, g, 0, 0) r = 1 → 0 < znin V g ∧ P 1 (P 4 g 0) 0 / znin V g ≤ sm (zpc1 V g r) 0 (P 1 (P 4 g 0) 0) ∧ sm (zpc1 V g r) 0 (P 1 (P 4 g 0) 0) ≤ (P 1 (P 4 g 0) 0 + znin V g - 1) / znin V g) ∧ (V (17, g, 0, 0) r = 0 → sm (zpc1 V g r) 0 (P 1 (P 4 g 0) 0) = 0) ∧ (r < P 1 (P 4 g 0) 0 → (V (18, g, r, 0) 4 < 0 ↔ znin V g = 0)) := by
  have hK := h.wp.t (h.wp.g hg)
  have h2 := h.wv.in2 g
  have hb := List.all_eq_true.mp (List.all_eq_true.mp (List.all_eq_true.mp (List.all_eq_true.mp (List.all_eq_true.mp (List.all_eq_true.mp (List.all_eq_true.mp (List.all_eq_true.mp zqT (V (17, g, 0, 0) 0) (by simp; exact h2 0)) (V (17, g, 0, 0) 1) (by simp; exact h2 1)) (V (17, g, 0, 0) 2) (by simp; exact h2 2)) (V (17, g, 0, 0) 3) (by simp; exact h2 3)) (V (17, g, 0, 0) 4) (by simp; exact h2 4)) (V (17, g, 0, 0) 5) (by simp; exact h2 5)) (P 1 (P 4 g 0) 0) (by simp; omega)) r (by simp; omega)
  unfold zqB at hb
  have hb := of_decide_eq_true hb
  have ec : zqc (V (17, g, 0, 0) 0) (V (17, g, 0, 0) 1) (V (17, g, 0, 0) 2) (V (17, g, 0, 0) 3) (V (17, g, 0, 0) 4) (V (17, g, 0, 0) 5) (P 1 (P 4 g 0) 0) r = sm (zpc1 V g r) 0 (P 1 (P 4 g 0) 0) := by
    unfold zqc
    refine sm_congr _ _ _ rfl (fun p p1 p2 => ?_)
    rw [← zsr_q (P := P) (V := V) (g := g) (p := p) rfl, ← h.xy.1 g p hg ⟨p1, p2⟩]
    rfl
  rw [zqs_at (F := V (17, g, 0, 0)) rfl rfl rfl rfl rfl rfl hr.1 hr.2, ec, ← znin_q] at hb
  refine ⟨hb.1, hb.2.1, fun hl => ?_⟩
  have h3 := hb.2.2 hl
  rw [← zsr_q (P := P) (V := V) (g := g) (p := r) rfl, ← h.xy.1 g r hg ⟨hr.1, hl⟩] at h3
  exact h3
theorem zC_reader (h : zJ P V) (hg : inG P g) (hp : inQ P g p) : (V (18, g, p, 0) 4 < 0 ↔ znin V g = 0) ∧ (-1 ≤ V (18, g, p, 0) 4 ∧ V (18, g, p, 0) 4 ≤ 5) ∧ (0 ≤ V (18, g, p, 0) 4 → V (17, g, 0, 0) (V (18, g, p, 0) 4) = 1) := by
  have hK := h.wp.t (h.wp.g hg)
  have hp1 := hp.1
  have hp2 := hp.2
  have e := h.xy.1 g p hg hp
  have hb : -1 ≤ V (18, g, p, 0) 4 ∧ V (18, g, p, 0) 4 ≤ 5 := by
    rw [e]
    unfold zsr
    split
    · omega
    · exact zsN_le 6 0 0 0 (by omega) (by omega)
  refine ⟨(zC_share h hg (r := p) ⟨hp1, by omega⟩).2.2 hp2, hb, fun h0 => ?_⟩
  have h5 := zsr_in (P := P) (S := V) (g := g) (p := p) (c := -1) (by omega)
  rw [← e] at h5
  have := (zin_17 h0).mp h5
  have := h.wv.in2 g (V (18, g, p, 0) 4)
  omega
theorem znin_R (h : zJ P V) : 0 ≤ znin V g ∧ znin V g ≤ 6 := by
  have h2 := fun r => h.wv.in2 g r
  have := sm_bound (f := fun r => V (17, g, 0, 0) r) (m := 1) (by omega) _ 0 6 (by omega) rfl (fun o _ _ => by show 0 ≤ V (17, g, 0, 0) o ∧ V (17, g, 0, 0) o ≤ 1; have := h2 o; omega)
  unfold znin
  omega
end ZSHR
/-! ===== means: 3.0 at most ===== -/
def zd3B (a b : Nat) : Bool := decide (a ≤ 3 * (b + 1) → ¬ (0 : Int32) < Op.cmpValue (FP.dcmp (FP.ddiv (FP.i2d (Int32.ofInt a)) (FP.i2d (Int32.ofInt (b + 1)))) 4613937818241073152) .l)
theorem zd3T : ((List.range 241).all fun a => (List.range 80).all fun b => zd3B a b) = true := by decide +kernel
theorem zd3_0 : ¬ (0 : Int32) < Op.cmpValue (FP.dcmp FP.dconst0 4613937818241073152) .l := by decide +kernel
theorem zmd_3 {s c : Int} (hs : 0 ≤ s ∧ s ≤ 240) (hc : 0 ≤ c ∧ c ≤ 80) (h3 : s ≤ 3 * c) : ¬ (0 : Int32) < Op.cmpValue (FP.dcmp (zmd s c) 4613937818241073152) .l := by
  unfold zmd
  by_cases h0 : c = 0
  · rw [if_pos h0]
    exact zd3_0
  · rw [if_neg h0]
    have h := List.all_eq_true.mp (List.all_eq_true.mp zd3T s.toNat (List.mem_range.mpr (by omega))) (c - 1).toNat (List.mem_range.mpr (by omega))
    have h2 := of_decide_eq_true h (by omega)
    rw [show ((s.toNat : Nat) : Int) = s by omega, show (((c - 1).toNat : Nat) : Int) + 1 = c by omega] at h2
    exact h2
