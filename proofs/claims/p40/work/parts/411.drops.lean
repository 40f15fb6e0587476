/-! ===== the Pier: shares, drops, cleaning ===== -/
theorem G_ior01 {Γ : zCx} {R : Room} {cc : ByteArray} {nL : Nat} {own : String} {ad : zK → Nat} {M : zMem} {nc ns pc : Nat} {lv : List (Nat × Value)} {st : List Value} {x y : Int} (hd : decode cc pc = .ok (.ior, 1)) (hx : x = 0 ∨ x = 1) (hy : y = 0 ∨ y = 1) (kk : G Γ R cc nL own ad M nc ns (pc + 1) lv (.int (zI (max x y)) :: st)) : G Γ R cc nL own ad M nc ns pc lv (.int (zI y) :: .int (zI x) :: st) := fun C H locs ls h1 h2 h3 h4 =>
  lv_ior C.1 C.2.1 hd (by
    have e : zI x ||| zI y = zI (max x y) := by rcases hx with rfl | rfl <;> rcases hy with rfl | rfl <;> decide
    rw [e]
    exact kk C H locs ls h1 h2 h3 h4)
/-! shares -/
theorem zin_17 {V : zS} {g r : Int} (h : 0 ≤ r) : zin V g r (-1) ↔ ¬ V (17, g, 0, 0) r = 0 := by
  show ¬ V (17, g, 0, 0) r = (if r = -1 then 1 else 0) ↔ _
  rw [if_neg (by omega)]
theorem zcr_17 {V : zS} {g : Int} : zcr V g (-1) = sm (fun r => if V (17, g, 0, 0) r = 0 then 0 else 1) 0 6 := by
  unfold zcr
  refine sm_congr _ _ _ rfl (fun r h1 h2 => ?_)
  by_cases h : V (17, g, 0, 0) r = 0
  · rw [if_pos h, if_neg (fun q => (zin_17 h1).mp q h)]
  · rw [if_neg h, if_pos ((zin_17 h1).mpr h)]
theorem zits_t : ((List.range 5).all fun N => (List.range 7).all fun m => (List.range 7).all fun k => decide (1 ≤ N → 1 ≤ m → k < m → ((N : Int) - ((k : Int) * ((N : Int) / (m : Int)) + min (k : Int) ((N : Int) % (m : Int))) + ((m : Int) - (k : Int)) - 1) / ((m : Int) - (k : Int)) = if (k : Int) < (N : Int) % (m : Int) then (N : Int) / (m : Int) + 1 else (N : Int) / (m : Int))) = true := by decide +kernel
theorem zits2_t : ((List.range 5).all fun N => (List.range 7).all fun m => (List.range 7).all fun k => decide (1 ≤ N → 1 ≤ m → k < m → ((k : Int) * ((N : Int) / (m : Int)) + min (k : Int) ((N : Int) % (m : Int))) ≤ (N : Int))) = true := by decide +kernel
theorem zits2 {N m k : Int} (hN : 1 ≤ N ∧ N ≤ 4) (hm : 1 ≤ m ∧ m ≤ 6) (hk : 0 ≤ k ∧ k < m) : k * (N / m) + min k (N % m) ≤ N := by
  have h := of_decide_eq_true (List.all_eq_true.mp (List.all_eq_true.mp (List.all_eq_true.mp zits2_t N.toNat (List.mem_range.mpr (by omega))) m.toNat (List.mem_range.mpr (by omega))) k.toNat (List.mem_range.mpr (by omega))) (by omega) (by omega) (by omega)
  rw [show ((N.toNat : Nat) : Int) = N by omega, show ((m.toNat : Nat) : Int) = m by omega, show ((k.toNat : Nat) : Int) = k by omega] at h
  exact h
theorem zits {N m k : Int} (hN : 1 ≤ N ∧ N ≤ 4) (hm : 1 ≤ m ∧ m ≤ 6) (hk : 0 ≤ k ∧ k < m) : (N - (k * (N / m) + min k (N % m)) + (m - k) - 1) / (m - k) = if k < N % m then N / m + 1 else N / m := by
  have h := of_decide_eq_true (List.all_eq_true.mp (List.all_eq_true.mp (List.all_eq_true.mp zits_t N.toNat (List.mem_range.mpr (by omega))) m.toNat (List.mem_range.mpr (by omega))) k.toNat (List.mem_range.mpr (by omega))) (by omega) (by omega) (by omega)
  rw [show ((N.toNat : Nat) : Int) = N by omega, show ((m.toNat : Nat) : Int) = m by omega, show ((k.toNat : Nat) : Int) = k by omega] at h
  exact h
/-- the loop of share: readers from r on, a partitions given, w readers left -/
def zShI (Q : zP) (V : zS) (g p r a w : Int) : Prop := (0 ≤ r ∧ r ≤ 6) ∧ ((0 ≤ w ∧ w ≤ 6) ∧ (0 ≤ a ∧ a ≤ 30)) ∧ sm (fun r => if V (17, g, 0, 0) r = 0 then 0 else 1) r 6 = w ∧ ((zcr V g (-1) = 0 ∧ w = 0) ∨ (1 ≤ zcr V g (-1) ∧ ∃ k, 0 ≤ k ∧ a = k * (Q 1 (Q 4 g 0) 0 / zcr V g (-1)) + min k (Q 1 (Q 4 g 0) 0 % zcr V g (-1)) ∧ w = zcr V g (-1) - k ∧ zsN V g (-1) p (Q 1 (Q 4 g 0) 0 / zcr V g (-1)) (Q 1 (Q 4 g 0) 0 % zcr V g (-1)) (6 - r).toNat r a k = zsr Q V g p (-1)))
section ZSHI
variable {Q : zP} {V : zS} {g p r a w : Int}
theorem zShI_0 (hN : 1 ≤ Q 1 (Q 4 g 0) 0 ∧ Q 1 (Q 4 g 0) 0 ≤ 4) {m : Int} (hm : m = zcr V g (-1)) : zShI Q V g p 0 0 m := by
  have hc := zcr_le (S := V) (g := g) (c := -1)
  subst hm
  refine ⟨by omega, ⟨by omega, by omega⟩, zcr_17.symm, ?_⟩
  by_cases h : zcr V g (-1) = 0
  · exact Or.inl ⟨h, h⟩
  · refine Or.inr ⟨by omega, 0, by omega, ?_, by omega, ?_⟩
    · have := Int.emod_nonneg (Q 1 (Q 4 g 0) 0) h
      rw [Int.zero_mul]
      omega
    · unfold zsr
      rw [if_neg h]
      rfl
theorem zShI_out (h : zShI Q V g p r a w) (hr : r < 6) (h0 : V (17, g, 0, 0) r = 0) : zShI Q V g p (r + 1) a w := by
  obtain ⟨h1, h2, h3, h4⟩ := h
  rw [sm_step (by omega)] at h3

  rw [if_pos h0, Int.zero_add] at h3
  refine ⟨by omega, h2, h3, h4.imp id (fun ⟨q1, k, q2, q3, q4, q5⟩ => ⟨q1, k, q2, q3, q4, ?_⟩)⟩
  rw [show (6 - r).toNat = (6 - (r + 1)).toNat + 1 by omega, zsN_out _ (fun q => (zin_17 h1.1).mp q h0)] at q5
  exact q5
theorem zShI_in (h : zShI Q V g p r a w) (hN : 1 ≤ Q 1 (Q 4 g 0) 0 ∧ Q 1 (Q 4 g 0) 0 ≤ 4) (hp : 0 ≤ p ∧ p < Q 1 (Q 4 g 0) 0) (hr : r < 6) (h0 : ¬ V (17, g, 0, 0) r = 0) : (1 ≤ w ∧ a ≤ Q 1 (Q 4 g 0) 0) ∧ (0 ≤ (Q 1 (Q 4 g 0) 0 - a + w - 1) / w ∧ (Q 1 (Q 4 g 0) 0 - a + w - 1) / w ≤ 5) ∧ (¬ (a + (Q 1 (Q 4 g 0) 0 - a + w - 1) / w ≤ p) → r = zsr Q V g p (-1)) ∧ (a + (Q 1 (Q 4 g 0) 0 - a + w - 1) / w ≤ p → zShI Q V g p (r + 1) (a + (Q 1 (Q 4 g 0) 0 - a + w - 1) / w) (w + -1)) := by
  obtain ⟨h1, h2, h3, h4⟩ := h
  have hc := zcr_le (S := V) (g := g) (c := -1)
  rw [sm_step (by omega)] at h3

  rw [if_neg h0] at h3
  have hs := sm_bound (f := fun r => if V (17, g, 0, 0) r = 0 then 0 else 1) (m := 1) (by omega) _ (r + 1) 6 (by omega) rfl (fun o _ _ => by split <;> omega)
  have hw : 1 ≤ w := by omega
  rcases h4 with ⟨q1, q2⟩ | ⟨q1, k, q2, q3, q4, q5⟩
  · omega
  · have hi := zits hN (m := zcr V g (-1)) (k := k) ⟨q1, hc.2⟩ ⟨q2, by omega⟩
    have ha := zits2 hN (m := zcr V g (-1)) (k := k) ⟨q1, hc.2⟩ ⟨q2, by omega⟩
    rw [← q3] at ha
    rw [← q3, ← q4] at hi
    have hd0 : 0 ≤ Q 1 (Q 4 g 0) 0 / zcr V g (-1) := Int.ediv_nonneg (by omega) (by omega)
    have hd1 : Q 1 (Q 4 g 0) 0 / zcr V g (-1) ≤ Q 1 (Q 4 g 0) 0 := Int.ediv_le_self _ (by omega)
    rw [show (6 - r).toNat = (6 - (r + 1)).toNat + 1 by omega, zsN_in _ ((zin_17 h1.1).mpr h0) rfl] at q5
    rw [hi]
    generalize hA : Q 1 (Q 4 g 0) 0 / zcr V g (-1) = A at *
    generalize hB : Q 1 (Q 4 g 0) 0 % zcr V g (-1) = B at *
    refine ⟨⟨hw, ha⟩, ?_, fun c => ?_, fun c => ?_⟩
    · split <;> omega
    · rw [if_pos (by omega)] at q5
      exact q5
    · rw [if_neg (by omega)] at q5
      refine ⟨by omega, ⟨by omega, ?_⟩, by omega, Or.inr ⟨q1, k + 1, by omega, ?_, by omega, ?_⟩⟩
      · split at c <;> split <;> omega
      · rw [hA, hB, Int.add_mul, Int.one_mul]
        split <;> omega
      · rw [hA, hB]
        exact q5
theorem zShI_end (h : zShI Q V g p r a w) (hr : 6 ≤ r) : zsr Q V g p (-1) = -1 := by
  obtain ⟨h1, h2, h3, h4⟩ := h
  rcases h4 with ⟨q1, q2⟩ | ⟨q1, k, q2, q3, q4, q5⟩
  · unfold zsr
    rw [if_pos q1]
  · rw [← q5, show (6 - r).toNat = 0 by omega]
    rfl
end ZSHI
/-! drops -/
theorem zpr_5o {Q : zP} {V : zS} {t p o g : Int} (hg : 0 ≤ g) : (zpr Q V t p o (5 + 3 * g) = 0 ∧ ¬ (g < Q 3 0 0 ∧ Q 4 g 0 = t)) ∨ (g < Q 3 0 0 ∧ Q 4 g 0 = t) ∧ zpr Q V t p o (5 + 3 * g) = V (19, g, p, 0) o := by
  by_cases h : g < Q 3 0 0 ∧ Q 4 g 0 = t
  · exact Or.inr ⟨h, zpr_5 ⟨hg, h.1⟩ h.2⟩
  · exact Or.inl ⟨zpr_5n hg h, h⟩
def zd1 (Q : zP) (t p o : Int) (g : Int) (V : zS) : zS := if (g < Q 3 0 0 ∧ Q 4 g 0 = t) ∧ ju V g p o then zfg V g p o else V
/-- a message is dropped, and forgotten where it is underway -/
def zdp (Q : zP) (t p o : Int) (V : zS) : zS := lp (zd1 Q t p o) 0 4 (zst V (14, t, p, o) 5 1)
section ZDP
variable {Q : zP} {V : zS} {t p o : Int}
theorem zdp_V (hP : zWP Q) (h : zWV Q V) : zWV Q (zdp Q t p o V) := lp_ind (fun _ s => zWV Q s) _ 0 4 _ (by omega) rfl (h.s14_5 (Or.inr rfl)) (fun g s _ _ hs => by
  unfold zd1
  split
  · exact zfg_V hs
  · exact hs)
theorem zdp_fr {K : Nat → Bool} (h14 : K 14 = true) (h19 : K 19 = true) (h20 : K 20 = true) : zfr K V (zdp Q t p o V) := by
  have h : zfr K (zst V (14, t, p, o) 5 1) (zdp Q t p o V) := lp_fr (fun g s => by
    unfold zd1
    split
    · exact zfg_fr h19 h20
    · exact zfr.rf)
  exact (zfr.rf.st h14).tr h
theorem zdp_14 {t' p' o' f : Int} (hf : f ≠ 5) : zdp Q t p o V (14, t', p', o') f = V (14, t', p', o') f := by
  have h : zfr (fun m => m == 19 || m == 20) (zst V (14, t, p, o) 5 1) (zdp Q t p o V) := lp_fr (fun g s => by
    unfold zd1
    split
    · exact zfg_fr rfl rfl
    · exact zfr.rf)
  rw [h _ _ rfl, zst_o hf]
end ZDP
/-! cleaning -/
def zec (Q : zP) (b t p e : Int) (o : Int) (s : zS × Int) : zS × Int := if zod s.1 t p o e then ((if b = 0 then s.1 else zdp Q t p o s.1), s.2 + 1) else s
def zcq (Q : zP) (b t : Int) (p : Int) (s : zS × Int) : zS × Int := lp (zec Q b t p (zse Q s.1 t p)) 0 (zse Q s.1 t p) s
def zcl (Q : zP) (b t : Int) (V : zS) : zS × Int := lp (zcq Q b t) 0 (Q 1 t 0) (V, 0)
theorem zec_y {Q : zP} {b t p e o m : Int} {V : zS} (h : zod V t p o e) : zec Q b t p e o (V, m) = ((if b = 0 then V else zdp Q t p o V), m + 1) := if_pos h
theorem zold_step {Q : Int → Prop} [DecidablePred Q] {k e x y : Int} (hk : k < e) (hx : x = 0 ∨ x = 1) (hy0 : y = 0 ∨ y = 1) (hy : y = 1 ↔ Q k) : ((max x y = 1 ∨ fi Q (k + 1) e < e) ↔ (x = 1 ∨ fi Q k e < e)) := by
  by_cases hq : Q k
  · rw [fi_hit hk hq]
    have := hy.mpr hq
    constructor
    · intro _; exact Or.inr hk
    · intro _; exact Or.inl (by omega)
  · rw [fi_miss hk hq]
    have hy1 : ¬ y = 1 := fun h => hq (hy.mp h)
    constructor
    · rintro (h | h)
      · exact Or.inl (by omega)
      · exact Or.inr h
    · rintro (h | h)
      · exact Or.inl (by omega)
      · exact Or.inr h
set_option maxHeartbeats 4000000 in
set_option maxRecDepth 100000 in
theorem c_X7_share {l : Launch} {Δ : zDl} {ad : zK → Nat} {Q : zP} {V : zS} {X : zMem} {g p : Int} (hP : zWP Q) (hV : zWV Q V) (hg : 0 ≤ g ∧ g < Q 3 0 0) (hp : 0 ≤ p ∧ p < Q 1 (Q 4 g 0) 0) : zMn l Δ yX7_share cX7_share 10 (some .int) 1 0 0 [.ref (ad (200, 0, 0, 0)), .int (zI g), .ref (ad (221, g, 0, 0)), .int (zI p)] ad (pm Δ ad Q V X) (zD (some (.int (zI (zsr Q V g p (-1))))) ad (pm Δ ad Q V X)) := by
  refine zMn_of (by decide) (Nat.le_of_ble_eq_true rfl) (fun Γ hl hΔ hF => ?_)
  subst hl hΔ
  show G Γ _ _ _ RX7 _ _ _ _ _ [(0, .ref (ad (200, 0, 0, 0))), (1, .int (zI g)), (2, .ref (ad (221, g, 0, 0))), (3, .int (zI p))] []
  have hG := hP.g hg
  have hN := hP.t hG
  have hq := hP.n
  have h17 := hV.in2 g
  refine G_aload_n (pc := 0) 0 0 dX7_share_0 rfl rfl ?_
  refine G_getf (pc := 1) fl_X7_25 dX7_share_1 pg_200 rfl ?_
  refine G_aload_n (pc := 4) 0 0 dX7_share_4 rfl rfl ?_
  refine G_getf (pc := 5) fl_X7_51 dX7_share_5 pg_200 rfl ?_
  refine G_iload_n (pc := 8) 1 1 dX7_share_8 rfl rfl ?_
  refine G_ialdV (pc := 9) (Q 4 g 0) dX7_share_9 pg_213 ⟨by omega, by omega, by omega, by omega⟩ (hV.of (by first | assumption | omega | exact ⟨by omega, by omega⟩ | exact ⟨⟨by omega, by omega⟩, by omega⟩ | exact zWV.R (by assumption) _ _)) ?_
  refine G_aldA (pc := 10) (t := 7) rfl dX7_share_10 pg_201 ⟨by omega, by omega, by omega, by omega⟩ rfl ?_
  refine G_alenV (pc := 11) (t := 6) (Q 1 (Q 4 g 0) 0) rfl dX7_share_11 (pg_202 (by first | assumption | omega | exact ⟨by omega, by omega⟩ | exact ⟨⟨by omega, by omega⟩, by omega⟩ | exact zWV.R (by assumption) _ _)) (by omega) ?_
  refine G_istore_e (pc := 12) (fun zw => [(4, .int (zI zw)), (0, .ref (ad (200, 0, 0, 0))), (1, .int (zI g)), (2, .ref (ad (221, g, 0, 0))), (3, .int (zI p))]) dX7_share_12 (by decide) (fun _ => rfl) (fun v12 e12 => ?_)
  refine G_iconst (pc := 14) dX7_share_14 ?_
  refine G_istore_e (pc := 15) (fun zw => [(5, .int (zI zw)), (4, .int (zI v12)), (0, .ref (ad (200, 0, 0, 0))), (1, .int (zI g)), (2, .ref (ad (221, g, 0, 0))), (3, .int (zI p))]) dX7_share_15 (by decide) (fun _ => rfl) (fun v15 e15 => ?_)
  refine G_aload_n (pc := 17) 2 4 dX7_share_17 rfl rfl ?_
  refine G_astore (pc := 18) [(6, .ref (ad (221, g, 0, 0))), (5, .int (zI v15)), (4, .int (zI v12)), (0, .ref (ad (200, 0, 0, 0))), (1, .int (zI g)), (2, .ref (ad (221, g, 0, 0))), (3, .int (zI p))] dX7_share_18 (by decide) rfl ?_
  refine G_aload (pc := 20) 0 dX7_share_20 rfl ?_
  refine G_alenV (pc := 22) (t := 1) (6) rfl dX7_share_22 (pg_221 (by first | assumption | omega | exact ⟨by omega, by omega⟩ | exact ⟨⟨by omega, by omega⟩, by omega⟩ | exact zWV.R (by assumption) _ _)) (by omega) ?_
  refine G_istore_e (pc := 23) (fun zw => [(7, .int (zI zw)), (6, .ref (ad (221, g, 0, 0))), (5, .int (zI v15)), (4, .int (zI v12)), (0, .ref (ad (200, 0, 0, 0))), (1, .int (zI g)), (2, .ref (ad (221, g, 0, 0))), (3, .int (zI p))]) dX7_share_23 (by decide) (fun _ => rfl) (fun v23 e23 => ?_)
  refine G_iconst (pc := 25) dX7_share_25 ?_
  refine G_istore_e (pc := 26) (fun zw => [(8, .int (zI zw)), (7, .int (zI v23)), (6, .ref (ad (221, g, 0, 0))), (5, .int (zI v15)), (4, .int (zI v12)), (0, .ref (ad (200, 0, 0, 0))), (1, .int (zI g)), (2, .ref (ad (221, g, 0, 0))), (3, .int (zI p))]) dX7_share_26 (by decide) (fun _ => rfl) (fun v26 e26 => ?_)
  have L28 : ∀ (n : Nat) (m : Int) (i : Int), ((0 ≤ i ∧ i ≤ 6 ∧ 0 ≤ m ∧ m ≤ i) ∧ m + sm (fun r => if V (17, g, 0, 0) r = 0 then 0 else 1) i 6 = zcr V g (-1)) → (6 - i).toNat < n → G Γ (zRm 1 0 0) cX7_share 10 RX7 ad (pm (z_d Γ) ad Q V X) 0 0 28 [(0, .ref (ad (200, 0, 0, 0))), (1, .int (zI g)), (2, .ref (ad (221, g, 0, 0))), (3, .int (zI p)), (4, .int (zI v12)), (5, .int (zI m)), (6, .ref (ad (221, g, 0, 0))), (7, .int (zI v23)), (8, .int (zI i))] [] := by
    intro n
    induction n with
    | zero => intro m i _ hn; omega
    | succ n ih28 =>
      intro m i hi28 hn28
      have h17i := h17 i
      refine G_iload (pc := 28) 8 dX7_share_28 rfl ?_
      refine G_iload (pc := 30) 7 dX7_share_30 rfl ?_
      refine G_icmp_ge (pc := 32) 63 dX7_share_32 (by decide) (by first | exact zWV.R (by assumption) _ _ | exact ⟨by omega, by omega⟩ | assumption) (by first | exact zWV.R (by assumption) _ _ | exact ⟨by omega, by omega⟩ | assumption) (fun c32 => ?_) (fun c32 => ?_)
      · refine G_iconst (pc := 63) dX7_share_63 ?_
        refine G_istore_e (pc := 64) (fun zw => [(6, .int (zI zw)), (0, .ref (ad (200, 0, 0, 0))), (1, .int (zI g)), (2, .ref (ad (221, g, 0, 0))), (3, .int (zI p)), (4, .int (zI v12)), (5, .int (zI m)), (7, .int (zI v23)), (8, .int (zI i))]) dX7_share_64 (by decide) (fun _ => rfl) (fun v64 e64 => ?_)
        refine G_iload (pc := 66) 6 dX7_share_66 rfl ?_
        refine G_istore_e (pc := 68) (fun zw => [(7, .int (zI zw)), (6, .int (zI v64)), (0, .ref (ad (200, 0, 0, 0))), (1, .int (zI g)), (2, .ref (ad (221, g, 0, 0))), (3, .int (zI p)), (4, .int (zI v12)), (5, .int (zI m)), (8, .int (zI i))]) dX7_share_68 (by decide) (fun _ => rfl) (fun v68 e68 => ?_)
        refine G_iconst (pc := 70) dX7_share_70 ?_
        refine G_istore_e (pc := 71) (fun zw => [(8, .int (zI zw)), (7, .int (zI v68)), (6, .int (zI v64)), (0, .ref (ad (200, 0, 0, 0))), (1, .int (zI g)), (2, .ref (ad (221, g, 0, 0))), (3, .int (zI p)), (4, .int (zI v12)), (5, .int (zI m))]) dX7_share_71 (by decide) (fun _ => rfl) (fun v71 e71 => ?_)
        have L73 : ∀ (n : Nat) (a : Int) (w : Int) (r : Int), (zShI Q V g p r a w) → (6 - r).toNat < n → G Γ (zRm 1 0 0) cX7_share 10 RX7 ad (pm (z_d Γ) ad Q V X) 0 0 73 [(0, .ref (ad (200, 0, 0, 0))), (1, .int (zI g)), (2, .ref (ad (221, g, 0, 0))), (3, .int (zI p)), (4, .int (zI v12)), (5, .int (zI m)), (6, .int (zI a)), (7, .int (zI w)), (8, .int (zI r))] [] := by
          intro n
          induction n with
          | zero => intro a w r _ hn; omega
          | succ n ih73 =>
            intro a w r hi73 hn73
            have hi73a := hi73.1
            have hi73b := hi73.2.1
            have h17r := h17 r
            refine G_iload (pc := 73) 8 dX7_share_73 rfl ?_
            refine G_bipush (pc := 75) dX7_share_75 (by decide) ?_
            refine G_icmp_ge (pc := 77) 133 dX7_share_77 (by decide) (by first | exact zWV.R (by assumption) _ _ | exact ⟨by omega, by omega⟩ | assumption) (by first | exact zWV.R (by assumption) _ _ | exact ⟨by omega, by omega⟩ | assumption) (fun c77 => ?_) (fun c77 => ?_)
            · refine G_iconst (pc := 133) dX7_share_133 ?_
              exact G_iret_d (pc := 134) hF dX7_share_134 ⟨Nat.le_of_ble_eq_true rfl, Nat.le_of_ble_eq_true rfl⟩ (zShI_end hi73 (by omega)).symm
            · refine G_aload_n (pc := 80) 2 2 dX7_share_80 rfl rfl ?_
              refine G_iload (pc := 81) 8 dX7_share_81 rfl ?_
              refine G_zaldV (pc := 83) (V (17, g, 0, 0) r) dX7_share_83 (pg_221 (by first | assumption | omega | exact ⟨by omega, by omega⟩ | exact ⟨⟨by omega, by omega⟩, by omega⟩ | exact zWV.R (by assumption) _ _)) ⟨by omega, by omega, by omega, by omega⟩ rfl ?_
              refine G_if_ne (pc := 84) 90 dX7_share_84 (by decide) (by first | exact zWV.R (by assumption) _ _ | exact ⟨by omega, by omega⟩ | assumption) (fun c84 => ?_) (fun c84 => ?_)
              · obtain ⟨hw1, hits, hgo, hon⟩ := zShI_in hi73 hN hp (by omega) (by omega)
                refine G_iload (pc := 90) 4 dX7_share_90 rfl ?_
                refine G_iload (pc := 92) 6 dX7_share_92 rfl ?_
                refine G_isub (pc := 94) dX7_share_94 ?_
                refine G_iload (pc := 95) 7 dX7_share_95 rfl ?_
                refine G_iadd (pc := 97) dX7_share_97 ?_
                refine G_iconst (pc := 98) dX7_share_98 ?_
                refine G_isub (pc := 99) dX7_share_99 ?_
                refine G_iload (pc := 100) 7 dX7_share_100 rfl ?_
                refine G_idiv (pc := 102) dX7_share_102 ⟨by omega, by omega, by omega⟩ ⟨by omega, by omega, by omega⟩ ?_
                refine G_istore_e (pc := 103) (fun zw => [(9, .int (zI zw)), (0, .ref (ad (200, 0, 0, 0))), (1, .int (zI g)), (2, .ref (ad (221, g, 0, 0))), (3, .int (zI p)), (4, .int (zI v12)), (5, .int (zI m)), (6, .int (zI a)), (7, .int (zI w)), (8, .int (zI r))]) dX7_share_103 (by decide) (fun _ => rfl) (fun v103 e103 => ?_)
                rw [e12] at e103
                rw [← e103] at hits hgo hon
                refine G_iload_n (pc := 105) 3 4 dX7_share_105 rfl rfl ?_
                refine G_iload (pc := 106) 7 dX7_share_106 rfl ?_
                refine G_iload (pc := 108) 0 dX7_share_108 rfl ?_
                refine G_iadd (pc := 110) dX7_share_110 ?_
                refine G_icmp_ge (pc := 111) 117 dX7_share_111 (by decide) (by first | exact zWV.R (by assumption) _ _ | exact ⟨by omega, by omega⟩ | assumption) (by first | exact zWV.R (by assumption) _ _ | exact ⟨by omega, by omega⟩ | assumption) (fun c111 => ?_) (fun c111 => ?_)
                · refine G_iload (pc := 117) 7 dX7_share_117 rfl ?_
                  refine G_iload (pc := 119) 0 dX7_share_119 rfl ?_
                  refine G_iadd (pc := 121) dX7_share_121 ?_
                  refine G_istore_e (pc := 122) (fun zw => [(6, .int (zI zw)), (9, .int (zI v103)), (0, .ref (ad (200, 0, 0, 0))), (1, .int (zI g)), (2, .ref (ad (221, g, 0, 0))), (3, .int (zI p)), (4, .int (zI v12)), (5, .int (zI m)), (7, .int (zI w)), (8, .int (zI r))]) dX7_share_122 (by decide) (fun _ => rfl) (fun v122 e122 => ?_)
                  refine G_iinc_e (pc := 124) 8 (fun zw => [(7, .int (zI zw)), (6, .int (zI v122)), (9, .int (zI v103)), (0, .ref (ad (200, 0, 0, 0))), (1, .int (zI g)), (2, .ref (ad (221, g, 0, 0))), (3, .int (zI p)), (4, .int (zI v12)), (5, .int (zI m)), (8, .int (zI r))]) dX7_share_124 rfl (by decide) (fun _ => rfl) (fun v124 e124 => ?_)
                  refine G_iinc_e (pc := 127) 9 (fun zw => [(8, .int (zI zw)), (7, .int (zI v124)), (6, .int (zI v122)), (9, .int (zI v103)), (0, .ref (ad (200, 0, 0, 0))), (1, .int (zI g)), (2, .ref (ad (221, g, 0, 0))), (3, .int (zI p)), (4, .int (zI v12)), (5, .int (zI m))]) dX7_share_127 rfl (by decide) (fun _ => rfl) (fun v127 e127 => ?_)
                  refine G_goto (pc := 130) 73 dX7_share_130 (by decide) ?_
                  refine G_perm (lv' := [(0, .ref (ad (200, 0, 0, 0))), (1, .int (zI g)), (2, .ref (ad (221, g, 0, 0))), (3, .int (zI p)), (4, .int (zI v12)), (5, .int (zI m)), (6, .int (zI v122)), (7, .int (zI v124)), (8, .int (zI v127))]) [4, 5, 6, 7, 8, 9, 2, 1, 0] rfl ?_
                  exact ih73 v122 v124 v127  (by first | (rw [e127]; exact zShI_out hi73 (by omega) (by omega)) | (rw [e124, e127, e122]; exact hon (by omega))) (by omega)
                · refine G_iload (pc := 114) 9 dX7_share_114 rfl ?_
                  exact G_iret_d (pc := 116) hF dX7_share_116 ⟨Nat.le_of_ble_eq_true rfl, Nat.le_of_ble_eq_true rfl⟩ (hgo (by omega))
              · refine G_goto (pc := 87) 127 dX7_share_87 (by decide) ?_
                refine G_iinc_e (pc := 127) 8 (fun zw => [(8, .int (zI zw)), (0, .ref (ad (200, 0, 0, 0))), (1, .int (zI g)), (2, .ref (ad (221, g, 0, 0))), (3, .int (zI p)), (4, .int (zI v12)), (5, .int (zI m)), (6, .int (zI a)), (7, .int (zI w))]) dX7_share_127 rfl (by decide) (fun _ => rfl) (fun v127 e127 => ?_)
                refine G_goto (pc := 130) 73 dX7_share_130 (by decide) ?_
                refine G_perm (lv' := [(0, .ref (ad (200, 0, 0, 0))), (1, .int (zI g)), (2, .ref (ad (221, g, 0, 0))), (3, .int (zI p)), (4, .int (zI v12)), (5, .int (zI m)), (6, .int (zI a)), (7, .int (zI w)), (8, .int (zI v127))]) [1, 2, 3, 4, 5, 6, 7, 8, 0] rfl ?_
                exact ih73 a w v127  (by first | (rw [e127]; exact zShI_out hi73 (by omega) (by omega)) | (rw [e124, e127, e122]; exact hon (by omega))) (by omega)
        refine G_perm (lv' := [(0, .ref (ad (200, 0, 0, 0))), (1, .int (zI g)), (2, .ref (ad (221, g, 0, 0))), (3, .int (zI p)), (4, .int (zI v12)), (5, .int (zI m)), (6, .int (zI v64)), (7, .int (zI v68)), (8, .int (zI v71))]) [3, 4, 5, 6, 7, 8, 2, 1, 0] rfl ?_
        exact L73 _ v64 v68 v71  (by rw [e64, e68, e71]; exact zShI_0 hN (by rw [← hi28.2, sm_end (by omega)]; omega)) (Nat.lt_succ_self _)
      · refine G_aload (pc := 35) 6 dX7_share_35 rfl ?_
        refine G_iload (pc := 37) 8 dX7_share_37 rfl ?_
        refine G_zaldV (pc := 39) (V (17, g, 0, 0) i) dX7_share_39 (pg_221 (by first | assumption | omega | exact ⟨by omega, by omega⟩ | exact ⟨⟨by omega, by omega⟩, by omega⟩ | exact zWV.R (by assumption) _ _)) ⟨by omega, by omega, by omega, by omega⟩ rfl ?_
        refine G_istore_e (pc := 40) (fun zw => [(9, .int (zI zw)), (0, .ref (ad (200, 0, 0, 0))), (1, .int (zI g)), (2, .ref (ad (221, g, 0, 0))), (3, .int (zI p)), (4, .int (zI v12)), (5, .int (zI m)), (6, .ref (ad (221, g, 0, 0))), (7, .int (zI v23)), (8, .int (zI i))]) dX7_share_40 (by decide) (fun _ => rfl) (fun v40 e40 => ?_)
        refine G_iload (pc := 42) 6 dX7_share_42 rfl ?_
        refine G_iload (pc := 44) 0 dX7_share_44 rfl ?_
        refine G_if_eq (pc := 46) 53 dX7_share_46 (by decide) (by first | exact zWV.R (by assumption) _ _ | exact ⟨by omega, by omega⟩ | assumption) (fun c46 => ?_) (fun c46 => ?_)
        · refine G_iconst (pc := 53) dX7_share_53 ?_
          refine G_iadd (pc := 54) dX7_share_54 ?_
          refine G_istore_e (pc := 55) (fun zw => [(5, .int (zI zw)), (9, .int (zI v40)), (0, .ref (ad (200, 0, 0, 0))), (1, .int (zI g)), (2, .ref (ad (221, g, 0, 0))), (3, .int (zI p)), (4, .int (zI v12)), (6, .ref (ad (221, g, 0, 0))), (7, .int (zI v23)), (8, .int (zI i))]) dX7_share_55 (by decide) (fun _ => rfl) (fun v55 e55 => ?_)
          refine G_iinc_e (pc := 57) 9 (fun zw => [(8, .int (zI zw)), (5, .int (zI v55)), (9, .int (zI v40)), (0, .ref (ad (200, 0, 0, 0))), (1, .int (zI g)), (2, .ref (ad (221, g, 0, 0))), (3, .int (zI p)), (4, .int (zI v12)), (6, .ref (ad (221, g, 0, 0))), (7, .int (zI v23))]) dX7_share_57 rfl (by decide) (fun _ => rfl) (fun v57 e57 => ?_)
          refine G_goto (pc := 60) 28 dX7_share_60 (by decide) ?_
          refine G_perm (lv' := [(0, .ref (ad (200, 0, 0, 0))), (1, .int (zI g)), (2, .ref (ad (221, g, 0, 0))), (3, .int (zI p)), (4, .int (zI v12)), (5, .int (zI v55)), (6, .ref (ad (221, g, 0, 0))), (7, .int (zI v23)), (8, .int (zI v57))]) [3, 4, 5, 6, 7, 1, 8, 9, 0] rfl ?_
          exact ih28 v55 v57  ⟨by omega, by rw [← hi28.2, sm_step (a := i) (n := 6) (by omega), e57]; split <;> omega⟩ (by omega)
        · refine G_iconst (pc := 49) dX7_share_49 ?_
          refine G_goto (pc := 50) 54 dX7_share_50 (by decide) ?_
          refine G_iadd (pc := 54) dX7_share_54 ?_
          refine G_istore_e (pc := 55) (fun zw => [(5, .int (zI zw)), (9, .int (zI v40)), (0, .ref (ad (200, 0, 0, 0))), (1, .int (zI g)), (2, .ref (ad (221, g, 0, 0))), (3, .int (zI p)), (4, .int (zI v12)), (6, .ref (ad (221, g, 0, 0))), (7, .int (zI v23)), (8, .int (zI i))]) dX7_share_55 (by decide) (fun _ => rfl) (fun v55 e55 => ?_)
          refine G_iinc_e (pc := 57) 9 (fun zw => [(8, .int (zI zw)), (5, .int (zI v55)), (9, .int (zI v40)), (0, .ref (ad (200, 0, 0, 0))), (1, .int (zI g)), (2, .ref (ad (221, g, 0, 0))), (3, .int (zI p)), (4, .int (zI v12)), (6, .ref (ad (221, g, 0, 0))), (7, .int (zI v23))]) dX7_share_57 rfl (by decide) (fun _ => rfl) (fun v57 e57 => ?_)
          refine G_goto (pc := 60) 28 dX7_share_60 (by decide) ?_
          refine G_perm (lv' := [(0, .ref (ad (200, 0, 0, 0))), (1, .int (zI g)), (2, .ref (ad (221, g, 0, 0))), (3, .int (zI p)), (4, .int (zI v12)), (5, .int (zI v55)), (6, .ref (ad (221, g, 0, 0))), (7, .int (zI v23)), (8, .int (zI v57))]) [3, 4, 5, 6, 7, 1, 8, 9, 0] rfl ?_
          exact ih28 v55 v57  ⟨by omega, by rw [← hi28.2, sm_step (a := i) (n := 6) (by omega), e57]; split <;> omega⟩ (by omega)
  refine G_perm (lv' := [(0, .ref (ad (200, 0, 0, 0))), (1, .int (zI g)), (2, .ref (ad (221, g, 0, 0))), (3, .int (zI p)), (4, .int (zI v12)), (5, .int (zI v15)), (6, .ref (ad (221, g, 0, 0))), (7, .int (zI v23)), (8, .int (zI v26))]) [5, 6, 7, 8, 4, 3, 2, 1, 0] rfl ?_
  exact L28 _ v15 v26  ⟨by omega, by rw [e15, e26, zcr_17]; exact Int.zero_add _⟩ (Nat.lt_succ_self _)
set_option maxHeartbeats 4000000 in
set_option maxRecDepth 100000 in
theorem c_X7_drop {l : Launch} {Δ : zDl} {ad : zK → Nat} {Q : zP} {V : zS} {X : zMem} {t p o : Int} (hP : zWP Q) (hV : zWV Q V) (ht : 0 ≤ t ∧ t < Q 0 0 0) (hp : 0 ≤ p ∧ p < Q 1 t 0) (ho : 0 ≤ o ∧ o < Q 2 t p) : zMn l Δ yX7_drop cX7_drop 3 none 2 0 0 [.ref (ad (200, 0, 0, 0)), .ref (ad (204, t, p, o))] ad (pm Δ ad Q V X) (zD none ad (pm Δ ad Q (zdp Q t p o V) X)) := by
  refine zMn_of (by decide) (Nat.le_of_ble_eq_true rfl) (fun Γ hl hΔ hF => ?_)
  subst hl hΔ
  show G Γ _ _ _ RX7 _ _ _ _ _ [(0, .ref (ad (200, 0, 0, 0))), (1, .ref (ad (204, t, p, o)))] []
  have hM := hP.m ht hp
  have hN := hP.t ht
  have hq := hP.n
  refine G_aload_n (pc := 0) 1 1 dX7_drop_0 rfl rfl ?_
  refine G_iconst (pc := 1) dX7_drop_1 ?_
  refine G_iconst (pc := 2) dX7_drop_2 ?_
  refine G_iast (pc := 3) dX7_drop_3 (pg_204 (by first | assumption | omega | exact ⟨by omega, by omega⟩ | exact ⟨⟨by omega, by omega⟩, by omega⟩ | exact zWV.R (by assumption) _ _)) ⟨by omega, by omega, by omega, by omega⟩ (pp_204_4 (by first | assumption | omega | exact ⟨by omega, by omega⟩ | exact ⟨⟨by omega, by omega⟩, by omega⟩ | exact zWV.R (by assumption) _ _)) ?_
  refine G_nameV (fun V1_3 hV1_3 => ?_)
  have hVV1_3 : zWV Q V1_3 := by rw [hV1_3]; exact hV.s14_5 (by first | exact Or.inr rfl | omega)
  refine G_iconst (pc := 4) dX7_drop_4 ?_
  refine G_istore_ne (pc := 5) 2 (fun zw => [(2, .int (zI zw)), (0, .ref (ad (200, 0, 0, 0))), (1, .ref (ad (204, t, p, o)))]) dX7_drop_5 rfl (by decide) (fun _ => rfl) (fun v5 e5 => ?_)
  have L6 : ∀ (n : Nat) (g : Int) (T : zS), ((0 ≤ g ∧ g ≤ 4) ∧ lp (zd1 Q t p o) g 4 T = zdp Q t p o V ∧ zWV Q T) → (4 - g).toNat < n → G Γ (zRm 2 0 0) cX7_drop 3 RX7 ad (pm (z_d Γ) ad Q T X) 0 0 6 [(0, .ref (ad (200, 0, 0, 0))), (1, .ref (ad (204, t, p, o))), (2, .int (zI g))] [] := by
    intro n
    induction n with
    | zero => intro g T _ hn; omega
    | succ n ih6 =>
      intro g T hi6 hn6
      obtain ⟨hg0, hlg, hTV⟩ := hi6
      have hz5 : (zpr Q T t p o (5 + 3 * g) = 0 ∧ ¬ (g < Q 3 0 0 ∧ Q 4 g 0 = t)) ∨ (g < Q 3 0 0 ∧ Q 4 g 0 = t) ∧ zpr Q T t p o (5 + 3 * g) = T (19, g, p, 0) o := zpr_5o hg0.1
      have hzR : zR (zpr Q T t p o (5 + 3 * g)) := by rcases hz5 with ⟨h, -⟩ | ⟨-, h⟩; (rw [h]; exact ⟨by omega, by omega⟩); (rw [h]; exact hTV.R _ _)
      refine G_iload_n (pc := 6) 2 2 dX7_drop_6 rfl rfl ?_
      refine G_iconst (pc := 7) dX7_drop_7 ?_
      refine G_icmp_ge (pc := 8) 45 dX7_drop_8 (by decide) (by first | exact zWV.R (by assumption) _ _ | exact ⟨by omega, by omega⟩ | assumption | exact hzR) (by first | exact zWV.R (by assumption) _ _ | exact ⟨by omega, by omega⟩ | assumption | exact hzR) (fun c8 => ?_) (fun c8 => ?_)
      · exact G_vret_d (pc := 45) hF dX7_drop_45 ⟨Nat.le_of_ble_eq_true rfl, Nat.le_of_ble_eq_true rfl⟩ (by rw [← hlg, lp_end (by omega)])
      · refine G_aload_n (pc := 11) 1 1 dX7_drop_11 rfl rfl ?_
        refine G_iconst (pc := 12) dX7_drop_12 ?_
        refine G_iconst (pc := 13) dX7_drop_13 ?_
        refine G_iload_n (pc := 14) 2 2 dX7_drop_14 rfl rfl ?_
        refine G_imul (pc := 15) dX7_drop_15 ?_
        refine G_iadd (pc := 16) dX7_drop_16 ?_
        refine G_ialdV (pc := 17) (zpr Q T t p o (5 + (3 * g))) dX7_drop_17 (pg_204 (by first | assumption | omega | exact ⟨by omega, by omega⟩ | exact ⟨⟨by omega, by omega⟩, by omega⟩ | exact zWV.R (by assumption) _ _)) ⟨by omega, by omega, by omega, by omega⟩ rfl ?_
        refine G_iconst (pc := 18) dX7_drop_18 ?_
        refine G_icmp_eq (pc := 19) 33 dX7_drop_19 (by decide) (by first | exact zWV.R (by assumption) _ _ | exact ⟨by omega, by omega⟩ | assumption | exact hzR) (by first | exact zWV.R (by assumption) _ _ | exact ⟨by omega, by omega⟩ | assumption | exact hzR) (fun c19 => ?_) (fun c19 => ?_)
        · have hgt : Q 4 g 0 = t := by omega
          have hg : 0 ≤ g ∧ g < Q 3 0 0 := by omega
          have h19 : T (19, g, p, 0) o = 1 ∨ T (19, g, p, 0) o = 2 := by omega
          refine G_aload_n (pc := 33) 0 0 dX7_drop_33 rfl rfl ?_
          refine G_aload_n (pc := 34) 1 1 dX7_drop_34 rfl rfl ?_
          refine G_iload_n (pc := 35) 2 2 dX7_drop_35 rfl rfl ?_
          refine G_callVv (pc := 36) gk_X7_145 dX7_drop_36 pg_200 rfl (c_X7_forget (by first | assumption | omega | exact ⟨by omega, by omega⟩ | exact ⟨⟨by omega, by omega⟩, by omega⟩ | exact zWV.R (by assumption) _ _) (by first | assumption | omega | exact ⟨by omega, by omega⟩ | exact ⟨⟨by omega, by omega⟩, by omega⟩ | exact zWV.R (by assumption) _ _) (by first | assumption | omega | exact ⟨by omega, by omega⟩ | exact ⟨⟨by omega, by omega⟩, by omega⟩ | exact zWV.R (by assumption) _ _) (by first | assumption | omega | exact ⟨by omega, by omega⟩ | exact ⟨⟨by omega, by omega⟩, by omega⟩ | exact zWV.R (by assumption) _ _) (by first | assumption | omega | exact ⟨by omega, by omega⟩ | exact ⟨⟨by omega, by omega⟩, by omega⟩ | exact zWV.R (by assumption) _ _) (by first | assumption | omega | exact ⟨by omega, by omega⟩ | exact ⟨⟨by omega, by omega⟩, by omega⟩ | exact zWV.R (by assumption) _ _) (by first | assumption | omega | exact ⟨by omega, by omega⟩ | exact ⟨⟨by omega, by omega⟩, by omega⟩ | exact zWV.R (by assumption) _ _)) rfl rfl (Nat.le_of_ble_eq_true rfl) ⟨⟨Nat.le_of_ble_eq_true rfl, Nat.le_of_ble_eq_true rfl⟩, Nat.le_of_ble_eq_true rfl, Nat.le_of_ble_eq_true rfl⟩ ?_
          refine G_nameV (fun V2_36 hV2_36 => ?_)
          have hVV2_36 : zWV Q V2_36 := by rw [hV2_36]; exact zfg_V hTV
          first | (have hz1 : zd1 Q t p o g T = V2_36 := by rw [hV2_36]; exact if_pos ⟨⟨hg.2, hgt⟩, h19⟩) | (have hz1 : zd1 Q t p o g T = T := if_neg (fun h => by have h2 : T (19, g, p, 0) o = 1 ∨ T (19, g, p, 0) o = 2 := h.2; have h1 : g < Q 3 0 0 ∧ Q 4 g 0 = t := h.1; omega))
          refine G_iinc_e (pc := 39) 2 (fun zw => [(2, .int (zI zw)), (0, .ref (ad (200, 0, 0, 0))), (1, .ref (ad (204, t, p, o)))]) dX7_drop_39 rfl (by decide) (fun _ => rfl) (fun v39 e39 => ?_)
          refine G_goto (pc := 42) 6 dX7_drop_42 (by decide) ?_
          refine G_perm (lv' := [(0, .ref (ad (200, 0, 0, 0))), (1, .ref (ad (204, t, p, o))), (2, .int (zI v39))]) [1, 2, 0] rfl ?_
          exact ih6 v39 V2_36 ⟨by omega, by rw [e39, ← hlg, lp_step (a := g) (n := 4) (by omega)]; rw [show zd1 Q t p o g T = V2_36 from hz1], by assumption⟩ (by omega)
        · refine G_aload_n (pc := 22) 1 1 dX7_drop_22 rfl rfl ?_
          refine G_iconst (pc := 23) dX7_drop_23 ?_
          refine G_iconst (pc := 24) dX7_drop_24 ?_
          refine G_iload_n (pc := 25) 2 2 dX7_drop_25 rfl rfl ?_
          refine G_imul (pc := 26) dX7_drop_26 ?_
          refine G_iadd (pc := 27) dX7_drop_27 ?_
          refine G_ialdV (pc := 28) (zpr Q T t p o (5 + (3 * g))) dX7_drop_28 (pg_204 (by first | assumption | omega | exact ⟨by omega, by omega⟩ | exact ⟨⟨by omega, by omega⟩, by omega⟩ | exact zWV.R (by assumption) _ _)) ⟨by omega, by omega, by omega, by omega⟩ rfl ?_
          refine G_iconst (pc := 29) dX7_drop_29 ?_
          refine G_icmp_ne (pc := 30) 39 dX7_drop_30 (by decide) (by first | exact zWV.R (by assumption) _ _ | exact ⟨by omega, by omega⟩ | assumption | exact hzR) (by first | exact zWV.R (by assumption) _ _ | exact ⟨by omega, by omega⟩ | assumption | exact hzR) (fun c30 => ?_) (fun c30 => ?_)
          · first | (have hz1 : zd1 Q t p o g T = T := by rw [hT]; exact if_pos ⟨⟨hg.2, hgt⟩, h19⟩) | (have hz1 : zd1 Q t p o g T = T := if_neg (fun h => by have h2 : T (19, g, p, 0) o = 1 ∨ T (19, g, p, 0) o = 2 := h.2; have h1 : g < Q 3 0 0 ∧ Q 4 g 0 = t := h.1; omega))
            refine G_iinc_e (pc := 39) 2 (fun zw => [(2, .int (zI zw)), (0, .ref (ad (200, 0, 0, 0))), (1, .ref (ad (204, t, p, o)))]) dX7_drop_39 rfl (by decide) (fun _ => rfl) (fun v39 e39 => ?_)
            refine G_goto (pc := 42) 6 dX7_drop_42 (by decide) ?_
            refine G_perm (lv' := [(0, .ref (ad (200, 0, 0, 0))), (1, .ref (ad (204, t, p, o))), (2, .int (zI v39))]) [1, 2, 0] rfl ?_
            exact ih6 v39 T ⟨by omega, by rw [e39, ← hlg, lp_step (a := g) (n := 4) (by omega)]; rw [show zd1 Q t p o g T = T from hz1], by assumption⟩ (by omega)
          · have hgt : Q 4 g 0 = t := by omega
            have hg : 0 ≤ g ∧ g < Q 3 0 0 := by omega
            have h19 : T (19, g, p, 0) o = 1 ∨ T (19, g, p, 0) o = 2 := by omega
            refine G_aload_n (pc := 33) 0 0 dX7_drop_33 rfl rfl ?_
            refine G_aload_n (pc := 34) 1 1 dX7_drop_34 rfl rfl ?_
            refine G_iload_n (pc := 35) 2 2 dX7_drop_35 rfl rfl ?_
            refine G_callVv (pc := 36) gk_X7_145 dX7_drop_36 pg_200 rfl (c_X7_forget (by first | assumption | omega | exact ⟨by omega, by omega⟩ | exact ⟨⟨by omega, by omega⟩, by omega⟩ | exact zWV.R (by assumption) _ _) (by first | assumption | omega | exact ⟨by omega, by omega⟩ | exact ⟨⟨by omega, by omega⟩, by omega⟩ | exact zWV.R (by assumption) _ _) (by first | assumption | omega | exact ⟨by omega, by omega⟩ | exact ⟨⟨by omega, by omega⟩, by omega⟩ | exact zWV.R (by assumption) _ _) (by first | assumption | omega | exact ⟨by omega, by omega⟩ | exact ⟨⟨by omega, by omega⟩, by omega⟩ | exact zWV.R (by assumption) _ _) (by first | assumption | omega | exact ⟨by omega, by omega⟩ | exact ⟨⟨by omega, by omega⟩, by omega⟩ | exact zWV.R (by assumption) _ _) (by first | assumption | omega | exact ⟨by omega, by omega⟩ | exact ⟨⟨by omega, by omega⟩, by omega⟩ | exact zWV.R (by assumption) _ _) (by first | assumption | omega | exact ⟨by omega, by omega⟩ | exact ⟨⟨by omega, by omega⟩, by omega⟩ | exact zWV.R (by assumption) _ _)) rfl rfl (Nat.le_of_ble_eq_true rfl) ⟨⟨Nat.le_of_ble_eq_true rfl, Nat.le_of_ble_eq_true rfl⟩, Nat.le_of_ble_eq_true rfl, Nat.le_of_ble_eq_true rfl⟩ ?_
            refine G_nameV (fun V3_36 hV3_36 => ?_)
            have hVV3_36 : zWV Q V3_36 := by rw [hV3_36]; exact zfg_V hTV
            first | (have hz1 : zd1 Q t p o g T = V3_36 := by rw [hV3_36]; exact if_pos ⟨⟨hg.2, hgt⟩, h19⟩) | (have hz1 : zd1 Q t p o g T = T := if_neg (fun h => by have h2 : T (19, g, p, 0) o = 1 ∨ T (19, g, p, 0) o = 2 := h.2; have h1 : g < Q 3 0 0 ∧ Q 4 g 0 = t := h.1; omega))
            refine G_iinc_e (pc := 39) 2 (fun zw => [(2, .int (zI zw)), (0, .ref (ad (200, 0, 0, 0))), (1, .ref (ad (204, t, p, o)))]) dX7_drop_39 rfl (by decide) (fun _ => rfl) (fun v39 e39 => ?_)
            refine G_goto (pc := 42) 6 dX7_drop_42 (by decide) ?_
            refine G_perm (lv' := [(0, .ref (ad (200, 0, 0, 0))), (1, .ref (ad (204, t, p, o))), (2, .int (zI v39))]) [1, 2, 0] rfl ?_
            exact ih6 v39 V3_36 ⟨by omega, by rw [e39, ← hlg, lp_step (a := g) (n := 4) (by omega)]; rw [show zd1 Q t p o g T = V3_36 from hz1], by assumption⟩ (by omega)
  refine G_perm (lv' := [(0, .ref (ad (200, 0, 0, 0))), (1, .ref (ad (204, t, p, o))), (2, .int (zI v5))]) [1, 2, 0] rfl ?_
  exact L6 _ v5 V1_3 ⟨by omega, by rw [e5, hV1_3]; rfl, by assumption⟩ (Nat.lt_succ_self _)
set_option maxHeartbeats 4000000 in
set_option maxRecDepth 100000 in
theorem c_X7_clean {l : Launch} {Δ : zDl} {ad : zK → Nat} {Q : zP} {V : zS} {X : zMem} {t b : Int} (hP : zWP Q) (hV : zWV Q V) (ht : 0 ≤ t ∧ t < Q 0 0 0) (hb : b = 0 ∨ b = 1) : zMn l Δ yX7_clean cX7_clean 12 (some .int) 4 0 0 [.ref (ad (200, 0, 0, 0)), .int (zI t), .int (zI b)] ad (pm Δ ad Q V X) (zD (some (.int (zI ((zcl Q b t V).2)))) ad (pm Δ ad Q ((zcl Q b t V).1) X)) := by
  refine zMn_of (by decide) (Nat.le_of_ble_eq_true rfl) (fun Γ hl hΔ hF => ?_)
  subst hl hΔ
  show G Γ _ _ _ RX7 _ _ _ _ _ [(0, .ref (ad (200, 0, 0, 0))), (1, .int (zI t)), (2, .int (zI b))] []
  have hN := hP.t ht
  have hq := hP.n
  refine G_iconst (pc := 0) dX7_clean_0 ?_
  refine G_istore_ne (pc := 1) 3 (fun zw => [(3, .int (zI zw)), (0, .ref (ad (200, 0, 0, 0))), (1, .int (zI t)), (2, .int (zI b))]) dX7_clean_1 rfl (by decide) (fun _ => rfl) (fun v1 e1 => ?_)
  refine G_aload_n (pc := 2) 0 1 dX7_clean_2 rfl rfl ?_
  refine G_getf (pc := 3) fl_X7_25 dX7_clean_3 pg_200 rfl ?_
  refine G_iload_n (pc := 6) 1 2 dX7_clean_6 rfl rfl ?_
  refine G_aldA (pc := 7) (t := 7) rfl dX7_clean_7 pg_201 ⟨by omega, by omega, by omega, by omega⟩ rfl ?_
  refine G_astore (pc := 8) [(4, .ref (ad (202, t, 0, 0))), (3, .int (zI v1)), (0, .ref (ad (200, 0, 0, 0))), (1, .int (zI t)), (2, .int (zI b))] dX7_clean_8 (by decide) rfl ?_
  refine G_aload (pc := 10) 0 dX7_clean_10 rfl ?_
  refine G_alenV (pc := 12) (t := 6) (Q 1 t 0) rfl dX7_clean_12 (pg_202 (by first | assumption | omega | exact ⟨by omega, by omega⟩ | exact ⟨⟨by omega, by omega⟩, by omega⟩ | exact zWV.R (by assumption) _ _)) (by omega) ?_
  refine G_istore_e (pc := 13) (fun zw => [(5, .int (zI zw)), (4, .ref (ad (202, t, 0, 0))), (3, .int (zI v1)), (0, .ref (ad (200, 0, 0, 0))), (1, .int (zI t)), (2, .int (zI b))]) dX7_clean_13 (by decide) (fun _ => rfl) (fun v13 e13 => ?_)
  refine G_iconst (pc := 15) dX7_clean_15 ?_
  refine G_istore_e (pc := 16) (fun zw => [(6, .int (zI zw)), (5, .int (zI v13)), (4, .ref (ad (202, t, 0, 0))), (3, .int (zI v1)), (0, .ref (ad (200, 0, 0, 0))), (1, .int (zI t)), (2, .int (zI b))]) dX7_clean_16 (by decide) (fun _ => rfl) (fun v16 e16 => ?_)
  have L18 : ∀ (n : Nat) (m : Int) (p : Int) (T : zS), (((0 ≤ p ∧ p ≤ Q 1 t 0) ∧ 0 ≤ m ∧ m ≤ 80 * p) ∧ lp (zcq Q b t) p (Q 1 t 0) (T, m) = zcl Q b t V ∧ zWV Q T) → (Q 1 t 0 - p).toNat < n → G Γ (zRm 4 0 0) cX7_clean 12 RX7 ad (pm (z_d Γ) ad Q T X) 0 0 18 [(0, .ref (ad (200, 0, 0, 0))), (1, .int (zI t)), (2, .int (zI b)), (3, .int (zI m)), (4, .ref (ad (202, t, 0, 0))), (5, .int (zI v13)), (6, .int (zI p))] [] := by
    intro n
    induction n with
    | zero => intro m p T _ hn; omega
    | succ n ih18 =>
      intro m p T hi18 hn18
      obtain ⟨hp0, hlp, hTV⟩ := hi18
      refine G_iload (pc := 18) 6 dX7_clean_18 rfl ?_
      refine G_iload (pc := 20) 5 dX7_clean_20 rfl ?_
      refine G_icmp_ge (pc := 22) 180 dX7_clean_22 (by decide) (by first | exact zWV.R (by assumption) _ _ | exact ⟨by omega, by omega⟩ | assumption) (by first | exact zWV.R (by assumption) _ _ | exact ⟨by omega, by omega⟩ | assumption) (fun c22 => ?_) (fun c22 => ?_)
      · refine G_iload_n (pc := 180) 3 3 dX7_clean_180 rfl rfl ?_
        exact G_iret_m (pc := 181) hF dX7_clean_181 ⟨Nat.le_of_ble_eq_true rfl, Nat.le_of_ble_eq_true rfl⟩ (by rw [← hlp, lp_end (by omega)]) (by rw [← hlp, lp_end (by omega)])
      · refine G_aload (pc := 25) 4 dX7_clean_25 rfl ?_
        refine G_iload (pc := 27) 6 dX7_clean_27 rfl ?_
        refine G_aldA (pc := 29) (t := 6) rfl dX7_clean_29 (pg_202 (by first | assumption | omega | exact ⟨by omega, by omega⟩ | exact ⟨⟨by omega, by omega⟩, by omega⟩ | exact zWV.R (by assumption) _ _)) ⟨by omega, by omega, by omega, by omega⟩ rfl ?_
        refine G_astore (pc := 30) [(7, .ref (ad (203, t, p, 0))), (0, .ref (ad (200, 0, 0, 0))), (1, .int (zI t)), (2, .int (zI b)), (3, .int (zI m)), (4, .ref (ad (202, t, 0, 0))), (5, .int (zI v13)), (6, .int (zI p))] dX7_clean_30 (by decide) rfl ?_
        refine G_aload_n (pc := 32) 0 1 dX7_clean_32 rfl rfl ?_
        refine G_aload (pc := 33) 0 dX7_clean_33 rfl ?_
        refine G_callVd (pc := 35) gk_X7_149 dX7_clean_35 pg_200 rfl (c_X7_stable (by first | assumption | omega | exact ⟨by omega, by omega⟩ | exact ⟨⟨by omega, by omega⟩, by omega⟩ | exact zWV.R (by assumption) _ _) (by first | assumption | omega | exact ⟨by omega, by omega⟩ | exact ⟨⟨by omega, by omega⟩, by omega⟩ | exact zWV.R (by assumption) _ _) (by first | assumption | omega | exact ⟨by omega, by omega⟩ | exact ⟨⟨by omega, by omega⟩, by omega⟩ | exact zWV.R (by assumption) _ _) (by first | assumption | omega | exact ⟨by omega, by omega⟩ | exact ⟨⟨by omega, by omega⟩, by omega⟩ | exact zWV.R (by assumption) _ _)) rfl rfl (Nat.le_of_ble_eq_true rfl) ⟨⟨Nat.le_of_ble_eq_true rfl, Nat.le_of_ble_eq_true rfl⟩, Nat.le_of_ble_eq_true rfl, Nat.le_of_ble_eq_true rfl⟩ ?_
        refine G_istore_e (pc := 38) (fun zw => [(8, .int (zI zw)), (7, .ref (ad (203, t, p, 0))), (0, .ref (ad (200, 0, 0, 0))), (1, .int (zI t)), (2, .int (zI b)), (3, .int (zI m)), (4, .ref (ad (202, t, 0, 0))), (5, .int (zI v13)), (6, .int (zI p))]) dX7_clean_38 (by decide) (fun _ => rfl) (fun v38 e38 => ?_)
        refine G_iconst (pc := 40) dX7_clean_40 ?_
        refine G_istore_e (pc := 41) (fun zw => [(9, .int (zI zw)), (8, .int (zI v38)), (7, .ref (ad (203, t, p, 0))), (0, .ref (ad (200, 0, 0, 0))), (1, .int (zI t)), (2, .int (zI b)), (3, .int (zI m)), (4, .ref (ad (202, t, 0, 0))), (5, .int (zI v13)), (6, .int (zI p))]) dX7_clean_41 (by decide) (fun _ => rfl) (fun v41 e41 => ?_)
        have hp : 0 ≤ p ∧ p < Q 1 t 0 := ⟨by omega, by omega⟩
        have hM := hP.m ht hp
        have hE := zse_le hP (S := T) ht hp
        have L43 : ∀ (n : Nat) (m2 : Int) (o : Int) (T2 : zS), (((0 ≤ o ∧ o ≤ zse Q T t p) ∧ m ≤ m2 ∧ m2 ≤ m + o) ∧ (lp (zec Q b t p (zse Q T t p)) o (zse Q T t p) (T2, m2) = zcq Q b t p (T, m) ∧ zWV Q T2) ∧ ∀ o' f, f ≠ 5 → T2 (14, t, p, o') f = T (14, t, p, o') f) → (zse Q T t p - o).toNat < n → G Γ (zRm 4 0 0) cX7_clean 12 RX7 ad (pm (z_d Γ) ad Q T2 X) 0 0 43 [(0, .ref (ad (200, 0, 0, 0))), (1, .int (zI t)), (2, .int (zI b)), (3, .int (zI m2)), (4, .ref (ad (202, t, 0, 0))), (5, .int (zI v13)), (6, .int (zI p)), (7, .ref (ad (203, t, p, 0))), (8, .int (zI v38)), (9, .int (zI o))] [] := by
          intro n
          induction n with
          | zero => intro m2 o T2 _ hn; omega
          | succ n ih43 =>
            intro m2 o T2 hi43 hn43
            obtain ⟨ho0, ⟨hlo, hTV2⟩, hfr2⟩ := hi43
            refine G_iload (pc := 43) 9 dX7_clean_43 rfl ?_
            refine G_iload (pc := 45) 8 dX7_clean_45 rfl ?_
            refine G_icmp_ge (pc := 47) 174 dX7_clean_47 (by decide) (by first | exact zWV.R (by assumption) _ _ | exact ⟨by omega, by omega⟩ | assumption) (by first | exact zWV.R (by assumption) _ _ | exact ⟨by omega, by omega⟩ | assumption) (fun c47 => ?_) (fun c47 => ?_)
            · refine G_iinc_e (pc := 174) 6 (fun zw => [(6, .int (zI zw)), (0, .ref (ad (200, 0, 0, 0))), (1, .int (zI t)), (2, .int (zI b)), (3, .int (zI m2)), (4, .ref (ad (202, t, 0, 0))), (5, .int (zI v13)), (7, .ref (ad (203, t, p, 0))), (8, .int (zI v38)), (9, .int (zI o))]) dX7_clean_174 rfl (by decide) (fun _ => rfl) (fun v174 e174 => ?_)
              refine G_goto (pc := 177) 18 dX7_clean_177 (by decide) ?_
              refine G_perm (lv' := [(0, .ref (ad (200, 0, 0, 0))), (1, .int (zI t)), (2, .int (zI b)), (3, .int (zI m2)), (4, .ref (ad (202, t, 0, 0))), (5, .int (zI v13)), (6, .int (zI v174))]) [1, 2, 3, 4, 5, 6, 0] rfl ?_
              exact ih18 m2 v174 T2 ⟨by omega, by rw [e174, ← hlp, lp_step (a := p) (n := Q 1 t 0) (by omega)]; rw [show zcq Q b t p (T, m) = (T2, m2) by rw [← hlo, lp_end (a := o) (by omega)]], hTV2⟩ (by omega)
            · refine G_iconst (pc := 50) dX7_clean_50 ?_
              refine G_istore_e (pc := 51) (fun zw => [(10, .int (zI zw)), (0, .ref (ad (200, 0, 0, 0))), (1, .int (zI t)), (2, .int (zI b)), (3, .int (zI m2)), (4, .ref (ad (202, t, 0, 0))), (5, .int (zI v13)), (6, .int (zI p)), (7, .ref (ad (203, t, p, 0))), (8, .int (zI v38)), (9, .int (zI o))]) dX7_clean_51 (by decide) (fun _ => rfl) (fun v51 e51 => ?_)
              refine G_iload (pc := 53) 10 dX7_clean_53 rfl ?_
              refine G_iconst (pc := 55) dX7_clean_55 ?_
              refine G_iadd (pc := 56) dX7_clean_56 ?_
              refine G_istore_e (pc := 57) (fun zw => [(11, .int (zI zw)), (10, .int (zI v51)), (0, .ref (ad (200, 0, 0, 0))), (1, .int (zI t)), (2, .int (zI b)), (3, .int (zI m2)), (4, .ref (ad (202, t, 0, 0))), (5, .int (zI v13)), (6, .int (zI p)), (7, .ref (ad (203, t, p, 0))), (8, .int (zI v38)), (9, .int (zI o))]) dX7_clean_57 (by decide) (fun _ => rfl) (fun v57 e57 => ?_)
              have ho : 0 ≤ o ∧ o < Q 2 t p := ⟨by omega, by omega⟩
              have hk0 := hTV2.ky t p o
              have hd0 := hTV2.dr t p o
              have hs0 := hTV2.s2 ht hp ho
              have L59 : ∀ (n : Nat) (x : Int) (k : Int), (((o + 1 ≤ k ∧ k ≤ zse Q T t p ∨ k = o + 1) ∧ (x = 0 ∨ x = 1)) ∧ ((x = 1 ∨ fi (fun q => T2 (14, t, p, q) 4 = 0 ∧ T2 (14, t, p, q) 0 = T2 (14, t, p, o) 0) k (zse Q T t p) < zse Q T t p) ↔ fi (fun q => T2 (14, t, p, q) 4 = 0 ∧ T2 (14, t, p, q) 0 = T2 (14, t, p, o) 0) (o + 1) (zse Q T t p) < zse Q T t p)) → (zse Q T t p - k).toNat < n → G Γ (zRm 4 0 0) cX7_clean 12 RX7 ad (pm (z_d Γ) ad Q T2 X) 0 0 59 [(0, .ref (ad (200, 0, 0, 0))), (1, .int (zI t)), (2, .int (zI b)), (3, .int (zI m2)), (4, .ref (ad (202, t, 0, 0))), (5, .int (zI v13)), (6, .int (zI p)), (7, .ref (ad (203, t, p, 0))), (8, .int (zI v38)), (9, .int (zI o)), (10, .int (zI x)), (11, .int (zI k))] [] := by
                intro n
                induction n with
                | zero => intro x k _ hn; omega
                | succ n ih59 =>
                  intro x k hi59 hn59
                  have hxk := hi59.1
                  refine G_iload (pc := 59) 11 dX7_clean_59 rfl ?_
                  refine G_iload (pc := 61) 8 dX7_clean_61 rfl ?_
                  refine G_icmp_ge (pc := 63) 111 dX7_clean_63 (by decide) (by first | exact zWV.R (by assumption) _ _ | exact ⟨by omega, by omega⟩ | assumption) (by first | exact zWV.R (by assumption) _ _ | exact ⟨by omega, by omega⟩ | assumption) (fun c63 => ?_) (fun c63 => ?_)
                  · refine G_iload (pc := 111) 10 dX7_clean_111 rfl ?_
                    have hold : zlt T2 t p o (zse Q T t p) ↔ x = 1 := by rw [show zlt T2 t p o (zse Q T t p) ↔ _ from hi59.2.symm, fi_end (a := k) (by omega)]; omega
                    refine G_if_eq (pc := 113) 168 dX7_clean_113 (by decide) (by first | exact zWV.R (by assumption) _ _ | exact ⟨by omega, by omega⟩ | assumption) (fun c113 => ?_) (fun c113 => ?_)
                    · have hnz : ¬ (x = 1 ∧ ¬ T2 (14, t, p, o) 0 = -1 ∧ T2 (14, t, p, o) 5 = 0 ∧ T2 (14, t, p, o) 4 = 0) → zec Q b t p (zse Q T t p) o (T2, m2) = (T2, m2) := fun hn => if_neg (fun h => by have h' : zod T2 t p o (zse Q T t p) := h; have h5 := hold.mp h'.2.2; exact hn ⟨h5, h'.2.1, h'.1.2, h'.1.1⟩)
                      refine G_iinc_e (pc := 168) 9 (fun zw => [(9, .int (zI zw)), (0, .ref (ad (200, 0, 0, 0))), (1, .int (zI t)), (2, .int (zI b)), (3, .int (zI m2)), (4, .ref (ad (202, t, 0, 0))), (5, .int (zI v13)), (6, .int (zI p)), (7, .ref (ad (203, t, p, 0))), (8, .int (zI v38)), (10, .int (zI x)), (11, .int (zI k))]) dX7_clean_168 rfl (by decide) (fun _ => rfl) (fun v168 e168 => ?_)
                      refine G_goto (pc := 171) 43 dX7_clean_171 (by decide) ?_
                      refine G_perm (lv' := [(0, .ref (ad (200, 0, 0, 0))), (1, .int (zI t)), (2, .int (zI b)), (3, .int (zI m2)), (4, .ref (ad (202, t, 0, 0))), (5, .int (zI v13)), (6, .int (zI p)), (7, .ref (ad (203, t, p, 0))), (8, .int (zI v38)), (9, .int (zI v168))]) [1, 2, 3, 4, 5, 6, 7, 8, 9, 0] rfl ?_
                      exact ih43 m2 v168 T2 ⟨by omega, ⟨by rw [e168, ← hlo, lp_step (a := o) (n := zse Q T t p) (by omega)]; congr 1; first | exact (hnz (by omega)).symm | exact ((zec_y hzo).trans (by rw [e152, if_pos (by omega)])).symm | exact ((zec_y hzo).trans (by rw [e152, if_neg (by omega), hT2])).symm, by assumption⟩, fun o' f hf => by first | exact hfr2 o' f hf | (rw [hT2, zdp_14 hf]; exact hfr2 o' f hf)⟩ (by omega)
                    · refine G_aload (pc := 116) 7 dX7_clean_116 rfl ?_
                      refine G_iload (pc := 118) 9 dX7_clean_118 rfl ?_
                      refine G_aldA (pc := 120) (t := 5) rfl dX7_clean_120 (pg_203 (by first | assumption | omega | exact ⟨by omega, by omega⟩ | exact ⟨⟨by omega, by omega⟩, by omega⟩ | exact zWV.R (by assumption) _ _)) ⟨by omega, by omega, by omega, by omega⟩ rfl ?_
                      refine G_iconst (pc := 121) dX7_clean_121 ?_
                      refine G_ialdV (pc := 122) (T2 (14, t, p, o) 0) dX7_clean_122 (pg_204 (by first | assumption | omega | exact ⟨by omega, by omega⟩ | exact ⟨⟨by omega, by omega⟩, by omega⟩ | exact zWV.R (by assumption) _ _)) ⟨by omega, by omega, by omega, by omega⟩ zpr_0 ?_
                      refine G_if_lt (pc := 123) 168 dX7_clean_123 (by decide) (by first | exact zWV.R (by assumption) _ _ | exact ⟨by omega, by omega⟩ | assumption) (fun c123 => ?_) (fun c123 => ?_)
                      · have hnz : ¬ (x = 1 ∧ ¬ T2 (14, t, p, o) 0 = -1 ∧ T2 (14, t, p, o) 5 = 0 ∧ T2 (14, t, p, o) 4 = 0) → zec Q b t p (zse Q T t p) o (T2, m2) = (T2, m2) := fun hn => if_neg (fun h => by have h' : zod T2 t p o (zse Q T t p) := h; have h5 := hold.mp h'.2.2; exact hn ⟨h5, h'.2.1, h'.1.2, h'.1.1⟩)
                        refine G_iinc_e (pc := 168) 9 (fun zw => [(9, .int (zI zw)), (0, .ref (ad (200, 0, 0, 0))), (1, .int (zI t)), (2, .int (zI b)), (3, .int (zI m2)), (4, .ref (ad (202, t, 0, 0))), (5, .int (zI v13)), (6, .int (zI p)), (7, .ref (ad (203, t, p, 0))), (8, .int (zI v38)), (10, .int (zI x)), (11, .int (zI k))]) dX7_clean_168 rfl (by decide) (fun _ => rfl) (fun v168 e168 => ?_)
                        refine G_goto (pc := 171) 43 dX7_clean_171 (by decide) ?_
                        refine G_perm (lv' := [(0, .ref (ad (200, 0, 0, 0))), (1, .int (zI t)), (2, .int (zI b)), (3, .int (zI m2)), (4, .ref (ad (202, t, 0, 0))), (5, .int (zI v13)), (6, .int (zI p)), (7, .ref (ad (203, t, p, 0))), (8, .int (zI v38)), (9, .int (zI v168))]) [1, 2, 3, 4, 5, 6, 7, 8, 9, 0] rfl ?_
                        exact ih43 m2 v168 T2 ⟨by omega, ⟨by rw [e168, ← hlo, lp_step (a := o) (n := zse Q T t p) (by omega)]; congr 1; first | exact (hnz (by omega)).symm | exact ((zec_y hzo).trans (by rw [e152, if_pos (by omega)])).symm | exact ((zec_y hzo).trans (by rw [e152, if_neg (by omega), hT2])).symm, by assumption⟩, fun o' f hf => by first | exact hfr2 o' f hf | (rw [hT2, zdp_14 hf]; exact hfr2 o' f hf)⟩ (by omega)
                      · refine G_aload (pc := 126) 7 dX7_clean_126 rfl ?_
                        refine G_iload (pc := 128) 9 dX7_clean_128 rfl ?_
                        refine G_aldA (pc := 130) (t := 5) rfl dX7_clean_130 (pg_203 (by first | assumption | omega | exact ⟨by omega, by omega⟩ | exact ⟨⟨by omega, by omega⟩, by omega⟩ | exact zWV.R (by assumption) _ _)) ⟨by omega, by omega, by omega, by omega⟩ rfl ?_
                        refine G_iconst (pc := 131) dX7_clean_131 ?_
                        refine G_ialdV (pc := 132) (T2 (14, t, p, o) 5) dX7_clean_132 (pg_204 (by first | assumption | omega | exact ⟨by omega, by omega⟩ | exact ⟨⟨by omega, by omega⟩, by omega⟩ | exact zWV.R (by assumption) _ _)) ⟨by omega, by omega, by omega, by omega⟩ zpr_4 ?_
                        refine G_iconst (pc := 133) dX7_clean_133 ?_
                        refine G_icmp_eq (pc := 134) 168 dX7_clean_134 (by decide) (by first | exact zWV.R (by assumption) _ _ | exact ⟨by omega, by omega⟩ | assumption) (by first | exact zWV.R (by assumption) _ _ | exact ⟨by omega, by omega⟩ | assumption) (fun c134 => ?_) (fun c134 => ?_)
                        · have hnz : ¬ (x = 1 ∧ ¬ T2 (14, t, p, o) 0 = -1 ∧ T2 (14, t, p, o) 5 = 0 ∧ T2 (14, t, p, o) 4 = 0) → zec Q b t p (zse Q T t p) o (T2, m2) = (T2, m2) := fun hn => if_neg (fun h => by have h' : zod T2 t p o (zse Q T t p) := h; have h5 := hold.mp h'.2.2; exact hn ⟨h5, h'.2.1, h'.1.2, h'.1.1⟩)
                          refine G_iinc_e (pc := 168) 9 (fun zw => [(9, .int (zI zw)), (0, .ref (ad (200, 0, 0, 0))), (1, .int (zI t)), (2, .int (zI b)), (3, .int (zI m2)), (4, .ref (ad (202, t, 0, 0))), (5, .int (zI v13)), (6, .int (zI p)), (7, .ref (ad (203, t, p, 0))), (8, .int (zI v38)), (10, .int (zI x)), (11, .int (zI k))]) dX7_clean_168 rfl (by decide) (fun _ => rfl) (fun v168 e168 => ?_)
                          refine G_goto (pc := 171) 43 dX7_clean_171 (by decide) ?_
                          refine G_perm (lv' := [(0, .ref (ad (200, 0, 0, 0))), (1, .int (zI t)), (2, .int (zI b)), (3, .int (zI m2)), (4, .ref (ad (202, t, 0, 0))), (5, .int (zI v13)), (6, .int (zI p)), (7, .ref (ad (203, t, p, 0))), (8, .int (zI v38)), (9, .int (zI v168))]) [1, 2, 3, 4, 5, 6, 7, 8, 9, 0] rfl ?_
                          exact ih43 m2 v168 T2 ⟨by omega, ⟨by rw [e168, ← hlo, lp_step (a := o) (n := zse Q T t p) (by omega)]; congr 1; first | exact (hnz (by omega)).symm | exact ((zec_y hzo).trans (by rw [e152, if_pos (by omega)])).symm | exact ((zec_y hzo).trans (by rw [e152, if_neg (by omega), hT2])).symm, by assumption⟩, fun o' f hf => by first | exact hfr2 o' f hf | (rw [hT2, zdp_14 hf]; exact hfr2 o' f hf)⟩ (by omega)
                        · refine G_aload_n (pc := 137) 0 0 dX7_clean_137 rfl rfl ?_
                          refine G_aload (pc := 138) 7 dX7_clean_138 rfl ?_
                          refine G_iload (pc := 140) 9 dX7_clean_140 rfl ?_
                          refine G_aldA (pc := 142) (t := 5) rfl dX7_clean_142 (pg_203 (by first | assumption | omega | exact ⟨by omega, by omega⟩ | exact ⟨⟨by omega, by omega⟩, by omega⟩ | exact zWV.R (by assumption) _ _)) ⟨by omega, by omega, by omega, by omega⟩ rfl ?_
                          refine G_callVd (pc := 143) gk_X7_101 dX7_clean_143 pg_200 rfl (c_X7_seen (by first | assumption | omega | exact ⟨by omega, by omega⟩ | exact ⟨⟨by omega, by omega⟩, by omega⟩ | exact zWV.R (by assumption) _ _) (by first | assumption | omega | exact ⟨by omega, by omega⟩ | exact ⟨⟨by omega, by omega⟩, by omega⟩ | exact zWV.R (by assumption) _ _) (by first | assumption | omega | exact ⟨by omega, by omega⟩ | exact ⟨⟨by omega, by omega⟩, by omega⟩ | exact zWV.R (by assumption) _ _) (by first | assumption | omega | exact ⟨by omega, by omega⟩ | exact ⟨⟨by omega, by omega⟩, by omega⟩ | exact zWV.R (by assumption) _ _) (by first | assumption | omega | exact ⟨by omega, by omega⟩ | exact ⟨⟨by omega, by omega⟩, by omega⟩ | exact zWV.R (by assumption) _ _)) rfl rfl (Nat.le_of_ble_eq_true rfl) ⟨⟨Nat.le_of_ble_eq_true rfl, Nat.le_of_ble_eq_true rfl⟩, Nat.le_of_ble_eq_true rfl, Nat.le_of_ble_eq_true rfl⟩ ?_
                          refine G_if_eq (pc := 146) 152 dX7_clean_146 (by decide) (by first | exact zWV.R (by assumption) _ _ | exact ⟨by omega, by omega⟩ | assumption) (fun c146 => ?_) (fun c146 => ?_)
                          · have hzo : zod T2 t p o (zse Q T t p) := ⟨⟨by omega, by omega⟩, by omega, hold.mpr (by omega)⟩
                            refine G_iinc_e (pc := 152) 3 (fun zw => [(3, .int (zI zw)), (0, .ref (ad (200, 0, 0, 0))), (1, .int (zI t)), (2, .int (zI b)), (4, .ref (ad (202, t, 0, 0))), (5, .int (zI v13)), (6, .int (zI p)), (7, .ref (ad (203, t, p, 0))), (8, .int (zI v38)), (9, .int (zI o)), (10, .int (zI x)), (11, .int (zI k))]) dX7_clean_152 rfl (by decide) (fun _ => rfl) (fun v152 e152 => ?_)
                            refine G_iload_n (pc := 155) 2 3 dX7_clean_155 rfl rfl ?_
                            refine G_if_eq (pc := 156) 168 dX7_clean_156 (by decide) (by first | exact zWV.R (by assumption) _ _ | exact ⟨by omega, by omega⟩ | assumption) (fun c156 => ?_) (fun c156 => ?_)
                            · have hnz : ¬ (x = 1 ∧ ¬ T2 (14, t, p, o) 0 = -1 ∧ T2 (14, t, p, o) 5 = 0 ∧ T2 (14, t, p, o) 4 = 0) → zec Q b t p (zse Q T t p) o (T2, m2) = (T2, m2) := fun hn => if_neg (fun h => by have h' : zod T2 t p o (zse Q T t p) := h; have h5 := hold.mp h'.2.2; exact hn ⟨h5, h'.2.1, h'.1.2, h'.1.1⟩)
                              refine G_iinc_e (pc := 168) 9 (fun zw => [(9, .int (zI zw)), (3, .int (zI v152)), (0, .ref (ad (200, 0, 0, 0))), (1, .int (zI t)), (2, .int (zI b)), (4, .ref (ad (202, t, 0, 0))), (5, .int (zI v13)), (6, .int (zI p)), (7, .ref (ad (203, t, p, 0))), (8, .int (zI v38)), (10, .int (zI x)), (11, .int (zI k))]) dX7_clean_168 rfl (by decide) (fun _ => rfl) (fun v168 e168 => ?_)
                              refine G_goto (pc := 171) 43 dX7_clean_171 (by decide) ?_
                              refine G_perm (lv' := [(0, .ref (ad (200, 0, 0, 0))), (1, .int (zI t)), (2, .int (zI b)), (3, .int (zI v152)), (4, .ref (ad (202, t, 0, 0))), (5, .int (zI v13)), (6, .int (zI p)), (7, .ref (ad (203, t, p, 0))), (8, .int (zI v38)), (9, .int (zI v168))]) [2, 3, 4, 1, 5, 6, 7, 8, 9, 0] rfl ?_
                              exact ih43 v152 v168 T2 ⟨by omega, ⟨by rw [e168, ← hlo, lp_step (a := o) (n := zse Q T t p) (by omega)]; congr 1; first | exact (hnz (by omega)).symm | exact ((zec_y hzo).trans (by rw [e152, if_pos (by omega)])).symm | exact ((zec_y hzo).trans (by rw [e152, if_neg (by omega), hT2])).symm, by assumption⟩, fun o' f hf => by first | exact hfr2 o' f hf | (rw [hT2, zdp_14 hf]; exact hfr2 o' f hf)⟩ (by omega)
                            · refine G_aload_n (pc := 159) 0 1 dX7_clean_159 rfl rfl ?_
                              refine G_aload (pc := 160) 7 dX7_clean_160 rfl ?_
                              refine G_iload (pc := 162) 9 dX7_clean_162 rfl ?_
                              refine G_aldA (pc := 164) (t := 5) rfl dX7_clean_164 (pg_203 (by first | assumption | omega | exact ⟨by omega, by omega⟩ | exact ⟨⟨by omega, by omega⟩, by omega⟩ | exact zWV.R (by assumption) _ _)) ⟨by omega, by omega, by omega, by omega⟩ rfl ?_
                              refine G_callVv (pc := 165) gk_X7_153 dX7_clean_165 pg_200 rfl (c_X7_drop (by first | assumption | omega | exact ⟨by omega, by omega⟩ | exact ⟨⟨by omega, by omega⟩, by omega⟩ | exact zWV.R (by assumption) _ _) (by first | assumption | omega | exact ⟨by omega, by omega⟩ | exact ⟨⟨by omega, by omega⟩, by omega⟩ | exact zWV.R (by assumption) _ _) (by first | assumption | omega | exact ⟨by omega, by omega⟩ | exact ⟨⟨by omega, by omega⟩, by omega⟩ | exact zWV.R (by assumption) _ _) (by first | assumption | omega | exact ⟨by omega, by omega⟩ | exact ⟨⟨by omega, by omega⟩, by omega⟩ | exact zWV.R (by assumption) _ _) (by first | assumption | omega | exact ⟨by omega, by omega⟩ | exact ⟨⟨by omega, by omega⟩, by omega⟩ | exact zWV.R (by assumption) _ _)) rfl rfl (Nat.le_of_ble_eq_true rfl) ⟨⟨Nat.le_of_ble_eq_true rfl, Nat.le_of_ble_eq_true rfl⟩, Nat.le_of_ble_eq_true rfl, Nat.le_of_ble_eq_true rfl⟩ ?_
                              refine G_nameV (fun V1_165 hV1_165 => ?_)
                              have hVV1_165 : zWV Q V1_165 := by rw [hV1_165]; exact zdp_V hP hTV2
                              have hnz : ¬ (x = 1 ∧ ¬ T2 (14, t, p, o) 0 = -1 ∧ T2 (14, t, p, o) 5 = 0 ∧ T2 (14, t, p, o) 4 = 0) → zec Q b t p (zse Q T t p) o (T2, m2) = (T2, m2) := fun hn => if_neg (fun h => by have h' : zod T2 t p o (zse Q T t p) := h; have h5 := hold.mp h'.2.2; exact hn ⟨h5, h'.2.1, h'.1.2, h'.1.1⟩)
                              refine G_iinc_e (pc := 168) 9 (fun zw => [(9, .int (zI zw)), (3, .int (zI v152)), (0, .ref (ad (200, 0, 0, 0))), (1, .int (zI t)), (2, .int (zI b)), (4, .ref (ad (202, t, 0, 0))), (5, .int (zI v13)), (6, .int (zI p)), (7, .ref (ad (203, t, p, 0))), (8, .int (zI v38)), (10, .int (zI x)), (11, .int (zI k))]) dX7_clean_168 rfl (by decide) (fun _ => rfl) (fun v168 e168 => ?_)
                              refine G_goto (pc := 171) 43 dX7_clean_171 (by decide) ?_
                              refine G_perm (lv' := [(0, .ref (ad (200, 0, 0, 0))), (1, .int (zI t)), (2, .int (zI b)), (3, .int (zI v152)), (4, .ref (ad (202, t, 0, 0))), (5, .int (zI v13)), (6, .int (zI p)), (7, .ref (ad (203, t, p, 0))), (8, .int (zI v38)), (9, .int (zI v168))]) [2, 3, 4, 1, 5, 6, 7, 8, 9, 0] rfl ?_
                              exact ih43 v152 v168 V1_165 ⟨by omega, ⟨by rw [e168, ← hlo, lp_step (a := o) (n := zse Q T t p) (by omega)]; congr 1; first | exact (hnz (by omega)).symm | exact ((zec_y hzo).trans (by rw [e152, if_pos (by omega)])).symm | exact ((zec_y hzo).trans (by rw [e152, if_neg (by omega), hV1_165])).symm, by assumption⟩, fun o' f hf => by first | exact hfr2 o' f hf | (rw [hV1_165, zdp_14 hf]; exact hfr2 o' f hf)⟩ (by omega)
                          · refine G_goto (pc := 149) 168 dX7_clean_149 (by decide) ?_
                            have hnz : ¬ (x = 1 ∧ ¬ T2 (14, t, p, o) 0 = -1 ∧ T2 (14, t, p, o) 5 = 0 ∧ T2 (14, t, p, o) 4 = 0) → zec Q b t p (zse Q T t p) o (T2, m2) = (T2, m2) := fun hn => if_neg (fun h => by have h' : zod T2 t p o (zse Q T t p) := h; have h5 := hold.mp h'.2.2; exact hn ⟨h5, h'.2.1, h'.1.2, h'.1.1⟩)
                            refine G_iinc_e (pc := 168) 9 (fun zw => [(9, .int (zI zw)), (0, .ref (ad (200, 0, 0, 0))), (1, .int (zI t)), (2, .int (zI b)), (3, .int (zI m2)), (4, .ref (ad (202, t, 0, 0))), (5, .int (zI v13)), (6, .int (zI p)), (7, .ref (ad (203, t, p, 0))), (8, .int (zI v38)), (10, .int (zI x)), (11, .int (zI k))]) dX7_clean_168 rfl (by decide) (fun _ => rfl) (fun v168 e168 => ?_)
                            refine G_goto (pc := 171) 43 dX7_clean_171 (by decide) ?_
                            refine G_perm (lv' := [(0, .ref (ad (200, 0, 0, 0))), (1, .int (zI t)), (2, .int (zI b)), (3, .int (zI m2)), (4, .ref (ad (202, t, 0, 0))), (5, .int (zI v13)), (6, .int (zI p)), (7, .ref (ad (203, t, p, 0))), (8, .int (zI v38)), (9, .int (zI v168))]) [1, 2, 3, 4, 5, 6, 7, 8, 9, 0] rfl ?_
                            exact ih43 m2 v168 T2 ⟨by omega, ⟨by rw [e168, ← hlo, lp_step (a := o) (n := zse Q T t p) (by omega)]; congr 1; first | exact (hnz (by omega)).symm | exact ((zec_y hzo).trans (by rw [e152, if_pos (by omega)])).symm | exact ((zec_y hzo).trans (by rw [e152, if_neg (by omega), hT2])).symm, by assumption⟩, fun o' f hf => by first | exact hfr2 o' f hf | (rw [hT2, zdp_14 hf]; exact hfr2 o' f hf)⟩ (by omega)
                  · refine G_iload (pc := 66) 10 dX7_clean_66 rfl ?_
                    have hk : 0 ≤ k ∧ k < Q 2 t p := ⟨by omega, by omega⟩
                    have hsk := hTV2.s2 ht hp hk
                    refine G_aload (pc := 68) 7 dX7_clean_68 rfl ?_
                    refine G_iload (pc := 70) 11 dX7_clean_70 rfl ?_
                    refine G_aldA (pc := 72) (t := 5) rfl dX7_clean_72 (pg_203 (by first | assumption | omega | exact ⟨by omega, by omega⟩ | exact ⟨⟨by omega, by omega⟩, by omega⟩ | exact zWV.R (by assumption) _ _)) ⟨by omega, by omega, by omega, by omega⟩ rfl ?_
                    refine G_iconst (pc := 73) dX7_clean_73 ?_
                    refine G_ialdV (pc := 74) (T2 (14, t, p, k) 0) dX7_clean_74 (pg_204 (by first | assumption | omega | exact ⟨by omega, by omega⟩ | exact ⟨⟨by omega, by omega⟩, by omega⟩ | exact zWV.R (by assumption) _ _)) ⟨by omega, by omega, by omega, by omega⟩ zpr_0 ?_
                    refine G_aload (pc := 75) 7 dX7_clean_75 rfl ?_
                    refine G_iload (pc := 77) 9 dX7_clean_77 rfl ?_
                    refine G_aldA (pc := 79) (t := 5) rfl dX7_clean_79 (pg_203 (by first | assumption | omega | exact ⟨by omega, by omega⟩ | exact ⟨⟨by omega, by omega⟩, by omega⟩ | exact zWV.R (by assumption) _ _)) ⟨by omega, by omega, by omega, by omega⟩ rfl ?_
                    refine G_iconst (pc := 80) dX7_clean_80 ?_
                    refine G_ialdV (pc := 81) (T2 (14, t, p, o) 0) dX7_clean_81 (pg_204 (by first | assumption | omega | exact ⟨by omega, by omega⟩ | exact ⟨⟨by omega, by omega⟩, by omega⟩ | exact zWV.R (by assumption) _ _)) ⟨by omega, by omega, by omega, by omega⟩ zpr_0 ?_
                    refine G_icmp_ne (pc := 82) 101 dX7_clean_82 (by decide) (by first | exact zWV.R (by assumption) _ _ | exact ⟨by omega, by omega⟩ | assumption) (by first | exact zWV.R (by assumption) _ _ | exact ⟨by omega, by omega⟩ | assumption) (fun c82 => ?_) (fun c82 => ?_)
                    · refine G_iconst (pc := 101) dX7_clean_101 ?_
                      refine G_ior01 (pc := 102) dX7_clean_102 (by omega) (by omega) ?_
                      refine G_istore_e (pc := 103) (fun zw => [(10, .int (zI zw)), (0, .ref (ad (200, 0, 0, 0))), (1, .int (zI t)), (2, .int (zI b)), (3, .int (zI m2)), (4, .ref (ad (202, t, 0, 0))), (5, .int (zI v13)), (6, .int (zI p)), (7, .ref (ad (203, t, p, 0))), (8, .int (zI v38)), (9, .int (zI o)), (11, .int (zI k))]) dX7_clean_103 (by decide) (fun _ => rfl) (fun v103 e103 => ?_)
                      refine G_iinc_e (pc := 105) 11 (fun zw => [(11, .int (zI zw)), (10, .int (zI v103)), (0, .ref (ad (200, 0, 0, 0))), (1, .int (zI t)), (2, .int (zI b)), (3, .int (zI m2)), (4, .ref (ad (202, t, 0, 0))), (5, .int (zI v13)), (6, .int (zI p)), (7, .ref (ad (203, t, p, 0))), (8, .int (zI v38)), (9, .int (zI o))]) dX7_clean_105 rfl (by decide) (fun _ => rfl) (fun v105 e105 => ?_)
                      refine G_goto (pc := 108) 59 dX7_clean_108 (by decide) ?_
                      refine G_perm (lv' := [(0, .ref (ad (200, 0, 0, 0))), (1, .int (zI t)), (2, .int (zI b)), (3, .int (zI m2)), (4, .ref (ad (202, t, 0, 0))), (5, .int (zI v13)), (6, .int (zI p)), (7, .ref (ad (203, t, p, 0))), (8, .int (zI v38)), (9, .int (zI o)), (10, .int (zI v103)), (11, .int (zI v105))]) [2, 3, 4, 5, 6, 7, 8, 9, 10, 11, 1, 0] rfl ?_
                      exact ih59 v103 v105  ⟨⟨Or.inl (by omega), by rw [e103]; omega⟩, (by rw [e105, ← hi59.2, e103]; exact zold_step (Q := (fun q => T2 (14, t, p, q) 4 = 0 ∧ T2 (14, t, p, q) 0 = T2 (14, t, p, o) 0)) (by omega) hxk.2 (by omega) (by first | (exact ⟨fun _ => ⟨by omega, by omega⟩, fun _ => rfl⟩) | (exact ⟨fun h => by omega, fun h => by obtain ⟨h1, h2⟩ := h; omega⟩)))⟩ (by omega)
                    · refine G_aload_n (pc := 85) 0 0 dX7_clean_85 rfl rfl ?_
                      refine G_aload (pc := 86) 7 dX7_clean_86 rfl ?_
                      refine G_iload (pc := 88) 11 dX7_clean_88 rfl ?_
                      refine G_aldA (pc := 90) (t := 5) rfl dX7_clean_90 (pg_203 (by first | assumption | omega | exact ⟨by omega, by omega⟩ | exact ⟨⟨by omega, by omega⟩, by omega⟩ | exact zWV.R (by assumption) _ _)) ⟨by omega, by omega, by omega, by omega⟩ rfl ?_
                      refine G_callVd (pc := 91) gk_X7_101 dX7_clean_91 pg_200 rfl (c_X7_seen (by first | assumption | omega | exact ⟨by omega, by omega⟩ | exact ⟨⟨by omega, by omega⟩, by omega⟩ | exact zWV.R (by assumption) _ _) (by first | assumption | omega | exact ⟨by omega, by omega⟩ | exact ⟨⟨by omega, by omega⟩, by omega⟩ | exact zWV.R (by assumption) _ _) (by first | assumption | omega | exact ⟨by omega, by omega⟩ | exact ⟨⟨by omega, by omega⟩, by omega⟩ | exact zWV.R (by assumption) _ _) (by first | assumption | omega | exact ⟨by omega, by omega⟩ | exact ⟨⟨by omega, by omega⟩, by omega⟩ | exact zWV.R (by assumption) _ _) (by first | assumption | omega | exact ⟨by omega, by omega⟩ | exact ⟨⟨by omega, by omega⟩, by omega⟩ | exact zWV.R (by assumption) _ _)) rfl rfl (Nat.le_of_ble_eq_true rfl) ⟨⟨Nat.le_of_ble_eq_true rfl, Nat.le_of_ble_eq_true rfl⟩, Nat.le_of_ble_eq_true rfl, Nat.le_of_ble_eq_true rfl⟩ ?_
                      refine G_if_ne (pc := 94) 101 dX7_clean_94 (by decide) (by first | exact zWV.R (by assumption) _ _ | exact ⟨by omega, by omega⟩ | assumption) (fun c94 => ?_) (fun c94 => ?_)
                      · refine G_iconst (pc := 101) dX7_clean_101 ?_
                        refine G_ior01 (pc := 102) dX7_clean_102 (by omega) (by omega) ?_
                        refine G_istore_e (pc := 103) (fun zw => [(10, .int (zI zw)), (0, .ref (ad (200, 0, 0, 0))), (1, .int (zI t)), (2, .int (zI b)), (3, .int (zI m2)), (4, .ref (ad (202, t, 0, 0))), (5, .int (zI v13)), (6, .int (zI p)), (7, .ref (ad (203, t, p, 0))), (8, .int (zI v38)), (9, .int (zI o)), (11, .int (zI k))]) dX7_clean_103 (by decide) (fun _ => rfl) (fun v103 e103 => ?_)
                        refine G_iinc_e (pc := 105) 11 (fun zw => [(11, .int (zI zw)), (10, .int (zI v103)), (0, .ref (ad (200, 0, 0, 0))), (1, .int (zI t)), (2, .int (zI b)), (3, .int (zI m2)), (4, .ref (ad (202, t, 0, 0))), (5, .int (zI v13)), (6, .int (zI p)), (7, .ref (ad (203, t, p, 0))), (8, .int (zI v38)), (9, .int (zI o))]) dX7_clean_105 rfl (by decide) (fun _ => rfl) (fun v105 e105 => ?_)
                        refine G_goto (pc := 108) 59 dX7_clean_108 (by decide) ?_
                        refine G_perm (lv' := [(0, .ref (ad (200, 0, 0, 0))), (1, .int (zI t)), (2, .int (zI b)), (3, .int (zI m2)), (4, .ref (ad (202, t, 0, 0))), (5, .int (zI v13)), (6, .int (zI p)), (7, .ref (ad (203, t, p, 0))), (8, .int (zI v38)), (9, .int (zI o)), (10, .int (zI v103)), (11, .int (zI v105))]) [2, 3, 4, 5, 6, 7, 8, 9, 10, 11, 1, 0] rfl ?_
                        exact ih59 v103 v105  ⟨⟨Or.inl (by omega), by rw [e103]; omega⟩, (by rw [e105, ← hi59.2, e103]; exact zold_step (Q := (fun q => T2 (14, t, p, q) 4 = 0 ∧ T2 (14, t, p, q) 0 = T2 (14, t, p, o) 0)) (by omega) hxk.2 (by omega) (by first | (exact ⟨fun _ => ⟨by omega, by omega⟩, fun _ => rfl⟩) | (exact ⟨fun h => by omega, fun h => by obtain ⟨h1, h2⟩ := h; omega⟩)))⟩ (by omega)
                      · refine G_iconst (pc := 97) dX7_clean_97 ?_
                        refine G_goto (pc := 98) 102 dX7_clean_98 (by decide) ?_
                        refine G_ior01 (pc := 102) dX7_clean_102 (by omega) (by omega) ?_
                        refine G_istore_e (pc := 103) (fun zw => [(10, .int (zI zw)), (0, .ref (ad (200, 0, 0, 0))), (1, .int (zI t)), (2, .int (zI b)), (3, .int (zI m2)), (4, .ref (ad (202, t, 0, 0))), (5, .int (zI v13)), (6, .int (zI p)), (7, .ref (ad (203, t, p, 0))), (8, .int (zI v38)), (9, .int (zI o)), (11, .int (zI k))]) dX7_clean_103 (by decide) (fun _ => rfl) (fun v103 e103 => ?_)
                        refine G_iinc_e (pc := 105) 11 (fun zw => [(11, .int (zI zw)), (10, .int (zI v103)), (0, .ref (ad (200, 0, 0, 0))), (1, .int (zI t)), (2, .int (zI b)), (3, .int (zI m2)), (4, .ref (ad (202, t, 0, 0))), (5, .int (zI v13)), (6, .int (zI p)), (7, .ref (ad (203, t, p, 0))), (8, .int (zI v38)), (9, .int (zI o))]) dX7_clean_105 rfl (by decide) (fun _ => rfl) (fun v105 e105 => ?_)
                        refine G_goto (pc := 108) 59 dX7_clean_108 (by decide) ?_
                        refine G_perm (lv' := [(0, .ref (ad (200, 0, 0, 0))), (1, .int (zI t)), (2, .int (zI b)), (3, .int (zI m2)), (4, .ref (ad (202, t, 0, 0))), (5, .int (zI v13)), (6, .int (zI p)), (7, .ref (ad (203, t, p, 0))), (8, .int (zI v38)), (9, .int (zI o)), (10, .int (zI v103)), (11, .int (zI v105))]) [2, 3, 4, 5, 6, 7, 8, 9, 10, 11, 1, 0] rfl ?_
                        exact ih59 v103 v105  ⟨⟨Or.inl (by omega), by rw [e103]; omega⟩, (by rw [e105, ← hi59.2, e103]; exact zold_step (Q := (fun q => T2 (14, t, p, q) 4 = 0 ∧ T2 (14, t, p, q) 0 = T2 (14, t, p, o) 0)) (by omega) hxk.2 (by omega) (by first | (exact ⟨fun _ => ⟨by omega, by omega⟩, fun _ => rfl⟩) | (exact ⟨fun h => by omega, fun h => by obtain ⟨h1, h2⟩ := h; omega⟩)))⟩ (by omega)
              refine G_perm (lv' := [(0, .ref (ad (200, 0, 0, 0))), (1, .int (zI t)), (2, .int (zI b)), (3, .int (zI m2)), (4, .ref (ad (202, t, 0, 0))), (5, .int (zI v13)), (6, .int (zI p)), (7, .ref (ad (203, t, p, 0))), (8, .int (zI v38)), (9, .int (zI o)), (10, .int (zI v51)), (11, .int (zI v57))]) [2, 3, 4, 5, 6, 7, 8, 9, 10, 11, 1, 0] rfl ?_
              exact L59 _ v51 v57  ⟨⟨Or.inr (by omega), Or.inl e51⟩, by rw [e57]; exact ⟨fun h => h.elim (fun h => by omega) id, Or.inr⟩⟩ (Nat.lt_succ_self _)
        refine G_perm (lv' := [(0, .ref (ad (200, 0, 0, 0))), (1, .int (zI t)), (2, .int (zI b)), (3, .int (zI m)), (4, .ref (ad (202, t, 0, 0))), (5, .int (zI v13)), (6, .int (zI p)), (7, .ref (ad (203, t, p, 0))), (8, .int (zI v38)), (9, .int (zI v41))]) [3, 4, 5, 6, 7, 8, 9, 2, 1, 0] rfl ?_
        exact L43 _ m v41 T ⟨by omega, ⟨by rw [e41]; rfl, hTV⟩, fun _ _ _ => rfl⟩ (Nat.lt_succ_self _)
  refine G_perm (lv' := [(0, .ref (ad (200, 0, 0, 0))), (1, .int (zI t)), (2, .int (zI b)), (3, .int (zI v1)), (4, .ref (ad (202, t, 0, 0))), (5, .int (zI v13)), (6, .int (zI v16))]) [4, 5, 6, 3, 2, 1, 0] rfl ?_
  exact L18 _ v1 v16 V ⟨by omega, by rw [e1, e16]; rfl, hV⟩ (Nat.lt_succ_self _)
