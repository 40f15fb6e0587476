/-! ===== a whole row is written anew ===== -/
theorem mm_row {Δ : zDl} {ad : zK → Nat} {P : zP} {S : zS} {X : zMem} (k : zK) (hk : k.1 < 80) (r : Int → Int) (e : va_E) (he : zcnt Δ ad P k r = some e) : zup1 (mm Δ ad P S X) k (some e) = mm Δ ad P (zup1 S k r) X := by
  funext j
  by_cases h : j = k
  · subst h
    rw [zup1_s, mm_lt _ hk, zup1_s, he]
  · rw [zup1_n _ _ h]
    show (if j.1 < 80 then zcnt Δ ad P j (S j) else X j) = if j.1 < 80 then zcnt Δ ad P j (zup1 S k r j) else X j
    rw [zup1_n _ _ h]
theorem zcp5 (S : zS) (k : zK) (d a b c x y : Int) : zup1 S k (zcp (zup (zup (zup (zup (zup (fun _ => 0) 0 a) 1 b) 2 c) 3 x) 4 y) (S k) 0 d 5) = zst (zst (zst (zst (zst S k d a) k (d + 1) b) k (d + 2) c) k (d + 3) x) k (d + 4) y := by
  funext k' f
  by_cases hk : k' = k
  · subst hk
    rw [zup1_s, zst_at, zst_at, zst_at, zst_at, zst_at]
    show (if d ≤ f ∧ f < d + 5 then _ else _) = _
    by_cases h4 : f = d + 4
    · subst h4
      rw [if_pos ⟨by omega, by omega⟩, if_pos ⟨rfl, rfl⟩]
      exact if_pos (by omega)
    · rw [if_neg (c := k' = k' ∧ f = d + 4) (fun q => h4 q.2)]
      by_cases h3 : f = d + 3
      · subst h3
        rw [if_pos ⟨by omega, by omega⟩, if_pos ⟨rfl, rfl⟩]
        exact (if_neg (by omega)).trans (if_pos (by omega))
      · rw [if_neg (c := k' = k' ∧ f = d + 3) (fun q => h3 q.2)]
        by_cases h2 : f = d + 2
        · subst h2
          rw [if_pos ⟨by omega, by omega⟩, if_pos ⟨rfl, rfl⟩]
          exact (if_neg (by omega)).trans ((if_neg (by omega)).trans (if_pos (by omega)))
        · rw [if_neg (c := k' = k' ∧ f = d + 2) (fun q => h2 q.2)]
          by_cases h1 : f = d + 1
          · subst h1
            rw [if_pos ⟨by omega, by omega⟩, if_pos ⟨rfl, rfl⟩]
            exact (if_neg (by omega)).trans ((if_neg (by omega)).trans ((if_neg (by omega)).trans (if_pos (by omega))))
          · rw [if_neg (c := k' = k' ∧ f = d + 1) (fun q => h1 q.2)]
            by_cases h0 : f = d
            · subst h0
              rw [if_pos ⟨by omega, by omega⟩, if_pos ⟨rfl, rfl⟩]
              exact (if_neg (by omega)).trans ((if_neg (by omega)).trans ((if_neg (by omega)).trans ((if_neg (by omega)).trans (if_pos (by omega)))))
            · rw [if_neg (c := k' = k' ∧ f = d) (fun q => h0 q.2)]
              exact if_neg (fun q => by omega)
  · rw [zup1_n _ _ hk, zst_k _ _ _ _ hk, zst_k _ _ _ _ hk, zst_k _ _ _ _ hk, zst_k _ _ _ _ hk, zst_k _ _ _ _ hk]
section ZCALLA
variable {Γ : zCx} {R : Room} {cc : ByteArray} {nL : Nat} {own : String} {ad : zK → Nat} {M M' : zMem} {nc ns pc : Nat} {lv : List (Nat × Value)} {st : List Value}
variable {key : zK} {ci : Nat} {fs : List Value} {r : vw_C} {idx n d mc ms maxL : Nat} {y : MethodName} {b : ByteArray} {ret : Option FieldType} {As rest : List Value} {x : Value}
theorem G_callVdA (hw : zCV own idx r.1 y b maxL ret n) (hd : decode cc pc = .ok (.invokevirtual idx, 3)) (hM : M key = some (.inr (ci, fs))) (hc : vwCl[ci]? = some r) (hm : zMn (z_l Γ) (z_d Γ) y b maxL ret d mc ms (.ref (ad key) :: As) ad M (zD (some x) ad M')) (hn : As.length = n) (hst : st = As.reverse ++ .ref (ad key) :: rest) (hro : (rest.map fun v => v.category).sum ≤ 8) (hR : zRo R d mc ms maxL nc ns)
    (kk : G Γ R cc nL own ad M' (nc + mc) (ns + ms) (pc + 3) lv (x :: rest)) : G Γ R cc nL own ad M nc ns pc lv st :=
  G_callV hw hd hM hc hm hn hst hro hR (fun v ad' M1 h => by obtain ⟨rfl, rfl, rfl⟩ := h; exact kk)
theorem G_callVvA (hw : zCV own idx r.1 y b maxL ret n) (hd : decode cc pc = .ok (.invokevirtual idx, 3)) (hM : M key = some (.inr (ci, fs))) (hc : vwCl[ci]? = some r) (hm : zMn (z_l Γ) (z_d Γ) y b maxL ret d mc ms (.ref (ad key) :: As) ad M (zD none ad M')) (hn : As.length = n) (hst : st = As.reverse ++ .ref (ad key) :: rest) (hro : (rest.map fun v => v.category).sum ≤ 8) (hR : zRo R d mc ms maxL nc ns)
    (kk : G Γ R cc nL own ad M' (nc + mc) (ns + ms) (pc + 3) lv rest) : G Γ R cc nL own ad M nc ns pc lv st :=
  G_callV hw hd hM hc hm hn hst hro hR (fun v ad' M1 h => by obtain ⟨rfl, rfl, rfl⟩ := h; exact kk)
end ZCALLA
/-! what cleaning and sharing do -/
def mc1 (Q : zP) (b w : Int) (o : Int) (s : zS × (Int → Int) × Int) : zS × (Int → Int) × Int :=
  if ¬ mS s.1 (s.1 (59, 0, 0, 0) (w * 80 + o)) = 0 ∨ s.1 (54, 0, 0, 0) (s.1 (59, 0, 0, 0) (w * 80 + o)) = -1 then s else
  if ¬ s.2.1 (s.1 (54, 0, 0, 0) (s.1 (59, 0, 0, 0) (w * 80 + o))) = 0 ∧ s.1 (58, 0, 0, 0) (s.1 (59, 0, 0, 0) (w * 80 + o)) = 0 then (if b = 0 then s.1 else mdr Q s.1 (s.1 (59, 0, 0, 0) (w * 80 + o)), zup s.2.1 (s.1 (54, 0, 0, 0) (s.1 (59, 0, 0, 0) (w * 80 + o))) 1, s.2.2 + 1)
  else (s.1, zup s.2.1 (s.1 (54, 0, 0, 0) (s.1 (59, 0, 0, 0) (w * 80 + o))) 1, s.2.2)
def mcN (Q : zP) (b w : Int) : Nat → zS × (Int → Int) × Int → zS × (Int → Int) × Int
  | 0, s => s
  | n + 1, s => mcN Q b w n (mc1 Q b w n s)
def mcw (Q : zP) (b : Int) (w : Int) (s : zS × Int) : zS × Int := ((mcN Q b w (mEn s.1 w).toNat (s.1, fun _ => 0, s.2)).1, (mcN Q b w (mEn s.1 w).toNat (s.1, fun _ => 0, s.2)).2.2)
def mcl (Q : zP) (b t : Int) (s : zS × Int) : zS × Int := lp (mcw Q b) (t * 4) (t * 4 + Q 1 t 0) s
theorem mfg_fr {K : Nat → Bool} {S : zS} (h69 : K 69 = true) (h70 : K 70 = true) {g m : Int} : zfr K S (mfg S g m) := (zfr.rf.st h69).st h70
theorem mdr_fr {K : Nat → Bool} {Q : zP} {S : zS} (h58 : K 58 = true) (h69 : K 69 = true) (h70 : K 70 = true) {m : Int} : zfr K S (mdr Q S m) := by
  refine (zfr.rf.st h58).tr (lp_fr fun g s => ?_)
  unfold md1
  split
  · exact mfg_fr h69 h70
  · exact zfr.rf
theorem mdr_54 {Q : zP} {S : zS} {m i : Int} : mdr Q S m (54, 0, 0, 0) i = S (54, 0, 0, 0) i := mdr_fr (K := fun n => n == 58 || n == 69 || n == 70) rfl rfl rfl _ _ rfl
theorem mc1_W {Q : zP} {b w o : Int} {s : zS × (Int → Int) × Int} (h : zWM Q s.1) : zWM Q (mc1 Q b w o s).1 := by
  unfold mc1
  split
  · exact h
  · split
    · show zWM Q (if b = 0 then s.1 else _)
      split
      · exact h
      · exact mdr_W h
    · exact h
theorem mcN_W {Q : zP} {b w : Int} : ∀ (n : Nat) (s : zS × (Int → Int) × Int), zWM Q s.1 → zWM Q (mcN Q b w n s).1 := by
  intro n
  induction n with
  | zero => exact fun s h => h
  | succ n ih => exact fun s h => ih _ (mc1_W h)
theorem mcw_W {Q : zP} {b w : Int} {s : zS × Int} (h : zWM Q s.1) : zWM Q (mcw Q b w s).1 := mcN_W _ (s.1, fun _ => 0, s.2) h
def ms0 (r : Int) (_k : Int) (s : (Int → Int) × Int) : (Int → Int) × Int := (zup s.1 s.2 r, s.2 + 1)
def msi (a b k : Int) : Int := a + (if k < b then 1 else 0)
def ms1 (S : zS) (g a b : Int) (r : Int) (s : (Int → Int) × Int × Int) : (Int → Int) × Int × Int :=
  if S (68, 0, 0, 0) (g * 6 + r) = 0 then s else ((lp (ms0 r) 0 (msi a b s.2.2) (s.1, s.2.1)).1, (lp (ms0 r) 0 (msi a b s.2.2) (s.1, s.2.1)).2, s.2.2 + 1)
/-- how many readers are in a group -/
def msn (S : zS) (g : Int) : Int := sm (fun r => if S (68, 0, 0, 0) (g * 6 + r) = 0 then 0 else 1) 0 6
def msF : Int → Int := lp (fun p F => zup F p (-1)) 0 4 (fun _ => 0)
/-- who would have each partition -/
def msh (Q : zP) (S : zS) (g : Int) : Int → Int := (lp (ms1 S g (Q 1 (Q 4 g 0) 0 / msn S g) (Q 1 (Q 4 g 0) 0 % msn S g)) 0 6 (msF, 0, 0)).1
theorem ms0_p {r : Int} : ∀ (k : Nat) (a n : Int) (s : (Int → Int) × Int), a ≤ n → (n - a).toNat = k → (lp (ms0 r) a n s).2 = s.2 + (n - a) := by
  intro k
  induction k with
  | zero => intro a n s h hk; rw [lp_end (by omega)]; omega
  | succ k ih =>
    intro a n s h hk
    rw [lp_step (by omega), ih (a + 1) n _ (by omega) (by omega)]
    show s.2 + 1 + _ = _
    omega
/-- the places of the shares -/
theorem msd {N m k : Int} (hN : 1 ≤ N ∧ N ≤ 4) (hm : 1 ≤ m ∧ m ≤ 6) (hk : 0 ≤ k ∧ k < m) : (0 ≤ N / m ∧ N / m ≤ 4) ∧ 0 ≤ k * (N / m) + min k (N % m) ∧ k * (N / m) + min k (N % m) + msi (N / m) (N % m) k = (k + 1) * (N / m) + min (k + 1) (N % m) ∧ (k + 1) * (N / m) + min (k + 1) (N % m) ≤ N ∧ (0 ≤ msi (N / m) (N % m) k ∧ msi (N / m) (N % m) k ≤ 4) := by
  unfold msi
  have h1 : m = 1 ∨ m = 2 ∨ m = 3 ∨ m = 4 ∨ m = 5 ∨ m = 6 := by omega
  have h2 : N = 1 ∨ N = 2 ∨ N = 3 ∨ N = 4 := by omega
  rcases h1 with rfl | rfl | rfl | rfl | rfl | rfl <;> rcases h2 with rfl | rfl | rfl | rfl <;> (split <;> omega)
theorem msn_le {S : zS} {g : Int} : 0 ≤ msn S g ∧ msn S g ≤ 6 := by
  have h := sm_bound (f := fun r => if S (68, 0, 0, 0) (g * 6 + r) = 0 then 0 else 1) (m := 1) (by omega) _ 0 6 (by omega) rfl (fun o _ _ => by
    show 0 ≤ (if _ then (0 : Int) else 1) ∧ (if _ then (0 : Int) else 1) ≤ 1
    split <;> omega)
  unfold msn
  omega
