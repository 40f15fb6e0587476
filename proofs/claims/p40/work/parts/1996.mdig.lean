/-! ===== cleaning that only counts; what the model's digest mixes ===== -/
theorem mc1_0 {Q : zP} {w o : Int} {s : zS × (Int → Int) × Int} : (mc1 Q 0 w o s).1 = s.1 := by
  unfold mc1
  split
  · rfl
  · split <;> rfl
theorem mcN_0 {Q : zP} {w : Int} : ∀ (n : Nat) (s : zS × (Int → Int) × Int), (mcN Q 0 w n s).1 = s.1 := by
  intro n
  induction n with
  | zero => exact fun s => rfl
  | succ n ih => exact fun s => (ih _).trans mc1_0
theorem lp_fst {f : Int → zS × Int → zS × Int} (hf : ∀ o s, (f o s).1 = s.1) {a n : Int} {s : zS × Int} : (lp f a n s).1 = s.1 := by
  have : ∀ (n : Nat) (a : Int) (s : zS × Int), (lpN f n a s).1 = s.1 := by
    intro n
    induction n with
    | zero => exact fun a s => rfl
    | succ n ih => exact fun a s => (ih _ _).trans (hf a s)
  exact this _ _ _
theorem mcl_0 {Q : zP} {t : Int} {s : zS × Int} : (mcl Q 0 t s).1 = s.1 := lp_fst (fun w s => mcN_0 _ (s.1, fun _ => 0, s.2))
theorem mcN_le {Q : zP} {b w : Int} : ∀ (n : Nat) (s : zS × (Int → Int) × Int), s.2.2 ≤ (mcN Q b w n s).2.2 ∧ (mcN Q b w n s).2.2 ≤ s.2.2 + n := by
  intro n
  induction n with
  | zero => exact fun s => ⟨Int.le_refl _, by show s.2.2 ≤ s.2.2 + (0 : Nat); omega⟩
  | succ n ih =>
    intro s
    have h := ih (mc1 Q b w n s)
    have h2 : s.2.2 ≤ (mc1 Q b w n s).2.2 ∧ (mc1 Q b w n s).2.2 ≤ s.2.2 + 1 := by
      unfold mc1
      split
      · omega
      · split
        · show s.2.2 ≤ s.2.2 + 1 ∧ s.2.2 + 1 ≤ s.2.2 + 1
          omega
        · show s.2.2 ≤ s.2.2 ∧ s.2.2 ≤ s.2.2 + 1
          omega
    show s.2.2 ≤ (mcN Q b w n (mc1 Q b w n s)).2.2 ∧ (mcN Q b w n (mc1 Q b w n s)).2.2 ≤ _
    omega
theorem mcl_le {Q : zP} {S : zS} (h : zWM Q S) {b t : Int} (ht : 0 ≤ t ∧ t < Q 0 0 0) : 0 ≤ (mcl Q b t (S, 0)).2 ∧ (mcl Q b t (S, 0)).2 ≤ 320 := by
  have hq := h.qt ht
  have := lp_ind (f := mcw Q b) (fun w s => zWM Q s.1 ∧ 0 ≤ s.2 ∧ s.2 ≤ 80 * (w - t * 4)) _ (t * 4) (t * 4 + Q 1 t 0) (S, 0) (by omega) rfl ⟨h, by show (0 : Int) ≤ 0; omega, by show (0 : Int) ≤ _; omega⟩ (fun w s h1 h2 hs => ?_)
  · exact ⟨this.2.1, by have h9 : (mcl Q b t (S, 0)).2 ≤ 80 * (t * 4 + Q 1 t 0 - t * 4) := this.2.2; omega⟩
  · obtain ⟨g1, g2, g3⟩ := hs
    refine ⟨mcw_W g1, ?_⟩
    have hE : 0 ≤ mEn s.1 w ∧ mEn s.1 w ≤ s.1 (48, 0, 0, 0) w := fi_le (Q := mEq s.1 w) (g1.b48 w).1
    have h48 := g1.b48 w
    have h7 := mcN_le (Q := Q) (b := b) (w := w) (mEn s.1 w).toNat (s.1, fun _ => 0, s.2)
    show 0 ≤ (mcN Q b w (mEn s.1 w).toNat (s.1, fun _ => 0, s.2)).2.2 ∧ (mcN Q b w (mEn s.1 w).toNat (s.1, fun _ => 0, s.2)).2.2 ≤ _
    have h8 : s.2 ≤ (mcN Q b w (mEn s.1 w).toNat (s.1, fun _ => 0, s.2)).2.2 ∧ (mcN Q b w (mEn s.1 w).toNat (s.1, fun _ => 0, s.2)).2.2 ≤ s.2 + (mEn s.1 w).toNat := h7
    omega
def mom (S : zS) (m w : Int) : Int := if w = 0 then S (54, 0, 0, 0) m else if w = 1 then S (55, 0, 0, 0) m else if w = 2 then S (56, 0, 0, 0) m else if w = 3 then mS S m else if S (58, 0, 0, 0) m = 0 then 0 else 1
theorem mom_R {Q : zP} {S : zS} (h : zWM Q S) {m w : Int} : zR (if w = 0 then S (54, 0, 0, 0) m else if w = 1 then S (55, 0, 0, 0) m else if w = 2 then S (56, 0, 0, 0) m else if w = 3 then mS S m else if S (58, 0, 0, 0) m = 0 then 0 else 1) := by
  have h1 := h.b54 m
  have h2 := h.b55 m
  have h3 := h.b56 m
  have h4 := mS_le (S := S) (m := m)
  refine ⟨?_, ?_⟩
  · split
    · omega
    · split
      · omega
      · split
        · omega
        · split
          · omega
          · split <;> omega
  · split
    · omega
    · split
      · omega
      · split
        · omega
        · split
          · omega
          · split <;> omega
def mxm (S : zS) (m : Int) (w : Int) (d : Int) : Int := zmx d (mom S m w)
def mxo (S : zS) (w : Int) (o : Int) (d : Int) : Int := lp (mxm S (S (59, 0, 0, 0) (w * 80 + o))) 0 5 d
def mxp (S : zS) (w : Int) (d : Int) : Int := lp (mxo S w) 0 (S (48, 0, 0, 0) w) (zmx (zmx (zmx d (S (47, 0, 0, 0) w)) (S (48, 0, 0, 0) w)) (mEn S w))
def mxt (Q : zP) (S : zS) (t : Int) (d : Int) : Int := lp (mxp S) (t * 4) (t * 4 + Q 1 t 0) (zmx (zmx d (mkn S t)) (mcl Q 0 t (S, 0)).2)
def mxs (Q : zP) (S : zS) (g p : Int) (o : Int) (d : Int) : Int := zmx (zmx d (S (69, 0, 0, 0) (g * 80 + S (59, 0, 0, 0) ((Q 4 g 0 * 4 + p) * 80 + o)))) (S (70, 0, 0, 0) (g * 80 + S (59, 0, 0, 0) ((Q 4 g 0 * 4 + p) * 80 + o)))
def mxq (Q : zP) (S : zS) (g : Int) (p : Int) (d : Int) : Int := lp (mxs Q S g p) 0 (Q 2 (Q 4 g 0) p) (zmx (zmx (zmx (zmx d (S (67, 0, 0, 0) (g * 4 + p))) (S (65, 0, 0, 0) (g * 4 + p))) (S (66, 0, 0, 0) (g * 4 + p))) (mlg Q S g p))
def mxg (Q : zP) (S : zS) (g : Int) (d : Int) : Int := lp (mxq Q S g) 0 (Q 1 (Q 4 g 0) 0) (zmx (zmx d (mco S g 4)) (mnn Q S g))
def mxr (Q : zP) (S : zS) (g : Int) (r : Int) (d : Int) : Int := zmx d (mwn Q S g r)
def mxn (Q : zP) (S : zS) (g : Int) (d : Int) : Int := lp (mxr Q S g) 0 6 d
def mxl (S : zS) (k : Int) (d : Int) : Int := zmx d (S (73, 0, 0, 0) k)
def mdg (Q : zP) (S : zS) : Int := lp (mxl S) 0 (5 * S (40, 0, 0, 0) 32) (lp (mxn Q S) 0 (Q 3 0 0) (lp (mxg Q S) 0 (Q 3 0 0) (lp (mxt Q S) 0 (Q 0 0 0) (zmx (zmx (zmx (zmx 2683 (S (40, 0, 0, 0) 1)) (Q 0 0 0)) (Q 3 0 0)) (S (40, 0, 0, 0) 32)))))
theorem G_lret_m {Γ : zCx} {R : Room} {cc : ByteArray} {nL : Nat} {own : String} {ad : zK → Nat} {M M' : zMem} {nc ns pc : Nat} {lv : List (Nat × Value)} {mn : String} {mc ms : Nat} {v w : Int} (hf : zFn Γ mn (some .long) (zD (some (.long (zL w))) ad M') mc ms) (hd : decode cc pc = .ok (.lreturn, 1)) (hc : nc ≤ mc ∧ ns ≤ ms) (he : v = w) (hM : M = M') : G Γ R cc nL own ad M nc ns pc lv [.long (zL v)] := G_lret hf hd hc ⟨by rw [he], rfl, hM⟩
