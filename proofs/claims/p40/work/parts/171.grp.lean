/-! ===== what giveBack, Group and Ledger do; the bounds kept ===== -/
def zgb (S : zS) (g p o x y : Int) : zS := if 3 ≤ S (20, g, p, 0) o then zst S (19, g, p, 0) o 4 else zst (zst S (19, g, p, 0) o 2) (21, g, p, 0) o (x + zsh y (S (20, g, p, 0) o - 1))
def zgbr (S : zS) (g p o x y : Int) : Int := if 3 ≤ S (20, g, p, 0) o then -1 else x + zsh y (S (20, g, p, 0) o - 1)
theorem zsh_le {y s : Int} (hy : 1 ≤ y ∧ y ≤ 20) : 1 ≤ zsh y s ∧ zsh y s ≤ 40 := by
  unfold zsh
  split <;> omega
abbrev zin (S : zS) (g r c : Int) : Prop := ¬ S (17, g, 0, 0) r = (if r = c then 1 else 0)
def zcr (S : zS) (g c : Int) : Int := sm (fun r => if zin S g r c then 1 else 0) 0 6
def zsN (S : zS) (g c p a b : Int) : Nat → Int → Int → Int → Int
  | 0, _, _, _ => -1
  | n + 1, r, s, k => if zin S g r c then (if p < s + (if k < b then a + 1 else a) then r else zsN S g c p a b n (r + 1) (s + (if k < b then a + 1 else a)) (k + 1)) else zsN S g c p a b n (r + 1) s k
theorem zsN_out {S : zS} {g c p a b r s k : Int} (n : Nat) (h : ¬ zin S g r c) : zsN S g c p a b (n + 1) r s k = zsN S g c p a b n (r + 1) s k := if_neg h
theorem zsN_in {S : zS} {g c p a b r s k s' : Int} (n : Nat) (h : zin S g r c) (hs : s' = s + (if k < b then a + 1 else a)) : zsN S g c p a b (n + 1) r s k = if p < s' then r else zsN S g c p a b n (r + 1) s' (k + 1) := by
  rw [hs]
  exact if_pos h
/-- which reader has the partition p, if c came or went -/
def zsr (P : zP) (S : zS) (g p c : Int) : Int := if zcr S g c = 0 then -1 else zsN S g c p (P 1 (P 4 g 0) 0 / zcr S g c) (P 1 (P 4 g 0) 0 % zcr S g c) 6 0 0 0
theorem zsN_le {S : zS} {g c p a b : Int} : ∀ (n : Nat) (r s k : Int), 0 ≤ r → r + n ≤ 6 → -1 ≤ zsN S g c p a b n r s k ∧ zsN S g c p a b n r s k ≤ 5 := by
  intro n
  induction n with
  | zero => intro r s k _ _; exact ⟨by show (-1 : Int) ≤ -1; omega, by show (-1 : Int) ≤ 5; omega⟩
  | succ n ih =>
    intro r s k h1 h2
    by_cases h : zin S g r c
    · rw [zsN_in n h rfl]
      generalize s + (if k < b then a + 1 else a) = s2
      split
      · exact ⟨by omega, by omega⟩
      · exact ih _ _ _ (by omega) (by omega)
    · rw [zsN_out n h]
      exact ih _ _ _ (by omega) (by omega)
theorem zsr_le {P : zP} {S : zS} {g p c : Int} : -1 ≤ zsr P S g p c ∧ zsr P S g p c ≤ 5 := by
  unfold zsr
  split
  · exact ⟨by omega, by omega⟩
  · exact zsN_le 6 0 0 0 (by omega) (by omega)
theorem zcr_le {S : zS} {g c : Int} : 0 ≤ zcr S g c ∧ zcr S g c ≤ 6 := by
  have h := sm_bound (f := fun r => if zin S g r c then 1 else 0) (m := 1) (by omega) _ 0 6 (by omega) rfl (fun o _ _ => by
    show 0 ≤ (if _ then (1 : Int) else 0) ∧ (if _ then (1 : Int) else 0) ≤ 1
    split <;> omega)
  exact ⟨h.1, by have := h.2; unfold zcr; omega⟩
def zsf (P : zP) (g : Int) (p : Int) (S : zS) : zS := zht P S g p (zsr P S g p (-1))
/-- the place that a group gives a reader: 100 * partition + offset; -1 -/
def znp (P : zP) (S : zS) (g r x : Int) : Int := if fi (fun p => S (18, g, p, 0) 4 = r ∧ ¬ zno P S g p x = -1) 0 (P 1 (P 4 g 0) 0) < P 1 (P 4 g 0) 0 then 100 * fi (fun p => S (18, g, p, 0) 4 = r ∧ ¬ zno P S g p x = -1) 0 (P 1 (P 4 g 0) 0) + zno P S g (fi (fun p => S (18, g, p, 0) 4 = r ∧ ¬ zno P S g p x = -1) 0 (P 1 (P 4 g 0) 0)) x else -1
def zkf (P : zP) (g : Int) (p : Int) (S : zS) : zS := zku P S g p
def zco (P : zP) (S : zS) (g x : Int) (p : Int) : Int := sm (fun o => if S (19, g, p, 0) o = x then 1 else 0) 0 (P 2 (P 4 g 0) p)
def zsu (P : zP) (S : zS) (g : Int) (p : Int) : Int := sm (fun o => if S (19, g, p, 0) o = 3 then S (20, g, p, 0) o else 0) 0 (P 2 (P 4 g 0) p)
def znt (P : zP) (S : zS) (g x y : Int) (p : Int) : Int := lp (zntf S g p x y) (S (18, g, p, 0) 5) (P 2 (P 4 g 0) p) (-1)
def zng (P : zP) (S : zS) (g x y : Int) (p : Int) (n : Int) : Int := zer n (znt P S g x y p)
def zlw (S : zS) (a b c d e : Int) : zS := if 200 ≤ S (1, 0, 0, 0) 1 then S else zst (zst (zst (zst (zst (zst S (2, 0, 0, 0) (5 * S (1, 0, 0, 0) 1) a) (2, 0, 0, 0) (5 * S (1, 0, 0, 0) 1 + 1) b) (2, 0, 0, 0) (5 * S (1, 0, 0, 0) 1 + 2) c) (2, 0, 0, 0) (5 * S (1, 0, 0, 0) 1 + 3) d) (2, 0, 0, 0) (5 * S (1, 0, 0, 0) 1 + 4) e) (1, 0, 0, 0) 1 (S (1, 0, 0, 0) 1 + 1)
section ZGW
variable {P : zP} {S : zS}
theorem zm1_W {g p : Int} {a n : Int} (han : a ≤ n) (h : zWS P S) : zWS P (lp (zm1 g p) a n S) := by
  refine lp_ind (fun _ s => zWS P s) _ a n S han rfl h (fun o s _ _ hs => ?_)
  unfold zm1
  split
  · exact zfg_W hs
  · exact hs
theorem zm2_W {g p : Int} {a n : Int} (han : a ≤ n) (h : zWS P S) : zWS P (lp (zm2 g p) a n S) := lp_ind (fun _ s => zWS P s) _ a n S han rfl h (fun o s _ _ hs => zfg_W hs)
theorem zh1_W {g p : Int} {a n : Int} (han : a ≤ n) (h : zWS P S) : zWS P (lp (zh1 g p) a n S) := by
  refine lp_ind (fun _ s => zWS P s) _ a n S han rfl h (fun o s _ _ hs => ?_)
  unfold zh1
  split
  · exact zfg_W hs
  · exact hs
theorem zk1_W {g p : Int} {a n : Int} (han : a ≤ n) (h : zWS P S) : zWS P (lp (zk1 P g p) a n S) := by
  refine lp_ind (fun _ s => zWS P s) _ a n S han rfl h (fun o s _ _ hs => ?_)
  unfold zk1
  split
  · exact zfg_W hs
  · exact hs
theorem zmk_W (hP : zWP P) {g p : Int} (hg : 0 ≤ g ∧ g < P 3 0 0) (hp : 0 ≤ p ∧ p < P 1 (P 4 g 0) 0) : ∀ (n : Nat) (S : zS), zWS P S → zWS P (zmk P g p n S) := by
  intro n
  induction n with
  | zero => exact fun S h => h
  | succ n ih =>
    intro S h
    by_cases hc : zmc P g p S
    · rw [zmk_go n hc]
      have hm := hP.m (hP.g hg) hp
      have h5 := h.m hg hp
      have hc1 := hc.1
      exact ih _ (h.s18 ⟨by omega, by omega⟩ (fun _ _ _ => ⟨by omega, by omega⟩))
    · rw [zmk_stop _ hc]
      exact h
theorem zku_W (hP : zWP P) {g p : Int} (hg : 0 ≤ g ∧ g < P 3 0 0) (hp : 0 ≤ p ∧ p < P 1 (P 4 g 0) 0) (h : zWS P S) : zWS P (zku P S g p) := by
  have hm := hP.m (hP.g hg) hp
  have h1 := zmk_W hP hg hp (P 2 (P 4 g 0) p - lp (zk1 P g p) 0 (P 2 (P 4 g 0) p) S (18, g, p, 0) 5).toNat _ (zk1_W (g := g) (p := p) hm.1 h)
  have h2 := h1.m hg hp
  unfold zku
  exact h1.s18 ⟨by omega, by omega⟩ (fun _ _ _ => ⟨by omega, by omega⟩)
theorem zht_W (hP : zWP P) {g p x : Int} (hg : 0 ≤ g ∧ g < P 3 0 0) (hp : 0 ≤ p ∧ p < P 1 (P 4 g 0) 0) (hx : zR x) (h : zWS P S) : zWS P (zht P S g p x) := by
  unfold zht
  split
  · exact h
  · have hm := hP.m (hP.g hg) hp
    have h1 := zh1_W (g := g) (p := p) hm.1 (h.s18 (g := g) (p := p) (f := 4) hx (fun q => by omega))
    have h2 := h1.m hg hp
    exact h1.s18 ⟨by omega, by omega⟩ (fun _ _ _ => ⟨by omega, by omega⟩)
theorem zmv_W (hP : zWP P) {g p o : Int} (hg : 0 ≤ g ∧ g < P 3 0 0) (hp : 0 ≤ p ∧ p < P 1 (P 4 g 0) 0) (ho : 0 ≤ o ∧ o ≤ P 2 (P 4 g 0) p) (h : zWS P S) : zWS P (zmv P S g p o) := by
  have hm := hP.m (hP.g hg) hp
  exact ((zm2_W ho.2 (zm1_W ho.1 h)).s18 ⟨by omega, by omega⟩ (fun _ _ _ => ⟨by omega, by omega⟩)).s18 ⟨by omega, by omega⟩ (fun _ _ _ => ⟨by omega, by omega⟩)
theorem zgb_W {g p o x y : Int} (hx : 0 ≤ x ∧ x ≤ 9999) (hy : 1 ≤ y ∧ y ≤ 20) (h : zWS P S) : zWS P (zgb S g p o x y) := by
  have hs := zsh_le (y := y) (s := S (20, g, p, 0) o - 1) hy
  unfold zgb
  split
  · exact h.s19 ⟨by omega, by omega⟩ (fun q => by omega)
  · exact (h.s19 ⟨by omega, by omega⟩ (fun q => by omega)).s21 ⟨by omega, by omega⟩
theorem zlw_W {a b c d e : Int} (ha : zR a) (hb : zR b) (hc : zR c) (hd : zR d) (he : zR e) (h : zWS P S) : zWS P (zlw S a b c d e) := by
  have hl := h.l
  unfold zlw
  split
  · exact h
  · have hn : (2 : Nat) ≠ 14 ∧ (2 : Nat) ≠ 11 ∧ (2 : Nat) ≠ 18 ∧ (2 : Nat) ≠ 19 ∧ (2 : Nat) ≠ 20 ∧ (2 : Nat) ≠ 21 ∧ (2 : Nat) ≠ 0 ∧ (2 : Nat) ≠ 1 := by decide
    exact (((((h.sf ha hn).sf hb hn).sf hc hn).sf hd hn).sf he hn).s1 ⟨by omega, by omega⟩ (fun _ => ⟨by omega, by omega⟩)
theorem zgv_W (hP : zWP P) {g p o x : Int} (hg : 0 ≤ g ∧ g < P 3 0 0) (hp : 0 ≤ p ∧ p < P 1 (P 4 g 0) 0) (ho : 0 ≤ o ∧ o < P 2 (P 4 g 0) p) (hx : 0 ≤ x ∧ x ≤ 9999) (ht : S (20, g, p, 0) o ≤ 2) (h : zWS P S) : zWS P (zgv S g p o x) := by
  have hm := hP.m (hP.g hg) hp
  have h0 : zWS P (zg0 S g p o) := by
    unfold zg0
    split
    · exact h.s18 ⟨by omega, by omega⟩ (fun _ _ _ => ⟨by omega, by omega⟩)
    · exact h
  have hc := (h.c g p o).1
  unfold zgv
  refine zWS.s21 ?_ ⟨by omega, by omega⟩
  have e : zst (zst (zg0 S g p o) (19, g, p, 0) o 1) (20, g, p, 0) o (S (20, g, p, 0) o + 1) = zst (zst (zg0 S g p o) (20, g, p, 0) o (S (20, g, p, 0) o + 1)) (19, g, p, 0) o 1 := by
    funext k f
    by_cases h1 : k = (20, g, p, 0) ∧ f = o
    · have h2 : ¬ (k = (19, g, p, 0) ∧ f = o) := fun h2 => by have := h1.1.symm.trans h2.1; simp at this
      rw [zst_at, if_pos h1, zst_at, if_neg h2, zst_at, if_pos h1]
    · rw [zst_at, if_neg h1]
      by_cases h2 : k = (19, g, p, 0) ∧ f = o
      · rw [zst_at, if_pos h2, zst_at, if_pos h2]
      · rw [zst_at, if_neg h2, zst_at, if_neg h2, zst_at, if_neg h1]
  rw [e]
  exact (h0.s20 ⟨⟨by omega, by omega⟩, fun _ => by omega⟩).s19 ⟨by omega, by omega⟩ (fun _ => by rw [zst_s]; omega)
end ZGW
theorem zse_le {P : zP} (hP : zWP P) {S : zS} {t p : Int} (ht : 0 ≤ t ∧ t < P 0 0 0) (hp : 0 ≤ p ∧ p < P 1 t 0) : 0 ≤ zse P S t p ∧ zse P S t p ≤ P 2 t p := fi_le (hP.m ht hp).1
theorem zno_le {P : zP} (hP : zWP P) {S : zS} (hW : zWS P S) {g p x : Int} (hg : 0 ≤ g ∧ g < P 3 0 0) (hp : 0 ≤ p ∧ p < P 1 (P 4 g 0) 0) : -1 ≤ zno P S g p x ∧ zno P S g p x < P 2 (P 4 g 0) p ∨ zno P S g p x = -1 := by
  have hG := hP.g hg
  have hm := hP.m hG hp
  have h5 := hW.m hg hp
  have he := zse_le hP (S := S) hG hp
  have h1 := fi_le (Q := fun o => S (19, g, p, 0) o = 2 ∧ S (21, g, p, 0) o ≤ x) h5.1.2
  unfold zno
  split
  · exact Or.inl ⟨by omega, by omega⟩
  · split
    · next h =>
      by_cases hc : S (18, g, p, 0) 6 ≤ zse P S (P 4 g 0) p
      · have h2 := fi_le (Q := fun o => S (19, g, p, 0) o = 0 ∧ zkp S (P 4 g 0) p o) hc
        exact Or.inl ⟨by omega, by omega⟩
      · rw [fi_end (by omega)] at h ⊢
        exact Or.inl ⟨by omega, by omega⟩
    · exact Or.inr rfl
theorem znt_le {P : zP} (hP : zWP P) {S : zS} (hW : zWS P S) {g p x y : Int} (hg : 0 ≤ g ∧ g < P 3 0 0) (hp : 0 ≤ p ∧ p < P 1 (P 4 g 0) 0) (hx : 0 ≤ x ∧ x ≤ 9999) (hy : 1 ≤ y ∧ y ≤ 50) : -1 ≤ znt P S g x y p ∧ znt P S g x y p ≤ 30000 := by
  have h5 := hW.m hg hp
  refine lp_ind (fun _ n => -1 ≤ n ∧ n ≤ 30000) _ _ _ (-1) h5.1.2 rfl ⟨by omega, by omega⟩ (fun o n _ _ hn => ?_)
  have hw := hW.w g p o
  unfold zntf
  split
  · have := zer_le (a := n) (b := max (S (21, g, p, 0) o) x)
    omega
  · split
    · have := zer_le (a := n) (b := max (S (21, g, p, 0) o + y) (x + 1))
      omega
    · exact hn
