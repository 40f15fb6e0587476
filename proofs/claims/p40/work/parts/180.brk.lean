/-! ===== what the broker's own methods do; bounds of what they mix ===== -/
theorem cl_288 : Cond.constantLong RX6 288 (zL 2683) ∈ zAW := zAW_of 402 (by decide +kernel) (by decide +kernel)
theorem cl_302 : Cond.constantLong RX6 302 (zL 31) ∈ zAW := zAW_of 406 (by decide +kernel) (by decide +kernel)
def zkG (P : zP) (g : Int) (S : zS) : zS := lp (zkf P g) 0 (P 1 (P 4 g 0) 0) S
/-- all groups keep up -/
def zkA (P : zP) (S : zS) : zS := lp (zkG P) 0 (P 3 0 0) S
/-- a nack, written down -/
def zB (S : zS) (g p o : Int) : zS := if 3 ≤ S (20, g, p, 0) o then zlw (zlw (zgb S g p o (S (0, 0, 0, 0) 6) (S (0, 0, 0, 0) 7)) 2 g p o (S (0, 0, 0, 0) 6)) 3 g p o (S (0, 0, 0, 0) 6) else zlw (zgb S g p o (S (0, 0, 0, 0) 6) (S (0, 0, 0, 0) 7)) 2 g p o (S (0, 0, 0, 0) 6)
abbrev zov (S : zS) (g p o : Int) : Prop := S (19, g, p, 0) o = 1 ∧ S (0, 0, 0, 0) 8 ≤ S (0, 0, 0, 0) 6 - S (21, g, p, 0) o
def zv1 (g p : Int) (o : Int) (s : zS × Int) : zS × Int := if zov s.1 g p o then (zB s.1 g p o, s.2 + 1) else s
def zv2 (P : zP) (g : Int) (p : Int) (s : zS × Int) : zS × Int := lp (zv1 g p) 0 (P 2 (P 4 g 0) p) s
def zv3 (P : zP) (g : Int) (s : zS × Int) : zS × Int := ((lp (zv2 P g) 0 (P 1 (P 4 g 0) 0) (s.1, 0)).1, s.2 + (lp (zv2 P g) 0 (P 1 (P 4 g 0) 0) (s.1, 0)).2)
def zv4 (P : zP) (x : Int) (t : Int) (S : zS) : zS := if S (8, t, 0, 0) 3 = 0 then S else lp (ztd P t x (S (8, t, 0, 0) 3)) 0 (P 1 t 0) S
def zse1 (P : zP) (x y : Int) (t : Int) (s : zS × Int) : zS × Int := ((lp (zts P t x y) 0 (P 1 t 0) (s.1, 0)).1, s.2 + (lp (zts P t x y) 0 (P 1 t 0) (s.1, 0)).2)
theorem zlw_0 {S : zS} {a b c d e f : Int} : zlw S a b c d e (0, 0, 0, 0) f = S (0, 0, 0, 0) f := by
  unfold zlw
  split
  · rfl
  · rw [zst_k _ _ _ _ (by simp), zst_k _ _ _ _ (by simp), zst_k _ _ _ _ (by simp), zst_k _ _ _ _ (by simp), zst_k _ _ _ _ (by simp), zst_k _ _ _ _ (by simp)]
theorem zgb_0 {S : zS} {g p o x y f : Int} : zgb S g p o x y (0, 0, 0, 0) f = S (0, 0, 0, 0) f := by
  unfold zgb
  split
  · rw [zst_k _ _ _ _ (by simp)]
  · rw [zst_k _ _ _ _ (by simp), zst_k _ _ _ _ (by simp)]
theorem zB_0 {S : zS} {g p o f : Int} : zB S g p o (0, 0, 0, 0) f = S (0, 0, 0, 0) f := by
  unfold zB
  split
  · rw [zlw_0, zlw_0, zgb_0]
  · rw [zlw_0, zgb_0]
section ZBW
variable {P : zP} {S : zS}
theorem zkG_W (hP : zWP P) {g : Int} (hg : 0 ≤ g ∧ g < P 3 0 0) (h : zWS P S) : zWS P (zkG P g S) := by
  have hN := hP.t (hP.g hg)
  exact lp_ind (fun _ s => zWS P s) _ 0 _ S (by omega) rfl h (fun p s h1 h2 hs => zku_W hP hg ⟨h1, h2⟩ hs)
theorem zkA_W (hP : zWP P) (h : zWS P S) : zWS P (zkA P S) := by
  have hN := hP.n
  exact lp_ind (fun _ s => zWS P s) _ 0 _ S (by omega) rfl h (fun g s h1 h2 hs => zkG_W hP ⟨h1, h2⟩ hs)
theorem zB_W {g p o : Int} (hg : zR g) (hp : zR p) (ho : zR o) (h : zWS P S) : zWS P (zB S g p o) := by
  have hk := h.k
  have h1 := zgb_W (g := g) (p := p) (o := o) hk.1 hk.2.1 h
  have hx : zR (S (0, 0, 0, 0) 6) := h.R _ _
  have h2 := zlw_W (a := 2) ⟨by omega, by omega⟩ hg hp ho hx h1
  unfold zB
  split
  · exact zlw_W ⟨by omega, by omega⟩ hg hp ho hx h2
  · exact h2
theorem zv1_W {g p o m : Int} (hg : zR g) (hp : zR p) (ho : zR o) (h : zWS P S) : zWS P (zv1 g p o (S, m)).1 := by
  unfold zv1
  split
  · exact zB_W hg hp ho h
  · exact h
theorem zv2_W {g p a n : Int} (han : a ≤ n) (hg : zR g) (hp : zR p) (ha : zR a) (hn : zR n) {m : Int} (h : zWS P S) : zWS P (lp (zv1 g p) a n (S, m)).1 := by
  obtain ⟨ha1, ha2⟩ := ha
  obtain ⟨hn1, hn2⟩ := hn
  refine lp_ind (fun _ s => zWS P s.1) _ a n (S, m) han rfl h (fun o s h1 h2 hs => ?_)
  exact zv1_W (m := s.2) hg hp ⟨by omega, by omega⟩ hs
theorem zv3_W (hP : zWP P) {g : Int} (hg : 0 ≤ g ∧ g < P 3 0 0) {a : Int} (ha : 0 ≤ a ∧ a ≤ P 1 (P 4 g 0) 0) {m : Int} (h : zWS P S) : zWS P (lp (zv2 P g) a (P 1 (P 4 g 0) 0) (S, m)).1 := by
  have hn := hP.n
  have hN := hP.t (hP.g hg)
  refine lp_ind (fun _ s => zWS P s.1) _ a _ (S, m) ha.2 rfl h (fun p s h1 h2 hs => ?_)
  have hm := hP.m (hP.g hg) (p := p) ⟨by omega, h2⟩
  exact zv2_W hm.1 ⟨by omega, by omega⟩ ⟨by omega, by omega⟩ ⟨by omega, by omega⟩ ⟨by omega, by omega⟩ hs
theorem zv4_W (hP : zWP P) {t x : Int} (ht : 0 ≤ t ∧ t < P 0 0 0) (h : zWS P S) : zWS P (zv4 P x t S) := by
  unfold zv4
  split
  · exact h
  · have hN := hP.t ht
    exact lp_ind (fun _ s => zWS P s) _ 0 _ S (by omega) rfl h (fun p s h1 h2 hs => zdo_W hP ht ⟨h1, h2⟩ _ _ hs)
theorem zse1_W (hP : zWP P) {t x y : Int} (hy : zR y) (ht : 0 ≤ t ∧ t < P 0 0 0) {m : Int} (h : zWS P S) : zWS P (zse1 P x y t (S, m)).1 := by
  have hN := hP.t ht
  show zWS P (lp (zts P t x y) 0 (P 1 t 0) (S, 0)).1
  refine lp_ind (f := zts P t x y) (fun _ s => zWS P s.1) _ 0 (P 1 t 0) (S, 0) (by omega) rfl h (fun p s h1 h2 hs => ?_)
  have hm := hP.m ht (p := p) ⟨h1, h2⟩
  exact zsp_W hy hm.1 hs
theorem ztr_W (hP : zWP P) {t : Int} (ht : 0 ≤ t ∧ t < P 0 0 0) {m : Int} (h : zWS P S) : zWS P (lp (ztr P t) 0 (P 1 t 0) (S, m)).1 := by
  have hN := hP.t ht
  refine lp_ind (fun _ s => zWS P s.1) _ 0 (P 1 t 0) (S, m) (by omega) rfl h (fun p s h1 h2 hs => ?_)
  exact zdr_W (zse_le hP ht ⟨h1, h2⟩).1 hs
theorem ztl_R (hS : ∀ k f, zR (S k f)) {t p o w : Int} : zR (ztl S t p o w) := by
  unfold ztl
  split
  · exact hS _ _
  · split
    · exact hS _ _
    · split
      · exact hS _ _
      · split
        · exact hS _ _
        · split
          · exact ⟨by omega, by omega⟩
          · exact ⟨by omega, by omega⟩
theorem sm01 {f : Int → Prop} [DecidablePred f] {a n : Int} (h : a ≤ n) : 0 ≤ sm (fun o => if f o then 1 else 0) a n ∧ sm (fun o => if f o then 1 else 0) a n ≤ n - a := by
  have h := sm_bound (f := fun o => if f o then 1 else 0) (m := 1) (by omega) _ a n h rfl (fun o _ _ => by
    show 0 ≤ (if f o then (1 : Int) else 0) ∧ (if f o then (1 : Int) else 0) ≤ 1
    split <;> omega)
  exact ⟨h.1, by omega⟩
theorem ztc_le (hP : zWP P) {t p : Int} (ht : 0 ≤ t ∧ t < P 0 0 0) (hp : 0 ≤ p ∧ p < P 1 t 0) : 0 ≤ ztc P S t p ∧ ztc P S t p ≤ 80 := by
  have hm := hP.m ht hp
  have he := zse_le hP (S := S) ht hp
  have := sm01 (f := fun o => zod S t p o (zse P S t p)) he.1
  unfold ztc
  omega
theorem ztk_le (hP : zWP P) {t p : Int} (ht : 0 ≤ t ∧ t < P 0 0 0) (hp : 0 ≤ p ∧ p < P 1 t 0) : 0 ≤ ztk P S t p ∧ ztk P S t p ≤ 80 := by
  have hm := hP.m ht hp
  have := sm01 (f := fun o => zkp S t p o) hm.1
  unfold ztk
  omega
theorem ztcS_R (hP : zWP P) {t : Int} (ht : 0 ≤ t ∧ t < P 0 0 0) : zR (sm (fun p => ztc P S t p) 0 (P 1 t 0)) := by
  have hN := hP.t ht
  have := sm_bound (f := fun p => ztc P S t p) (m := 80) (by omega) _ 0 (P 1 t 0) (by omega) rfl (fun p h1 h2 => ztc_le hP ht ⟨h1, h2⟩)
  exact ⟨by omega, by omega⟩
theorem ztkS_R (hP : zWP P) {t : Int} (ht : 0 ≤ t ∧ t < P 0 0 0) : zR (sm (fun p => ztk P S t p) 0 (P 1 t 0)) := by
  have hN := hP.t ht
  have := sm_bound (f := fun p => ztk P S t p) (m := 80) (by omega) _ 0 (P 1 t 0) (by omega) rfl (fun p h1 h2 => ztk_le hP ht ⟨h1, h2⟩)
  exact ⟨by omega, by omega⟩
theorem zcoS_le (hP : zWP P) {g x : Int} (hg : 0 ≤ g ∧ g < P 3 0 0) : 0 ≤ sm (fun p => zco P S g x p) 0 (P 1 (P 4 g 0) 0) ∧ sm (fun p => zco P S g x p) 0 (P 1 (P 4 g 0) 0) ≤ 320 := by
  have hG := hP.g hg
  have hN := hP.t hG
  have := sm_bound (f := fun p => zco P S g x p) (m := 80) (by omega) _ 0 (P 1 (P 4 g 0) 0) (by omega) rfl (fun p h1 h2 => by
    have hm := hP.m hG (p := p) ⟨h1, h2⟩
    have := sm01 (f := fun o => S (19, g, p, 0) o = x) hm.1
    show 0 ≤ zco P S g x p ∧ zco P S g x p ≤ 80
    unfold zco
    omega)
  exact ⟨by omega, by omega⟩
theorem zsuS_le (hP : zWP P) (hW : zWS P S) {g : Int} (hg : 0 ≤ g ∧ g < P 3 0 0) : 0 ≤ sm (fun p => zsu P S g p) 0 (P 1 (P 4 g 0) 0) ∧ sm (fun p => zsu P S g p) 0 (P 1 (P 4 g 0) 0) ≤ 960 := by
  have hG := hP.g hg
  have hN := hP.t hG
  have := sm_bound (f := fun p => zsu P S g p) (m := 240) (by omega) _ 0 (P 1 (P 4 g 0) 0) (by omega) rfl (fun p h1 h2 => by
    have hm := hP.m hG (p := p) ⟨h1, h2⟩
    have := sm_bound (f := fun o => if S (19, g, p, 0) o = 3 then S (20, g, p, 0) o else 0) (m := 3) (by omega) _ 0 (P 2 (P 4 g 0) p) hm.1 rfl (fun o _ _ => by
      have := (hW.c g p o).1
      show 0 ≤ (if S (19, g, p, 0) o = 3 then S (20, g, p, 0) o else 0) ∧ (if S (19, g, p, 0) o = 3 then S (20, g, p, 0) o else 0) ≤ 3
      split <;> omega)
    show 0 ≤ zsu P S g p ∧ zsu P S g p ≤ 240
    unfold zsu
    omega)
  exact ⟨by omega, by omega⟩
theorem zlag_R (hP : zWP P) (hW : zWS P S) {g p : Int} (hg : 0 ≤ g ∧ g < P 3 0 0) (hp : 0 ≤ p ∧ p < P 1 (P 4 g 0) 0) : zR (sm (fun o => if zkp S (P 4 g 0) p o ∧ ¬ jt S g p o then 1 else 0) (S (18, g, p, 0) 5) (zse P S (P 4 g 0) p)) := by
  have hG := hP.g hg
  have hm := hP.m hG hp
  have h5 := hW.m hg hp
  have he := zse_le hP (S := S) hG hp
  by_cases h : S (18, g, p, 0) 5 ≤ zse P S (P 4 g 0) p
  · have := sm01 (f := fun o => zkp S (P 4 g 0) p o ∧ ¬ jt S g p o) h
    exact ⟨by omega, by omega⟩
  · rw [sm_end (by omega)]
    exact ⟨by omega, by omega⟩
theorem zng_le (hP : zWP P) (hW : zWS P S) {g x y : Int} (hg : 0 ≤ g ∧ g < P 3 0 0) (hx : 0 ≤ x ∧ x ≤ 9999) (hy : 1 ≤ y ∧ y ≤ 50) : -1 ≤ lp (zng P S g x y) 0 (P 1 (P 4 g 0) 0) (-1) ∧ lp (zng P S g x y) 0 (P 1 (P 4 g 0) 0) (-1) ≤ 30000 := by
  have hN := hP.t (hP.g hg)
  refine lp_ind (fun _ n => -1 ≤ n ∧ n ≤ 30000) _ _ _ (-1) (by omega) rfl ⟨by omega, by omega⟩ (fun p n h1 h2 hn => ?_)
  have h := znt_le hP hW (g := g) (p := p) (x := x) (y := y) hg ⟨h1, h2⟩ hx hy
  have := zer_le (a := n) (b := znt P S g x y p)
  unfold zng
  omega
/-- what a place is made of -/
theorem znp_sp (hP : zWP P) (hW : zWS P S) {g r x : Int} (hg : 0 ≤ g ∧ g < P 3 0 0) : (znp P S g r x = -1 ∧ ∀ p, 0 ≤ p → p < P 1 (P 4 g 0) 0 → ¬ (S (18, g, p, 0) 4 = r ∧ ¬ zno P S g p x = -1)) ∨ ∃ p o, (0 ≤ p ∧ p < P 1 (P 4 g 0) 0) ∧ (0 ≤ o ∧ o < P 2 (P 4 g 0) p) ∧ o = zno P S g p x ∧ S (18, g, p, 0) 4 = r ∧ znp P S g r x = 100 * p + o ∧ ∀ q, 0 ≤ q → q < p → ¬ (S (18, g, q, 0) 4 = r ∧ ¬ zno P S g q x = -1) := by
  have hG := hP.g hg
  have hN := hP.t hG
  obtain ⟨f1, f2, f3, f4⟩ := fi_spec (Q := fun p => S (18, g, p, 0) 4 = r ∧ ¬ zno P S g p x = -1) _ 0 (P 1 (P 4 g 0) 0) (by omega) rfl
  unfold znp
  split
  · next h =>
    obtain ⟨h1, h2⟩ := f4 h
    have h3 := zno_le hP hW hg ⟨f1, h⟩ (x := x)
    refine Or.inr ⟨_, zno P S g _ x, ⟨f1, h⟩, ⟨?_, ?_⟩, rfl, h1, rfl, f3⟩
    · omega
    · omega
  · next h => exact Or.inl ⟨rfl, fun p h1 h2 => f3 p h1 (by omega)⟩
theorem znp_R (hP : zWP P) (hW : zWS P S) {g r x : Int} (hg : 0 ≤ g ∧ g < P 3 0 0) : -1 ≤ znp P S g r x ∧ znp P S g r x ≤ 400 := by
  have hN := hP.t (hP.g hg)
  rcases znp_sp hP hW (g := g) (r := r) (x := x) hg with h | ⟨p, o, hp, ho, -, -, h, -⟩
  · omega
  · have hm := hP.m (hP.g hg) hp
    omega
end ZBW
/-! the digest's mixing -/
def zmx (d v : Int) : Int := d * 31 + v
def zxm (S : zS) (t p o : Int) (w : Int) (d : Int) : Int := zmx d (ztl S t p o w)
def zxo (S : zS) (t p : Int) (o : Int) (d : Int) : Int := lp (zxm S t p o) 0 5 d
def zxp (P : zP) (S : zS) (t : Int) (p : Int) (d : Int) : Int := lp (zxo S t p) 0 (P 2 t p) (zmx (zmx (zmx d (S (11, t, p, 0) 1)) (P 2 t p)) (zse P S t p))
def zxt (P : zP) (S : zS) (t : Int) (d : Int) : Int := lp (zxp P S t) 0 (P 1 t 0) (zmx (zmx d (sm (fun p => ztk P S t p) 0 (P 1 t 0))) (sm (fun p => ztc P S t p) 0 (P 1 t 0)))
def zxs (S : zS) (g p : Int) (o : Int) (d : Int) : Int := zmx (zmx d (S (19, g, p, 0) o)) (S (20, g, p, 0) o)
def zxq (P : zP) (S : zS) (g : Int) (p : Int) (d : Int) : Int := lp (zxs S g p) 0 (P 2 (P 4 g 0) p) (zmx (zmx (zmx (zmx d (S (18, g, p, 0) 4)) (S (18, g, p, 0) 5)) (S (18, g, p, 0) 6)) (sm (fun o => if zkp S (P 4 g 0) p o ∧ ¬ jt S g p o then 1 else 0) (S (18, g, p, 0) 5) (zse P S (P 4 g 0) p)))
def zxg (P : zP) (S : zS) (g : Int) (d : Int) : Int := lp (zxq P S g) 0 (P 1 (P 4 g 0) 0) (zmx (zmx d (sm (fun p => zco P S g 4 p) 0 (P 1 (P 4 g 0) 0))) (lp (zng P S g (S (0, 0, 0, 0) 6) (S (0, 0, 0, 0) 8)) 0 (P 1 (P 4 g 0) 0) (-1)))
def zxr (P : zP) (S : zS) (g : Int) (r : Int) (d : Int) : Int := zmx d (znp P S g r (S (0, 0, 0, 0) 6))
def zxn (P : zP) (S : zS) (g : Int) (d : Int) : Int := lp (zxr P S g) 0 6 d
def zxw (S : zS) (k : Int) (w : Int) (d : Int) : Int := zmx d (S (2, 0, 0, 0) (5 * k + w))
def zxl (S : zS) (k : Int) (d : Int) : Int := lp (zxw S k) 0 5 d
/-- the digest -/
def zdg (P : zP) (S : zS) : Int := lp (zxl S) 0 (S (1, 0, 0, 0) 1) (lp (zxn P S) 0 (P 3 0 0) (lp (zxg P S) 0 (P 3 0 0) (lp (zxt P S) 0 (P 0 0 0) (zmx (zmx (zmx (zmx 2683 (S (0, 0, 0, 0) 6)) (P 0 0 0)) (P 3 0 0)) (S (1, 0, 0, 0) 1)))))
