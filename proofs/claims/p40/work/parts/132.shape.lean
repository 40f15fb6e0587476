/-! ===== the bounds of shapes and numbers; what the class's searches answer ===== -/
def zWP (P : zP) : Prop := (0 ≤ P 0 0 0 ∧ P 0 0 0 ≤ 4) ∧ (0 ≤ P 3 0 0 ∧ P 3 0 0 ≤ 4) ∧ (∀ t, 0 ≤ t ∧ t < P 0 0 0 → 1 ≤ P 1 t 0 ∧ P 1 t 0 ≤ 4) ∧ (∀ t p, 0 ≤ t ∧ t < P 0 0 0 → 0 ≤ p ∧ p < P 1 t 0 → 0 ≤ P 2 t p ∧ P 2 t p ≤ 80 ∧ P 2 t p ≤ P 13 t p ∧ P 13 t p ≤ 200) ∧ (∀ g, 0 ≤ g ∧ g < P 3 0 0 → 0 ≤ P 4 g 0 ∧ P 4 g 0 < P 0 0 0) ∧ (P 0 0 0 ≤ P 5 0 0 ∧ P 5 0 0 ≤ 200) ∧ (P 3 0 0 ≤ P 7 0 0 ∧ P 7 0 0 ≤ 200)
theorem zWP.n {P : zP} (h : zWP P) : ((0 ≤ P 0 0 0 ∧ P 0 0 0 ≤ 4) ∧ (0 ≤ P 3 0 0 ∧ P 3 0 0 ≤ 4)) ∧ (P 0 0 0 ≤ P 5 0 0 ∧ P 5 0 0 ≤ 200) ∧ (P 3 0 0 ≤ P 7 0 0 ∧ P 7 0 0 ≤ 200) := ⟨⟨h.1, h.2.1⟩, h.2.2.2.2.2.1, h.2.2.2.2.2.2⟩
theorem zWP.t {P : zP} (h : zWP P) {t : Int} (ht : 0 ≤ t ∧ t < P 0 0 0) : 1 ≤ P 1 t 0 ∧ P 1 t 0 ≤ 4 := h.2.2.1 t ht
theorem zWP.m {P : zP} (h : zWP P) {t p : Int} (ht : 0 ≤ t ∧ t < P 0 0 0) (hp : 0 ≤ p ∧ p < P 1 t 0) : 0 ≤ P 2 t p ∧ P 2 t p ≤ 80 ∧ P 2 t p ≤ P 13 t p ∧ P 13 t p ≤ 200 := h.2.2.2.1 t p ht hp
theorem zWP.g {P : zP} (h : zWP P) {g : Int} (hg : 0 ≤ g ∧ g < P 3 0 0) : 0 ≤ P 4 g 0 ∧ P 4 g 0 < P 0 0 0 := h.2.2.2.2.1 g hg
/-- a partition's stable end -/
def zse (P : zP) (S : zS) (t p : Int) : Int := fi (fun o => S (14, t, p, o) 4 = 2) 0 (P 2 t p)
/-- a message is kept -/
abbrev zkp (S : zS) (t p o : Int) : Prop := S (14, t, p, o) 4 = 0 ∧ S (14, t, p, o) 5 = 0
/-- a later one below e has its key, and is seen -/
abbrev zlt (S : zS) (t p o e : Int) : Prop := fi (fun q => S (14, t, p, q) 4 = 0 ∧ S (14, t, p, q) 0 = S (14, t, p, o) 0) (o + 1) e < e
abbrev zod (S : zS) (t p o e : Int) : Prop := zkp S t p o ∧ ¬ S (14, t, p, o) 0 = -1 ∧ zlt S t p o e
/-- what message() tells -/
def ztl (S : zS) (t p o w : Int) : Int := if w = 0 then S (14, t, p, o) 0 else if w = 1 then S (14, t, p, o) 1 else if w = 2 then S (14, t, p, o) 2 else if w = 3 then S (14, t, p, o) 4 else if S (14, t, p, o) 5 = 0 then 0 else 1
/-- those that are ended -/
def zsp (t p x y : Int) (o : Int) (s : zS × Int) : zS × Int := if s.1 (14, t, p, o) 4 = 2 ∧ s.1 (14, t, p, o) 3 = x then (zst s.1 (14, t, p, o) 4 y, s.2 + 1) else s
/-- the old ones go: n steps at most -/
def zdo (P : zP) (t p x y : Int) : Nat → zS → zS
  | 0, S => S
  | n + 1, S => if S (11, t, p, 0) 1 < P 2 t p ∧ (¬ S (14, t, p, S (11, t, p, 0) 1) 4 = 2 ∧ y ≤ x - S (14, t, p, S (11, t, p, 0) 1) 2) then zdo P t p x y n (zst (zst S (14, t, p, S (11, t, p, 0) 1) 5 1) (11, t, p, 0) 1 (S (11, t, p, 0) 1 + 1)) else S
def zdr (t p e : Int) (o : Int) (s : zS × Int) : zS × Int := if zod s.1 t p o e then (zst s.1 (14, t, p, o) 5 1, s.2 + 1) else s
abbrev zdc (P : zP) (t p x y : Int) (S : zS) : Prop := S (11, t, p, 0) 1 < P 2 t p ∧ (¬ S (14, t, p, S (11, t, p, 0) 1) 4 = 2 ∧ y ≤ x - S (14, t, p, S (11, t, p, 0) 1) 2)
theorem zdo_stop {P : zP} {t p x y : Int} {S : zS} (n : Nat) (h : ¬ zdc P t p x y S) : zdo P t p x y n S = S := by
  cases n with
  | zero => rfl
  | succ n => exact if_neg h
theorem zdo_go {P : zP} {t p x y : Int} {S : zS} (n : Nat) (h : zdc P t p x y S) : zdo P t p x y (n + 1) S = zdo P t p x y n (zst (zst S (14, t, p, S (11, t, p, 0) 1) 5 1) (11, t, p, 0) 1 (S (11, t, p, 0) 1 + 1)) := if_pos h
theorem zdo_8 {P : zP} {t p x y : Int} {i f : Int} : ∀ (n : Nat) (S : zS), zdo P t p x y n S (8, i, 0, 0) f = S (8, i, 0, 0) f := by
  intro n
  induction n with
  | zero => exact fun S => rfl
  | succ n ih =>
    intro S
    by_cases hc : zdc P t p x y S
    · rw [zdo_go n hc, ih, zst_k _ _ _ _ (by simp), zst_k _ _ _ _ (by simp)]
    · rw [zdo_stop _ hc]
