/-! ===== folds over a commutative monoid; restriction to kinds ===== -/
def fo (op : Int → Int → Int) (e : Int) (f : Int → Int) (a n : Int) : Int := lp (fun o s => op s (f o)) a n e
/-- op is a commutative monoid with unit e -/
def zcm (op : Int → Int → Int) (e : Int) : Prop := (∀ a b c, op (op a b) c = op a (op b c)) ∧ (∀ a b, op a b = op b a) ∧ ∀ a, op a e = a
section ZFO
variable {op : Int → Int → Int} {e : Int}
theorem fo_end {f : Int → Int} {a n : Int} (h : n ≤ a) : fo op e f a n = e := lp_end h
theorem fo_acc (hm : zcm op e) {f : Int → Int} : ∀ (k : Nat) (a n s : Int), (n - a).toNat = k → lp (fun o s => op s (f o)) a n s = op s (fo op e f a n) := by
  obtain ⟨h1, h2, h3⟩ := hm
  intro k
  induction k with
  | zero => intro a n s hk; rw [lp_end (by omega), fo_end (by omega), h3]
  | succ k ih =>
    intro a n s hk
    unfold fo
    rw [lp_step (by omega), lp_step (s := e) (by omega), ih (a + 1) n _ (by omega), ih (a + 1) n (op e (f a)) (by omega), h2 e (f a), h3, h1]
theorem fo_step (hm : zcm op e) {f : Int → Int} {a n : Int} (h : a < n) : fo op e f a n = op (f a) (fo op e f (a + 1) n) := by
  have h9 : fo op e f a n = lp (fun o s => op s (f o)) (a + 1) n (op e (f a)) := lp_step h
  rw [h9, fo_acc hm _ _ _ _ rfl, hm.2.1 e (f a), hm.2.2]
theorem fo_congr {f f' : Int → Int} : ∀ (k : Nat) (a n s : Int), (n - a).toNat = k → (∀ o, a ≤ o → o < n → f o = f' o) → lp (fun o s => op s (f o)) a n s = lp (fun o s => op s (f' o)) a n s := by
  intro k
  induction k with
  | zero => intro a n s hk _; rw [lp_end (by omega), lp_end (by omega)]
  | succ k ih =>
    intro a n s hk hf
    rw [lp_step (f := fun o s => op s (f o)) (a := a) (by omega), lp_step (f := fun o s => op s (f' o)) (a := a) (by omega), hf a (by omega) (by omega)]
    exact ih (a + 1) n _ (by omega) (fun o g1 g2 => hf o (by omega) g2)
theorem fo_cg {f f' : Int → Int} {a n : Int} (h : ∀ o, a ≤ o → o < n → f o = f' o) : fo op e f a n = fo op e f' a n := fo_congr _ _ _ _ rfl h
theorem fo_e (hm : zcm op e) {f : Int → Int} : ∀ (k : Nat) (a n : Int), (n - a).toNat = k → (∀ o, a ≤ o → o < n → f o = e) → fo op e f a n = e := by
  intro k
  induction k with
  | zero => intro a n hk _; exact fo_end (by omega)
  | succ k ih =>
    intro a n hk hf
    rw [fo_step hm (by omega), hf a (by omega) (by omega), ih (a + 1) n (by omega) (fun o g1 g2 => hf o (by omega) g2), hm.2.2]
/-- one more at the end -/
theorem fo_last (hm : zcm op e) {f : Int → Int} : ∀ (k : Nat) (a n : Int), a ≤ n → (n - a).toNat = k → fo op e f a (n + 1) = op (fo op e f a n) (f n) := by
  intro k
  induction k with
  | zero =>
    intro a n h hk
    rw [fo_step hm (by omega), fo_end (by omega), fo_end (by omega), show a = n by omega, hm.2.1]
  | succ k ih =>
    intro a n h hk
    rw [fo_step hm (by omega), ih (a + 1) n (by omega) (by omega), fo_step hm (a := a) (n := n) (by omega), hm.1]
/-- one term alone changes -/
theorem fo_upd (hm : zcm op e) {f f' : Int → Int} {c x : Int} : ∀ (k : Nat) (a n : Int), (n - a).toNat = k → a ≤ c → c < n → f' c = op (f c) x → (∀ o, a ≤ o → o < n → o ≠ c → f' o = f o) → fo op e f' a n = op (fo op e f a n) x := by
  intro k
  induction k with
  | zero => intro a n hk h1 h2; omega
  | succ k ih =>
    intro a n hk h1 h2 h3 h4
    rw [fo_step hm (by omega), fo_step hm (f := f) (by omega)]
    by_cases hc : a = c
    · subst hc
      rw [h3, fo_cg (f := f') (f' := f) (fun o g1 g2 => h4 o (by omega) g2 (by omega)), hm.1, hm.1, hm.2.1 x]
    · rw [h4 a (by omega) (by omega) hc, ih (a + 1) n (by omega) (by omega) h2 h3 (fun o g1 g2 g3 => h4 o (by omega) g2 g3), hm.1]
/-- one term alone is not e -/
theorem fo_one (hm : zcm op e) {f : Int → Int} {c : Int} : ∀ (k : Nat) (a n : Int), (n - a).toNat = k → a ≤ c → c < n → (∀ o, a ≤ o → o < n → o ≠ c → f o = e) → fo op e f a n = f c := by
  intro k a n hk h1 h2 h3
  have h := fo_upd hm (f := fun _ => e) (f' := f) (c := c) (x := f c) k a n hk h1 h2 (by rw [hm.2.1, hm.2.2]) (fun o g1 g2 g3 => h3 o g1 g2 g3)
  rw [h, fo_e hm _ _ _ rfl (fun _ _ _ => rfl), hm.2.1, hm.2.2]
/-- the first ones are e -/
theorem fo_drop (hm : zcm op e) {f : Int → Int} : ∀ (k : Nat) (a b n : Int), (b - a).toNat = k → a ≤ b → b ≤ n → (∀ o, a ≤ o → o < b → f o = e) → fo op e f a n = fo op e f b n := by
  intro k
  induction k with
  | zero => intro a b n hk h1 h2 _; rw [show a = b by omega]
  | succ k ih =>
    intro a b n hk h1 h2 h3
    rw [fo_step hm (by omega), h3 a (by omega) (by omega), hm.2.1, hm.2.2]
    exact ih (a + 1) b n (by omega) (by omega) h2 (fun o g1 g2 => h3 o (by omega) g2)
end ZFO
theorem zcm_add : zcm (fun a b => a + b) 0 := ⟨fun a b c => Int.add_assoc a b c, fun a b => Int.add_comm a b, fun a => Int.add_zero a⟩
theorem zcm_er : zcm zer (-1) := by
  refine ⟨fun a b c => ?_, fun a b => ?_, fun a => ?_⟩
  · unfold zer
    by_cases ha : a = -1
    · subst ha; simp
    · by_cases hb : b = -1
      · subst hb; simp [ha]
      · by_cases hc : c = -1
        · subst hc
          simp only [if_neg ha, if_neg hb, if_true]
          split <;> omega
        · simp only [if_neg ha, if_neg hb, if_neg hc]
          rw [if_neg (by omega), if_neg (by omega)]
          omega
  · unfold zer
    by_cases ha : a = -1
    · subst ha
      by_cases hb : b = -1
      · subst hb; rfl
      · rw [if_pos rfl, if_neg hb, if_pos rfl]
    · by_cases hb : b = -1
      · subst hb; rw [if_neg ha, if_pos rfl, if_pos rfl]
      · rw [if_neg ha, if_neg hb, if_neg hb, if_neg ha]
        omega
  · unfold zer
    by_cases ha : a = -1
    · rw [if_pos ha, ha]
    · rw [if_neg ha, if_pos rfl]
theorem sm_fo {f : Int → Int} : ∀ (k : Nat) (a n : Int), (n - a).toNat = k → sm f a n = fo (fun a b => a + b) 0 f a n := by
  intro k
  induction k with
  | zero => intro a n hk; rw [sm_end (by omega), fo_end (by omega)]
  | succ k ih =>
    intro a n hk
    rw [sm_step (by omega), fo_step zcm_add (by omega), ih (a + 1) n (by omega)]
/-- a state seen at some kinds alone -/
def rs (A : Nat → Bool) (S : zS) : zS := fun k f => if A k.1 = true then S k f else 0
theorem rs_fr {A K : Nat → Bool} {S T : zS} (h : zfr K S T) (hA : ∀ n, A n = true → K n = false) : rs A T = rs A S := by
  funext k f
  show (if A k.1 = true then T k f else 0) = if A k.1 = true then S k f else 0
  by_cases hk : A k.1 = true
  · rw [if_pos hk, if_pos hk, h k f (hA _ hk)]
  · rw [if_neg hk, if_neg hk]
