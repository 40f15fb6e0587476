/-! ===== what the methods of Progress do ===== -/
abbrev ju (S : zS) (g p o : Int) : Prop := S (19, g, p, 0) o = 1 ∨ S (19, g, p, 0) o = 2
abbrev jt (S : zS) (g p o : Int) : Prop := S (19, g, p, 0) o = 3 ∨ S (19, g, p, 0) o = 4
abbrev jb (P : zP) (S : zS) (g p o : Int) : Prop := ¬ S (14, P 4 g 0, p, o) 5 = 0 ∨ S (14, P 4 g 0, p, o) 4 = 1 ∨ jt S g p o
def zfg (S : zS) (g p o : Int) : zS := zst (zst S (19, g, p, 0) o 0) (20, g, p, 0) o 0
def zg0 (S : zS) (g p o : Int) : zS := if S (19, g, p, 0) o = 0 then zst S (18, g, p, 0) 6 (o + 1) else S
def zgv (S : zS) (g p o x : Int) : zS := zst (zst (zst (zg0 S g p o) (19, g, p, 0) o 1) (20, g, p, 0) o (S (20, g, p, 0) o + 1)) (21, g, p, 0) o x
def zer (a b : Int) : Int := if a = -1 then b else if b = -1 then a else min a b
theorem zer_le {a b : Int} : zer a b = a ∨ zer a b = b := by
  unfold zer
  split
  · exact Or.inr rfl
  · split
    · exact Or.inl rfl
    · omega
/-- what a partition gives; -1 if nothing -/
def zno (P : zP) (S : zS) (g p x : Int) : Int := if fi (fun o => S (19, g, p, 0) o = 2 ∧ S (21, g, p, 0) o ≤ x) (S (18, g, p, 0) 5) (P 2 (P 4 g 0) p) < P 2 (P 4 g 0) p then fi (fun o => S (19, g, p, 0) o = 2 ∧ S (21, g, p, 0) o ≤ x) (S (18, g, p, 0) 5) (P 2 (P 4 g 0) p)
  else if fi (fun o => S (19, g, p, 0) o = 0 ∧ zkp S (P 4 g 0) p o) (S (18, g, p, 0) 6) (zse P S (P 4 g 0) p) < zse P S (P 4 g 0) p then fi (fun o => S (19, g, p, 0) o = 0 ∧ zkp S (P 4 g 0) p o) (S (18, g, p, 0) 6) (zse P S (P 4 g 0) p) else -1
def zntf (S : zS) (g p x y : Int) (o : Int) (n : Int) : Int := if S (19, g, p, 0) o = 2 then zer n (max (S (21, g, p, 0) o) x) else if S (19, g, p, 0) o = 1 then zer n (max (S (21, g, p, 0) o + y) (x + 1)) else n
theorem G_dup2 {Γ : zCx} {R : Room} {cc : ByteArray} {nL : Nat} {own : String} {ad : zK → Nat} {M : zMem} {nc ns pc : Nat} {lv : List (Nat × Value)} {st : List Value} {va vb : Value} (hd : decode cc pc = .ok (.dup2, 1)) (ha : va.category = 1) (hb : vb.category = 1) (kk : G Γ R cc nL own ad M nc ns (pc + 1) lv (va :: vb :: va :: vb :: st)) : G Γ R cc nL own ad M nc ns pc lv (va :: vb :: st) := fun C H locs ls h1 h2 h3 h4 => lv_dup2_11 C.1 C.2.1 hd ha hb (kk C H locs ls h1 h2 h3 h4)
def zm1 (g p : Int) (o : Int) (S : zS) : zS := if ju S g p o then zfg S g p o else S
def zm2 (g p : Int) (o : Int) (S : zS) : zS := zfg S g p o
def zmv (P : zP) (S : zS) (g p o : Int) : zS := zst (zst (lp (zm2 g p) o (P 2 (P 4 g 0) p) (lp (zm1 g p) 0 o S)) (18, g, p, 0) 5 o) (18, g, p, 0) 6 o
def zh1 (g p : Int) (o : Int) (S : zS) : zS := if S (19, g, p, 0) o = 1 then zfg S g p o else S
def zht (P : zP) (S : zS) (g p x : Int) : zS := if x = S (18, g, p, 0) 4 then S else zst (lp (zh1 g p) 0 (P 2 (P 4 g 0) p) (zst S (18, g, p, 0) 4 x)) (18, g, p, 0) 6 (lp (zh1 g p) 0 (P 2 (P 4 g 0) p) (zst S (18, g, p, 0) 4 x) (18, g, p, 0) 5)
def zk1 (P : zP) (g p : Int) (o : Int) (S : zS) : zS := if ¬ S (14, P 4 g 0, p, o) 5 = 0 ∧ ju S g p o then zfg S g p o else S
abbrev zmc (P : zP) (g p : Int) (S : zS) : Prop := S (18, g, p, 0) 5 < P 2 (P 4 g 0) p ∧ jb P S g p (S (18, g, p, 0) 5)
/-- the mark goes on: n steps at most -/
def zmk (P : zP) (g p : Int) : Nat → zS → zS
  | 0, S => S
  | n + 1, S => if zmc P g p S then zmk P g p n (zst S (18, g, p, 0) 5 (S (18, g, p, 0) 5 + 1)) else S
theorem zmk_stop {P : zP} {g p : Int} {S : zS} (n : Nat) (h : ¬ zmc P g p S) : zmk P g p n S = S := by
  cases n with
  | zero => rfl
  | succ n => exact if_neg h
theorem zmk_go {P : zP} {g p : Int} {S : zS} (n : Nat) (h : zmc P g p S) : zmk P g p (n + 1) S = zmk P g p n (zst S (18, g, p, 0) 5 (S (18, g, p, 0) 5 + 1)) := if_pos h
def zku (P : zP) (S : zS) (g p : Int) : zS := zst (zmk P g p (P 2 (P 4 g 0) p - lp (zk1 P g p) 0 (P 2 (P 4 g 0) p) S (18, g, p, 0) 5).toNat (lp (zk1 P g p) 0 (P 2 (P 4 g 0) p) S)) (18, g, p, 0) 6 (max (zmk P g p (P 2 (P 4 g 0) p - lp (zk1 P g p) 0 (P 2 (P 4 g 0) p) S (18, g, p, 0) 5).toNat (lp (zk1 P g p) 0 (P 2 (P 4 g 0) p) S) (18, g, p, 0) 6) (zmk P g p (P 2 (P 4 g 0) p - lp (zk1 P g p) 0 (P 2 (P 4 g 0) p) S (18, g, p, 0) 5).toNat (lp (zk1 P g p) 0 (P 2 (P 4 g 0) p) S) (18, g, p, 0) 5))
theorem zfg_W {P : zP} {S : zS} {g p o : Int} (h : zWS P S) : zWS P (zfg S g p o) := (h.s19 ⟨by omega, by omega⟩ (fun q => by omega)).s20 ⟨by omega, fun q => by rw [zst_s] at q; omega⟩
