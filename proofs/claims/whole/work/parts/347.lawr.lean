/-! ===== the law's body: rules ===== -/
section LAWR
variable {Γ : zCx} {R : Room} {cc : ByteArray} {nL : Nat} {own : String} {ad : zK → Nat} {M : zMem} {nc ns pc : Nat} {lv : List (Nat × Value)} {st : List Value}
/-- the script -/
def zSc (Γ : zCx) (b L : Nat) (xs : Nat → Int32) : Prop := va_X b L xs (z_s Γ) (z_s Γ).heap ∧ b < (z_s Γ).heap.size ∧ ¬ z_A Γ b
theorem G_sld {b L : Nat} {xs : Nat → Int32} {a v : Int} (hX : zSc Γ b L xs) (hd : decode cc pc = .ok (.iaload, 1)) (ha : 0 ≤ a ∧ a < L ∧ zR a) (hv : xs a.toNat = zI v) (kk : G Γ R cc nL own ad M nc ns (pc + 1) lv (.int (zI v) :: st)) : G Γ R cc nL own ad M nc ns pc lv (.int (zI a) :: .ref b :: st) := by
  intro C H locs ls h1 h2 h3 h4
  refine va_sld C.1 C.2.1 hX.1 hX.2.1 hX.2.2 h3 (zI_in ha.1 ha.2.1 ha.2.2) hd ?_
  have e : (zI a).toNatClampNeg = a.toNat := zI_clamp ha.2.2
  rw [e, hv]
  exact kk C H locs ls h1 h2 h3 h4
theorem G_slen {b L : Nat} {xs : Nat → Int32} (hX : zSc Γ b L xs) (hL : L ≤ 3072) (hd : decode cc pc = .ok (.arraylength, 1)) (kk : G Γ R cc nL own ad M nc ns (pc + 1) lv (.int (zI L) :: st)) : G Γ R cc nL own ad M nc ns pc lv (.ref b :: st) := by
  intro C H locs ls h1 h2 h3 h4
  exact va_slen C.1 C.2.1 hX.1 hX.2.1 hX.2.2 h3 hd (by rw [zI_nat]; exact kk C H locs ls h1 h2 h3 h4)
/-- v != 0 as a value -/
theorem G_nz {v : Int} (d0 : decode cc pc = .ok (.ifCond .eq 7, 3)) (d3 : decode cc (pc + 3) = .ok (.iconst 1, 1)) (d4 : decode cc (pc + 3 + 1) = .ok (.goto 4, 3)) (d7 : decode cc (pc + 7) = .ok (.iconst 0, 1)) (hv : zR v) (kk : G Γ R cc nL own ad M nc ns (pc + 8) lv (.int (zI (if v = 0 then 0 else 1)) :: st)) : G Γ R cc nL own ad M nc ns pc lv (.int (zI v) :: st) := by
  refine G_if_eq (pc + 7) d0 (by omega) hv (fun c => ?_) (fun c => ?_)
  · rw [if_pos c] at kk
    exact G_iconst d7 kk
  · rw [if_neg c] at kk
    exact G_iconst d3 (G_goto (pc + 8) d4 (by omega) kk)
theorem G_nzL {v : Int} (d0 : decode cc pc = .ok (.ifCond .eq 7, 3)) (d3 : decode cc (pc + 3) = .ok (.lconst 1, 1)) (d4 : decode cc (pc + 3 + 1) = .ok (.goto 4, 3)) (d7 : decode cc (pc + 7) = .ok (.lconst 0, 1)) (hv : zR v) (kk : G Γ R cc nL own ad M nc ns (pc + 8) lv (.long (zL (if v = 0 then 0 else 1)) :: st)) : G Γ R cc nL own ad M nc ns pc lv (.int (zI v) :: st) := by
  refine G_if_eq (pc + 7) d0 (by omega) hv (fun c => ?_) (fun c => ?_)
  · rw [if_pos c] at kk
    exact G_lconst d7 kk
  · rw [if_neg c] at kk
    exact G_lconst d3 (G_goto (pc + 8) d4 (by omega) kk)
theorem G_lcmpE {y : Int64} (hd : decode cc pc = .ok (.lcmp, 1)) (kk : G Γ R cc nL own ad M nc ns (pc + 1) lv (.int (zI 0) :: st)) : G Γ R cc nL own ad M nc ns pc lv (.long y :: .long y :: st) := by
  refine G_lcmp hd ?_
  have e : lg_cmp y y = zI 0 := by
    unfold lg_cmp
    rw [if_neg (fun q => by simp at q), if_pos rfl]
    rfl
  rw [e]
  exact kk
theorem G_dcmpl {x y : UInt64} (hd : decode cc pc = .ok (.dcmp .l, 1)) (kk : ∀ v : Int, zR v → Op.cmpValue (FP.dcmp x y) .l = zI v → G Γ R cc nL own ad M nc ns (pc + 1) lv (.int (zI v) :: st)) : G Γ R cc nL own ad M nc ns pc lv (.double y :: .double x :: st) := by
  intro C H locs ls h1 h2 h3 h4
  refine lv_dcmp C.1 C.2.1 hd ?_
  obtain ⟨v, hv, e⟩ := zI_of (Op.cmpValue (FP.dcmp x y) .l)
  rw [e]
  exact kk v hv e C H locs ls h1 h2 h3 h4
theorem G_more {k n : Nat} (h1 : nc ≤ k) (h2 : ns ≤ n) (kk : G Γ R cc nL own ad M k n pc lv st) : G Γ R cc nL own ad M nc ns pc lv st := fun C H locs ls g1 g2 g3 g4 => W.widen h1 h2 (kk C H locs ls g1 g2 g3 g4)
end LAWR
/-- the law's locals -/
abbrev zLv (ad : zK → Nat) (b : Nat) (i : Int) : List (Nat × Value) := [(5, .int (zI i)), (0, .ref b), (1, .ref (ad (0, 0, 0, 0))), (2, .ref (ad (40, 0, 0, 0))), (3, .ref (ad (82, 0, 0, 0))), (4, .ref (ad (83, 0, 0, 0)))]
abbrev zRL : Room := { frames := 12, cells := 601024, slots := 7293034, locals := 462 }
/-- where every case goes on -/
abbrev zKn (Γ : zCx) (b : Nat) (i j : Int) (nc ns : Nat) (ad : zK → Nat) : Prop :=
  ∀ (P2 : zP) (T2 : zS) (w2 : Int64) (wd2 : UInt64) (ad2 : zK → Nat), xJ P2 T2 T2 → T2 (0, 0, 0, 0) 4 ≤ j + 1 → zKp ad ad2 → G Γ zRL cL_law 9 RL ad2 (mm (z_d Γ) ad2 P2 T2 (zXl (z_d Γ) w2 wd2)) (nc + 700) (ns + 7300) 2562 (zLv ad2 b i) []
