/-! ===== means ===== -/
/-- the mean: 0.0 of none -/
def zmd (s c : Int) : UInt64 := if c = 0 then FP.dconst0 else FP.ddiv (FP.i2d (zI s)) (FP.i2d (zI c))
theorem zmd_n {s c : Int} (hs : 0 ≤ s ∧ s ≤ 240) (hc : 0 ≤ c ∧ c ≤ 80) : vf_n64 (zmd s c) := by
  unfold zmd
  split
  · show FP.dconst0 &&& 0x7fffffffffffffff ≤ 0x7ff0000000000000
    decide +kernel
  · exact zdv hs ⟨by omega, hc.2⟩
section ZDBL
variable {Γ : zCx} {R : Room} {cc : ByteArray} {nL : Nat} {own : String} {ad : zK → Nat} {M M' : zMem} {nc ns pc : Nat} {lv : List (Nat × Value)} {st : List Value}
theorem G_dconst0 (hd : decode cc pc = .ok (.dconst 0, 1)) (kk : G Γ R cc nL own ad M nc ns (pc + 1) lv (.double FP.dconst0 :: st)) : G Γ R cc nL own ad M nc ns pc lv st := fun C H locs ls h1 h2 h3 h4 => lv_dconst0 C.1 C.2.1 hd (kk C H locs ls h1 h2 h3 h4)
theorem G_i2d {x : Int} (hd : decode cc pc = .ok (.i2d, 1)) (kk : G Γ R cc nL own ad M nc ns (pc + 1) lv (.double (FP.i2d (zI x)) :: st)) : G Γ R cc nL own ad M nc ns pc lv (.int (zI x) :: st) := fun C H locs ls h1 h2 h3 h4 => lv_i2d C.1 C.2.1 hd (kk C H locs ls h1 h2 h3 h4)
theorem G_ddiv {x y : UInt64} (hd : decode cc pc = .ok (.ddiv, 1)) (hn : vf_n64 (FP.ddiv x y)) (kk : G Γ R cc nL own ad M nc ns (pc + 1) lv (.double (FP.ddiv x y) :: st)) : G Γ R cc nL own ad M nc ns pc lv (.double y :: .double x :: st) := fun C H locs ls h1 h2 h3 h4 => lv_ddiv C.1 C.2.1 hd hn (kk C H locs ls h1 h2 h3 h4)
theorem G_dret_m {mn : String} {mc ms : Nat} {v w : UInt64} (hf : zFn Γ mn (some .double) (zD (some (.double w)) ad M') mc ms) (hd : decode cc pc = .ok (.dreturn, 1)) (hc : nc ≤ mc ∧ ns ≤ ms) (he : v = w) (hM : M = M') : G Γ R cc nL own ad M nc ns pc lv [.double v] := G_dret hf hd hc ⟨by rw [he], rfl, hM⟩
end ZDBL
