/-! ===== more rows: nest mates' calls, Math, division, names for worlds, locals in another order ===== -/
def zCSN (own : String) (idx : Nat) (y : MethodName) (b : ByteArray) (maxL : Nat) (ret : Option FieldType) (n : Nat) : Prop :=
  (∃ host, Cond.methodLinkNest own idx y host ∈ zNW) ∧ Cond.static y ∈ zAW ∧ Cond.initialized y.cls ∈ zAW ∧ Cond.code y b maxL ret ∈ zAW ∧
  y.cls ≠ "java/lang/invoke/MethodHandle" ∧ y.cls ≠ "java/lang/invoke/VarHandle" ∧ (parseMethodDescriptor y.desc).map (fun d => d.parameters.length) = some n
def zCIN (own : String) (idx : Nat) (y : MethodName) (b : ByteArray) (maxL : Nat) (n : Nat) : Prop :=
  (∃ host, Cond.methodLinkNest own idx y host ∈ zNW) ∧ Cond.instanceMethod y ∈ zAW ∧ Cond.initialized y.cls ∈ zAW ∧ Cond.code y b maxL none ∈ zAW ∧ y.name = "<init>" ∧
  y.cls ≠ "java/lang/invoke/MethodHandle" ∧ y.cls ≠ "java/lang/invoke/VarHandle" ∧ (parseMethodDescriptor y.desc).map (fun d => d.parameters.length) = some n
def zMW (own : String) (idx : Nat) (y : MethodName) (b : ByteArray) : Prop := Cond.methodLink own idx y ∈ zAW ∧ Cond.static y ∈ zAW ∧ Cond.initialized "java/lang/Math" ∈ zAW ∧ Cond.code y b 2 (some .int) ∈ zAW
section ZMORE
variable {Γ : zCx} {R : Room} {cc : ByteArray} {nL : Nat} {own : String} {ad : zK → Nat} {M : zMem} {nc ns pc : Nat} {lv : List (Nat × Value)} {st : List Value}
theorem znwOf {w : Cond} (C : zC Γ cc nL own) (h : w ∈ zNW) : va_Nw w (z_s Γ) := C.2.2.2.2.2.2.2.1.2.2.2.2.2.1 w h
theorem G_callSN {idx n d mc ms maxL : Nat} {y : MethodName} {b : ByteArray} {ret : Option FieldType} {As rest : List Value} {post : zPo} (hw : zCSN own idx y b maxL ret n) (hd : decode cc pc = .ok (.invokestatic idx, 3)) (hm : zMn (z_l Γ) (z_d Γ) y b maxL ret d mc ms As ad M post) (hn : As.length = n) (hst : st = As.reverse ++ rest) (hro : (rest.map fun v => v.category).sum ≤ 8) (hR : zRo R d mc ms maxL nc ns)
    (kk : ∀ v ad' M', post v ad' M' → G Γ R cc nL own ad' M' (nc + mc) (ns + ms) (pc + 3) lv (v.toList ++ rest)) : G Γ R cc nL own ad M nc ns pc lv st := by
  obtain ⟨⟨host, a1⟩, a2, a3, a4, a5⟩ := hw
  exact G_run (fun H locs ls C h1 h2 h3 h4 => va_runSN ⟨C.1, C.2.1, C.2.2.1, C.2.2.2.1, C.2.2.2.2.1⟩ (hm H.size) ⟨va_cnB n C.2.2.2.2.1 (zAW_cons a4) rfl rfl rfl (znwOf C a1) (C.2.2.2.2.1 _ a3) a5 hR.1, C.2.2.2.2.1 _ a2, trivial⟩ ⟨zPre.blind _, fun U hU hW => ⟨rfl, zPre.at' C h1 h2 h3 U hU hW⟩⟩ rfl hn h4.1 hst (lv_room hro) hd hR.2) kk
theorem G_callIN {q : Nat} {idx n d mc ms maxL : Nat} {y : MethodName} {b : ByteArray} {As rest : List Value} {post : zPo} (hw : zCIN own idx y b maxL n) (hd : decode cc pc = .ok (.invokespecial idx, 3)) (hm : zMn (z_l Γ) (z_d Γ) y b maxL none d mc ms (.ref q :: As) ad M post) (hn : As.length = n) (hst : st = As.reverse ++ .ref q :: rest) (hro : (rest.map fun v => v.category).sum ≤ 8) (hR : zRo R d mc ms maxL nc ns)
    (kk : ∀ v ad' M', post v ad' M' → G Γ R cc nL own ad' M' (nc + mc) (ns + ms) (pc + 3) lv (v.toList ++ rest)) : G Γ R cc nL own ad M nc ns pc lv st := by
  obtain ⟨⟨host, a1⟩, a2, a3, a4, a5, a6⟩ := hw
  exact G_run (fun H locs ls C h1 h2 h3 h4 => va_runIN ⟨C.1, C.2.1, C.2.2.1, C.2.2.2.1, C.2.2.2.2.1⟩ (hm H.size) ⟨va_cnB n C.2.2.2.2.1 (zAW_cons a4) rfl rfl rfl (znwOf C a1) (C.2.2.2.2.1 _ a3) a6 hR.1, a5, C.2.2.2.2.1 _ a2⟩ ⟨zPre.blind _, fun U hU hW => ⟨rfl, zPre.at' C h1 h2 h3 U hU hW⟩⟩ rfl hn h4.1 hst (lv_room hro) hd hR.2) kk
theorem G_mmax {idx : Nat} {x y : Int} (hw : zMW own idx Lib.Math.max.name Lib.Math.max.code) (hd : decode cc pc = .ok (.invokestatic idx, 3)) (hx : zR x) (hy : zR y) (hR : (1 ≤ R.frames ∧ (st.map fun v => v.category).sum + 13 ≤ R.locals) ∧ nc ≤ R.cells ∧ ns ≤ R.slots)
    (kk : G Γ R cc nL own ad M nc ns (pc + 3) lv (.int (zI (max x y)) :: st)) : G Γ R cc nL own ad M nc ns pc lv (.int (zI y) :: .int (zI x) :: st) := fun C H locs ls h1 h2 h3 h4 =>
  va_mmax C.1 C.2.1 (C.2.2.1.trans h4.1.symm) C.2.2.2.1 (C.2.2.2.2.1 _ hw.1) (C.2.2.2.2.1 _ hw.2.1) (C.2.2.2.2.1 _ hw.2.2.1) (C.2.2.2.2.1 _ hw.2.2.2) hR.1.1 hR.1.2 hR.2.1 hR.2.2 hd (by
    have e : (if zI x < zI y then zI y else zI x) = zI (max x y) := by
      by_cases h : x < y
      · rw [if_pos ((zI_lt hx hy).mpr h), show max x y = y by omega]
      · rw [if_neg (fun q => h ((zI_lt hx hy).mp q)), show max x y = x by omega]
    rw [e]
    exact kk C H locs ls h1 h2 h3 h4)
theorem G_mmin {idx : Nat} {x y : Int} (hw : zMW own idx Lib.Math.min.name Lib.Math.min.code) (hd : decode cc pc = .ok (.invokestatic idx, 3)) (hx : zR x) (hy : zR y) (hR : (1 ≤ R.frames ∧ (st.map fun v => v.category).sum + 13 ≤ R.locals) ∧ nc ≤ R.cells ∧ ns ≤ R.slots)
    (kk : G Γ R cc nL own ad M nc ns (pc + 3) lv (.int (zI (min x y)) :: st)) : G Γ R cc nL own ad M nc ns pc lv (.int (zI y) :: .int (zI x) :: st) := fun C H locs ls h1 h2 h3 h4 =>
  va_mmin C.1 C.2.1 (C.2.2.1.trans h4.1.symm) C.2.2.2.1 (C.2.2.2.2.1 _ hw.1) (C.2.2.2.2.1 _ hw.2.1) (C.2.2.2.2.1 _ hw.2.2.1) (C.2.2.2.2.1 _ hw.2.2.2) hR.1.1 hR.1.2 hR.2.1 hR.2.2 hd (by
    have e : (if zI y < zI x then zI y else zI x) = zI (min x y) := by
      by_cases h : y < x
      · rw [if_pos ((zI_lt hy hx).mpr h), show min x y = y by omega]
      · rw [if_neg (fun q => h ((zI_lt hy hx).mp q)), show min x y = x by omega]
    rw [e]
    exact kk C H locs ls h1 h2 h3 h4)
theorem zI_div {x y : Int} (hx : 0 ≤ x ∧ zR x) (hy : 0 < y ∧ zR y) : zI x / zI y = zI (x / y) := by
  apply Int32.toInt_inj.1
  have h1 : 0 ≤ x / y := Int.ediv_nonneg hx.1 (by omega)
  have h2 : x / y ≤ x := Int.ediv_le_self y hx.1
  obtain ⟨hx1, hx2, hx3⟩ := hx
  rw [zI_toInt ⟨by omega, by omega⟩, Int32.toInt_div, zI_toInt ⟨hx2, hx3⟩, zI_toInt hy.2, Int.tdiv_eq_ediv_of_nonneg hx1]
  rw [Int.bmod_eq_of_le (by omega) (by omega)]
theorem zI_ne0 {y : Int} (hy : 0 < y ∧ zR y) : ¬ zI y = 0 := fun h => by
  have := (zI_inj hy.2 zR_0).mp (h.trans zI_0.symm)
  omega
theorem G_idiv {x y : Int} (hd : decode cc pc = .ok (.idiv, 1)) (hx : 0 ≤ x ∧ zR x) (hy : 0 < y ∧ zR y) (kk : G Γ R cc nL own ad M nc ns (pc + 1) lv (.int (zI (x / y)) :: st)) : G Γ R cc nL own ad M nc ns pc lv (.int (zI y) :: .int (zI x) :: st) := fun C H locs ls h1 h2 h3 h4 =>
  lv_idiv C.1 C.2.1 hd (zI_ne0 hy) (by rw [zI_div hx hy]; exact kk C H locs ls h1 h2 h3 h4)
theorem G_irem {x y : Int} (hd : decode cc pc = .ok (.irem, 1)) (hx : 0 ≤ x ∧ zR x) (hy : 0 < y ∧ zR y) (kk : G Γ R cc nL own ad M nc ns (pc + 1) lv (.int (zI (x % y)) :: st)) : G Γ R cc nL own ad M nc ns pc lv (.int (zI y) :: .int (zI x) :: st) := fun C H locs ls h1 h2 h3 h4 =>
  lv_irem C.1 C.2.1 hd (zI_ne0 hy) (by
    rw [zI_div hx hy, zI_mul, zI_sub, show x - x / y * y = x % y by rw [Int.emod_def, Int.mul_comm]]
    exact kk C H locs ls h1 h2 h3 h4)
theorem G_perm {lv' : List (Nat × Value)} (ks : List Nat) (h : lv_pick lv ks = lv') (kk : G Γ R cc nL own ad M nc ns pc lv' st) : G Γ R cc nL own ad M nc ns pc lv st := fun C H locs ls h1 h2 h3 h4 => kk C H locs ls h1 h2 h3 (lv_sub h4 ks h)
theorem G_lcmp {x y : Int64} (hd : decode cc pc = .ok (.lcmp, 1)) (kk : G Γ R cc nL own ad M nc ns (pc + 1) lv (.int (lg_cmp x y) :: st)) : G Γ R cc nL own ad M nc ns pc lv (.long y :: .long x :: st) := fun C H locs ls h1 h2 h3 h4 => W.lcmp C.1 C.2.1 hd (kk C H locs ls h1 h2 h3 h4)
end ZMORE
theorem G_null {Γ : zCx} {R : Room} {cc : ByteArray} {nL : Nat} {own : String} {ad : zK → Nat} {M : zMem} {nc ns pc : Nat} {lv : List (Nat × Value)} {st : List Value} (hd : decode cc pc = .ok (.aconst_null, 1)) (kk : G Γ R cc nL own ad M nc ns (pc + 1) lv (.null :: st)) : G Γ R cc nL own ad M nc ns pc lv st := fun C H locs ls h1 h2 h3 h4 => lv_null C.1 C.2.1 hd (kk C H locs ls h1 h2 h3 h4)
theorem G_tabIn {Γ : zCx} {R : Room} {cc : ByteArray} {nL : Nat} {own : String} {ad : zK → Nat} {M : zMem} {nc ns pc : Nat} {lv : List (Nat × Value)} {st : List Value} {dflt lo hi : Int} {offs : Array Int} {len : Nat} {x off : Int} (tgt : Nat) (hd : decode cc pc = .ok (.tableswitch dflt lo hi offs, len)) (hx : zR x) (h1 : lo ≤ x ∧ x ≤ hi) (ho : offs[(x - lo).toNat]? = some off) (ht : (pc : Int) + off = (tgt : Int)) (kk : G Γ R cc nL own ad M nc ns tgt lv st) : G Γ R cc nL own ad M nc ns pc lv (.int (zI x) :: st) := fun C H locs ls g1 g2 g3 g4 =>
  lv_tableIn C.1 C.2.1 hd (by rw [zI_toInt hx]; omega) (by rw [zI_toInt hx]; omega) (by rw [zI_toInt hx]; exact ho) ht (kk C H locs ls g1 g2 g3 g4)
theorem G_tabOut {Γ : zCx} {R : Room} {cc : ByteArray} {nL : Nat} {own : String} {ad : zK → Nat} {M : zMem} {nc ns pc : Nat} {lv : List (Nat × Value)} {st : List Value} {dflt lo hi : Int} {offs : Array Int} {len : Nat} {x : Int} (tgt : Nat) (hd : decode cc pc = .ok (.tableswitch dflt lo hi offs, len)) (hx : zR x) (h1 : x < lo ∨ hi < x) (ht : (pc : Int) + dflt = (tgt : Int)) (kk : G Γ R cc nL own ad M nc ns tgt lv st) : G Γ R cc nL own ad M nc ns pc lv (.int (zI x) :: st) := fun C H locs ls g1 g2 g3 g4 =>
  lv_tableOut C.1 C.2.1 hd (by rw [zI_toInt hx]; omega) ht (kk C H locs ls g1 g2 g3 g4)
theorem G_ldc2 {Γ : zCx} {R : Room} {cc : ByteArray} {nL : Nat} {own : String} {ad : zK → Nat} {M : zMem} {nc ns pc : Nat} {lv : List (Nat × Value)} {st : List Value} {idx : Nat} {z : Int} (hw : Cond.constantLong own idx (zL z) ∈ zAW) (hd : decode cc pc = .ok (.ldc2_w idx, 3)) (kk : G Γ R cc nL own ad M nc ns (pc + 3) lv (.long (zL z) :: st)) : G Γ R cc nL own ad M nc ns pc lv st := fun C H locs ls h1 h2 h3 h4 => lv_ldc2 C.1 C.2.1 C.2.2.2.1 (C.2.2.2.2.1 _ hw) hd (kk C H locs ls h1 h2 h3 h4)
