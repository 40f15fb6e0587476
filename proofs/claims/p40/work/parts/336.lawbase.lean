/-! ===== the law: its arrays, its handlers, calls of methods with handlers ===== -/
section LAWB
variable {Γ : zCx} {R : Room} {cc : ByteArray} {nL : Nat} {own : String} {ad : zK → Nat} {M : zMem} {nc ns pc : Nat} {lv : List (Nat × Value)} {st : List Value}
end LAWB
def xIOOB : String := "java/lang/IndexOutOfBoundsException"
def xIAE : String := "java/lang/IllegalArgumentException"
def xISE : String := "java/lang/IllegalStateException"
/-- the exceptions that no row before the right one catches -/
def zNc (U : State) : Prop := True ∧ True ∧ va_Nc xISE xIAE U
theorem zNc.go {s U : State} (h : zNc s) (hW : s.WarmedH U.vm) : zNc U := ⟨h.1, h.2.1, h.2.2.moved hW.alike⟩
/-- a method with handlers, that returns -/
def zMh (l : Launch) (Δ : zDl) (y : MethodName) (b : ByteArray) (maxL : Nat) (ret : Option FieldType) (hh : List (Nat × Nat × Nat × Nat)) (d mc ms : Nat) (args : List Value) (ad : zK → Nat) (M : zMem) (post : zPo) : Prop :=
  ∀ sz : Nat, vx_Met l y (Cond.codeWith y b maxL ret hh :: zAW) (zRm d mc ms) (va_Pc args (fun U => zPre Δ ad M sz U ∧ zNc U)) (zQc Δ (zfA ad M sz) post) (fun _ _ _ => False) mc ms (zfA ad M sz)
theorem zMh_of {l : Launch} {Δ : zDl} {y : MethodName} {b : ByteArray} {maxL : Nat} {ret : Option FieldType} {hh : List (Nat × Nat × Nat × Nat)} {d mc ms : Nat} {args : List Value} {ad : zK → Nat} {M : zMem} {post : zPo} (hy : plainName y.cls = true) (hl : (lg_sl args).length ≤ maxL)
    (body : ∀ Γ : zCx, z_l Γ = l → z_d Γ = Δ → zFn Γ y.name ret post mc ms → (z_c Γ).exceptionTable.toList = tableOf hh → zNc (z_s Γ) → G Γ (zRm d mc ms) b maxL y.cls ad M 0 0 0 (lv_args 0 args) []) : zMh l Δ y b maxL ret hh d mc ms args ad M post := by
  intro sz
  refine vx_ofWH (cc := b) (maxL := maxL) (ret := ret) (hh := hh) hy rfl ?_
  intro p e s m args' below meth c s₁ B hml hv
  obtain ⟨rfl, ⟨hsz, hH, hK, hX⟩, hNc⟩ := hv
  subst hsz
  have hts := atoms_spec (ws := Cond.codeWith y b maxL ret hh :: zAW) B.pre
  have hle := lv_entry args hl
  have htab := vx_table (x := y) B (hts _ List.mem_cons_self)
  rw [lg_entry_eq]
  exact body ((l, Δ), (p, e, s, m, args.toArray), (below, meth, c, zfA ad M s.heap.size, vx_MQ below (zQc Δ (zfA ad M s.heap.size) post) (fun _ _ _ => False) args.toArray s mc ms (zfA ad M s.heap.size))) rfl rfl
    ⟨B.returns, (name_of_methodNamed B.named B.method).1, fun _ _ _ _ h => vx_ret h⟩ htab hNc
    ⟨B.exec, B.bytes, hml, findClass_of_methodNamed B.named, fun w h => hts w (List.mem_cons_of_mem _ h), B.notSynchronized, hK, hX, fun q h => Or.inr h⟩ s.heap [] _ hH (fun k h => Or.inl ⟨k, h, rfl⟩) va_S.rf hle
/-- the words of a static call of a method with handlers -/
def zCH (own : String) (idx : Nat) (y : MethodName) (b : ByteArray) (maxL : Nat) (ret : Option FieldType) (hh : List (Nat × Nat × Nat × Nat)) (n : Nat) : Prop :=
  Cond.methodLink own idx y ∈ zAW ∧ Cond.static y ∈ zAW ∧ Cond.initialized y.cls ∈ zAW ∧ Cond.codeWith y b maxL ret hh ∈ zAW ∧
  y.cls ≠ "java/lang/invoke/MethodHandle" ∧ y.cls ≠ "java/lang/invoke/VarHandle" ∧ (parseMethodDescriptor y.desc).map (fun d => d.parameters.length) = some n
theorem zcwH {R : Room} {own : String} {s : State} {args : Array Value} {idx : Nat} {y : MethodName} {b : ByteArray} {maxL : Nat} {ret : Option FieldType} {hh : List (Nat × Nat × Nat × Nat)} {n d mc ms : Nat} (hts : ∀ w ∈ zAW, w.before args s = true) (h : zCH own idx y b maxL ret hh n) (hR : d + 1 ≤ R.frames ∧ 8 + (maxL + 11) + 38 * d ≤ R.locals) : vx_CSW R s args own idx y b maxL ret hh (Cond.codeWith y b maxL ret hh :: zAW) (zRm d mc ms) mc ms n := by
  obtain ⟨a1, a2, a3, a4, a5⟩ := h
  refine vx_cwSW n hts ?_ rfl rfl rfl a5 hR
  intro w hw
  rcases List.mem_append.mp hw with hw | hw
  · simp only [List.mem_cons, List.not_mem_nil, or_false] at hw
    rcases hw with rfl | rfl | rfl
    · exact ⟨a1, zAW_good a1⟩
    · exact ⟨a2, zAW_good a2⟩
    · exact ⟨a3, zAW_good a3⟩
  · exact zAW_cons a4 w hw
section LAWC
variable {Γ : zCx} {R : Room} {cc : ByteArray} {nL : Nat} {own : String} {ad : zK → Nat} {M : zMem} {nc ns pc : Nat} {lv : List (Nat × Value)} {st : List Value}
theorem zPre.blindN {Δ : zDl} {sz : Nat} (args : List Value) : FrameBlind (va_Pc args (fun U => zPre Δ ad M sz U ∧ zNc U)) := by
  intro a U g mk h
  obtain ⟨h0, h1, h2⟩ := h
  exact ⟨h0, (zPre.blind (Δ := Δ) (ad := ad) (M := M) (sz := sz) args a U g mk ⟨h0, h1⟩).2, h2⟩
theorem G_callH {idx n d mc ms maxL : Nat} {y : MethodName} {b : ByteArray} {ret : Option FieldType} {hh : List (Nat × Nat × Nat × Nat)} {As rest : List Value} {post : zPo} (hNc : zNc (z_s Γ)) (hw : zCH own idx y b maxL ret hh n) (hd : decode cc pc = .ok (.invokestatic idx, 3)) (hm : zMh (z_l Γ) (z_d Γ) y b maxL ret hh d mc ms As ad M post) (hn : As.length = n) (hst : st = As.reverse ++ rest) (hro : (rest.map fun v => v.category).sum ≤ 8) (hR : zRo R d mc ms maxL nc ns)
    (kk : ∀ v ad' M', post v ad' M' → G Γ R cc nL own ad' M' (nc + mc) (ns + ms) (pc + 3) lv (v.toList ++ rest)) : G Γ R cc nL own ad M nc ns pc lv st := by
  refine G_runx (mc := mc) (ms := ms) (rest := rest) (post := post) (px := fun _ _ _ => False) (a := As.toArray) (fun H locs ls C h1 h2 h3 h4 => ?_) (fun _ _ _ h => h.elim) kk
  have hr : vx_Run (z_p Γ) (z_l Γ) (z_e Γ) R (z_s Γ) (z_m Γ) (z_a Γ) (z_b Γ) (z_M Γ) (z_c Γ) H locs nc ns mc ms (F0 (z_m Γ) pc ls st) rest (zQc (z_d Γ) (zfA ad M H.size) post As.toArray) (fun _ _ _ => False) (zfA ad M H.size) :=
    vx_runSX (hh := hh) ⟨C.1, C.2.1, C.2.2.1, C.2.2.2.1, C.2.2.2.2.1⟩ (hm H.size) (zcwH C.2.2.2.2.1 hw hR.1) ⟨zPre.blindN _, fun U hU hW => ⟨rfl, zPre.at' C h1 h2 h3 U hU hW, hNc.go hW⟩⟩ rfl hn h4.1 hst (lv_room hro) hd hR.2
  intro T hT X
  rcases hr T hT X with h | ⟨q, st₀, t, T', L, E, ce, h0, X', hL, e1, e2, hF, -⟩
  · exact Or.inl h
  · exact hF.elim
/-- caught by a row of the table -/
theorem zGX_catch {E nm : String} (pre : List ExceptionTableEntry) (x : ExceptionTableEntry) (suf : List ExceptionTableEntry) (hsplit : (z_c Γ).exceptionTable.toList = pre ++ x :: suf)
    (hpass : ∀ z ∈ pre, z.catchType ≠ 0 ∧ ∃ nm : String, Cond.classLink own z.catchType nm ∈ zAW ∧ va_Nc E nm (z_s Γ)) (hx : covers x pc = true) (h0 : x.catchType ≠ 0)
    (hlink : Cond.classLink own x.catchType nm ∈ zAW) (hcast : Cond.castable E nm ∈ zNW) (kk : ∀ q, G Γ R cc nL own ad M nc ns x.handlerPc lv [.ref q]) {rest : List Value} : zGX' Γ R cc nL own ad M nc ns pc lv rest E := by
  intro C H locs ls ce q h1 h2 h3 h4 hce hcv hcl
  obtain ⟨-, -, -, hown, hts, -, -, hG, -⟩ := id C
  obtain ⟨-, -, -, -, -, hNw, -⟩ := id hG
  exact vx_catch hown pre x suf hsplit (fun z hz => by
    obtain ⟨g0, nm', g1, g2⟩ := hpass z hz
    exact Or.inr ⟨g0, nm', hts _ g1, g2⟩) hx h0 (hts _ hlink) (va_Nw.use (zNW_tab hcast) (hNw _ hcast)) hce hcv hcl (kk q C H locs ls h1 h2 h3 h4)
end LAWC
