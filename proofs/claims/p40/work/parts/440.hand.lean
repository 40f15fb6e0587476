/-! ===== calls of methods with handlers on an object; methods that call them ===== -/
def zCHV (own : String) (idx : Nat) (Cn : String) (y : MethodName) (b : ByteArray) (maxL : Nat) (ret : Option FieldType) (hh : List (Nat × Nat × Nat × Nat)) (n : Nat) : Prop :=
  Cond.methodLink own idx y ∈ zAW ∧ Cond.instanceMethod y ∈ zAW ∧ Cond.selects Cn y y ∈ zAW ∧ Cond.initialized y.cls ∈ zAW ∧ Cond.codeWith y b maxL ret hh ∈ zAW ∧ y.cls = Cn ∧
  y.cls ≠ "java/lang/invoke/MethodHandle" ∧ y.cls ≠ "java/lang/invoke/VarHandle" ∧ (parseMethodDescriptor y.desc).map (fun d => d.parameters.length) = some n
theorem zcwHV {R : Room} {own Cn : String} {s : State} {args : Array Value} {idx : Nat} {y : MethodName} {b : ByteArray} {maxL : Nat} {ret : Option FieldType} {hh : List (Nat × Nat × Nat × Nat)} {n d mc ms : Nat} (hts : ∀ w ∈ zAW, w.before args s = true) (h : zCHV own idx Cn y b maxL ret hh n) (hR : d + 1 ≤ R.frames ∧ 8 + (maxL + 11) + 38 * d ≤ R.locals) : vx_CVW R s args own Cn idx y b maxL ret hh (Cond.codeWith y b maxL ret hh :: zAW) (zRm d mc ms) mc ms n := by
  obtain ⟨a1, a2, a3, a4, a5, a6, a7⟩ := h
  have a4 : Cond.initialized Cn ∈ zAW := a6 ▸ a4
  refine vx_cwVW n hts ?_ rfl rfl rfl ⟨a6, a7⟩ hR
  intro w hw
  rcases List.mem_append.mp hw with hw | hw
  · simp only [List.mem_cons, List.not_mem_nil, or_false] at hw
    rcases hw with rfl | rfl | rfl | rfl
    · exact ⟨a1, zAW_good a1⟩
    · exact ⟨a2, zAW_good a2⟩
    · exact ⟨a3, zAW_good a3⟩
    · exact ⟨a4, zAW_good a4⟩
  · exact zAW_cons a5 w hw
/-- a method whose callees have handlers -/
def zMc (l : Launch) (Δ : zDl) (y : MethodName) (b : ByteArray) (maxL : Nat) (ret : Option FieldType) (d mc ms : Nat) (args : List Value) (ad : zK → Nat) (M : zMem) (post : zPo) : Prop :=
  ∀ sz : Nat, Met l y (zws y b maxL ret) (zRm d mc ms) (va_Pc args (fun U => zPre Δ ad M sz U ∧ zNc U)) (zQc Δ (zfA ad M sz) post) mc ms (zfA ad M sz)
theorem zMc_of {l : Launch} {Δ : zDl} {y : MethodName} {b : ByteArray} {maxL : Nat} {ret : Option FieldType} {d mc ms : Nat} {args : List Value} {ad : zK → Nat} {M : zMem} {post : zPo} (hy : plainName y.cls = true) (hl : (lg_sl args).length ≤ maxL)
    (body : ∀ Γ : zCx, z_l Γ = l → z_d Γ = Δ → zFn Γ y.name ret post mc ms → zNc (z_s Γ) → G Γ (zRm d mc ms) b maxL y.cls ad M 0 0 0 (lv_args 0 args) []) : zMc l Δ y b maxL ret d mc ms args ad M post := by
  intro sz
  refine Met.ofW (cc := b) (maxL := maxL) (ret := ret) hy rfl ?_
  intro p e s m args' below meth c s₁ B hml hv
  obtain ⟨rfl, ⟨hsz, hH, hK, hX⟩, hNc⟩ := hv
  subst hsz
  have hts := atoms_spec (ws := zws y b maxL ret) B.pre
  have hle := lv_entry args hl
  rw [lg_entry_eq]
  exact body ((l, Δ), (p, e, s, m, args.toArray), (below, meth, c, zfA ad M s.heap.size, MQ below (zQc Δ (zfA ad M s.heap.size) post) args.toArray s mc ms (zfA ad M s.heap.size))) rfl rfl
    ⟨B.returns, (name_of_methodNamed B.named B.method).1, fun _ _ _ _ h => h⟩ hNc
    ⟨B.exec, B.bytes, hml, findClass_of_methodNamed B.named, fun w h => hts w (List.mem_cons_of_mem _ h), B.notSynchronized, hK, hX, fun q h => Or.inr h⟩ s.heap [] _ hH (fun k h => Or.inl ⟨k, h, rfl⟩) va_S.rf hle
section HANDV
variable {Γ : zCx} {R : Room} {cc : ByteArray} {nL : Nat} {own : String} {ad : zK → Nat} {M : zMem} {nc ns pc : Nat} {lv : List (Nat × Value)} {st : List Value}
theorem G_callHV {key : zK} {ci : Nat} {fs : List Value} {r : vw_C} {idx n d mc ms maxL : Nat} {y : MethodName} {b : ByteArray} {ret : Option FieldType} {hh : List (Nat × Nat × Nat × Nat)} {As rest : List Value} {post : zPo} (hNc : zNc (z_s Γ)) (hw : zCHV own idx r.1 y b maxL ret hh n) (hd : decode cc pc = .ok (.invokevirtual idx, 3)) (hM : M key = some (.inr (ci, fs))) (hc : vwCl[ci]? = some r) (hm : zMh (z_l Γ) (z_d Γ) y b maxL ret hh d mc ms (.ref (ad key) :: As) ad M post) (hn : As.length = n) (hst : st = As.reverse ++ .ref (ad key) :: rest) (hro : (rest.map fun v => v.category).sum ≤ 8) (hR : zRo R d mc ms maxL nc ns)
    (kk : ∀ v ad' M', post v ad' M' → G Γ R cc nL own ad' M' (nc + mc) (ns + ms) (pc + 3) lv (v.toList ++ rest)) : G Γ R cc nL own ad M nc ns pc lv st := by
  refine G_runx (mc := mc) (ms := ms) (rest := rest) (post := post) (px := fun _ _ _ => False) (a := (Value.ref (ad key) :: As).toArray) (fun H locs ls C h1 h2 h3 h4 => ?_) (fun _ _ _ h => h.elim) kk
  have hr : vx_Run (z_p Γ) (z_l Γ) (z_e Γ) R (z_s Γ) (z_m Γ) (z_a Γ) (z_b Γ) (z_M Γ) (z_c Γ) H locs nc ns mc ms (F0 (z_m Γ) pc ls st) rest (zQc (z_d Γ) (zfA ad M H.size) post (Value.ref (ad key) :: As).toArray) (fun _ _ _ => False) (zfA ad M H.size) :=
    vx_runVX (hh := hh) ⟨C.1, C.2.1, C.2.2.1, C.2.2.2.1, C.2.2.2.2.1⟩ (hm H.size) (zcwHV C.2.2.2.2.1 hw hR.1) ⟨zPre.blindN _, zrecv C h1 hM hc, fun U hU hW => ⟨rfl, zPre.at' C h1 h2 h3 U hU hW, hNc.go hW⟩⟩ rfl hn h4.1 hst (lv_room hro) hd hR.2
  intro T hT X
  rcases hr T hT X with h | ⟨q, st₀, t, T', L, E, ce, h0, X', hL, e1, e2, hF, -⟩
  · exact Or.inl h
  · exact hF.elim
theorem G_callVc {key : zK} {ci : Nat} {fs : List Value} {r : vw_C} {idx n d mc ms maxL : Nat} {y : MethodName} {b : ByteArray} {ret : Option FieldType} {As rest : List Value} {post : zPo} (hNc : zNc (z_s Γ)) (hw : zCV own idx r.1 y b maxL ret n) (hd : decode cc pc = .ok (.invokevirtual idx, 3)) (hM : M key = some (.inr (ci, fs))) (hc : vwCl[ci]? = some r) (hm : zMc (z_l Γ) (z_d Γ) y b maxL ret d mc ms (.ref (ad key) :: As) ad M post) (hn : As.length = n) (hst : st = As.reverse ++ .ref (ad key) :: rest) (hro : (rest.map fun v => v.category).sum ≤ 8) (hR : zRo R d mc ms maxL nc ns)
    (kk : ∀ v ad' M', post v ad' M' → G Γ R cc nL own ad' M' (nc + mc) (ns + ms) (pc + 3) lv (v.toList ++ rest)) : G Γ R cc nL own ad M nc ns pc lv st :=
  G_run (fun H locs ls C h1 h2 h3 h4 => va_runV ⟨C.1, C.2.1, C.2.2.1, C.2.2.2.1, C.2.2.2.2.1⟩ (hm H.size) (zcwV C.2.2.2.2.1 hw hR.1) ⟨zPre.blindN _, zrecv C h1 hM hc, fun U hU hW => ⟨rfl, zPre.at' C h1 h2 h3 U hU hW, hNc.go hW⟩⟩ rfl hn h4.1 hst (lv_room hro) hd hR.2) kk
end HANDV
def hhSend : List (Nat × Nat × Nat × Nat) := [(143, 181, 369, 129), (182, 368, 369, 129), (143, 181, 381, 131), (182, 368, 381, 131)]
theorem cl_129 : Cond.classLink RX7 129 "java/lang/IllegalArgumentException" ∈ zAW := zAW_of 807 (by decide +kernel) (by decide +kernel)
theorem cl_131 : Cond.classLink RX7 131 "java/lang/IllegalStateException" ∈ zAW := zAW_of 808 (by decide +kernel) (by decide +kernel)
theorem ct_IAE : Cond.castable "java/lang/IllegalArgumentException" "java/lang/IllegalArgumentException" ∈ zNW := zNW_of 176 (by decide +kernel) (by decide +kernel)
theorem ct_ISE : Cond.castable "java/lang/IllegalStateException" "java/lang/IllegalStateException" ∈ zNW := zNW_of 227 (by decide +kernel) (by decide +kernel)
theorem hk_X7_224 : zCHV RX7 224 RX7 yX7_send cX7_send 11 (some .boolean) hhSend 0 := ⟨zAW_of 803 (by decide +kernel) (by decide +kernel), zAW_of 804 (by decide +kernel) (by decide +kernel), zAW_of 805 (by decide +kernel) (by decide +kernel), gk_X7_94.2.2.2.1, zAW_of 806 (by decide +kernel) (by decide +kernel), rfl, by decide, by decide, by decide +kernel⟩
