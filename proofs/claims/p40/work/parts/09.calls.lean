/-! ===== contracts, calls, ends ===== -/
def zRm (d mc ms : Nat) : Room := { frames := d, cells := mc, slots := ms, locals := 38 * d }
def zfA (ad : zK → Nat) (M : zMem) (sz : Nat) : Nat → Prop := fun q => (∃ k, M k ≠ none ∧ ad k = q) ∨ sz ≤ q
def zPre (Δ : zDl) (ad : zK → Nat) (M : zMem) (sz : Nat) (U : State) : Prop := U.heap.size = sz ∧ zH Δ ad M U.heap ∧ va_K Δ.1 vwCl (zT Δ.2.1) U ∧ zGX (zfA ad M sz) Δ.2.2 U U.heap
abbrev zPo : Type := Option Value → (zK → Nat) → zMem → Prop
abbrev zPx : Type := String → (zK → Nat) → zMem → Prop
def zQc (Δ : zDl) (A : Nat → Prop) (post : zPo) : Array Value → State → Outcome → State → Prop := fun _ st oc t => (∃ v ad' M', oc = .returned v ∧ post v ad' M' ∧ zH Δ ad' M' t.heap ∧ ∀ k, M' k ≠ none → A (ad' k)) ∧ va_F A st t
def zXc (Δ : zDl) (A : Nat → Prop) (px : zPx) : String → State → State → Prop := fun E st t => (∃ ad' M', px E ad' M' ∧ zH Δ ad' M' t.heap ∧ ∀ k, M' k ≠ none → A (ad' k)) ∧ va_F A st t
abbrev zws (y : MethodName) (b : ByteArray) (maxL : Nat) (ret : Option FieldType) : List Cond := .code y b maxL ret :: zAW
/-- a method that returns -/
def zMn (l : Launch) (Δ : zDl) (y : MethodName) (b : ByteArray) (maxL : Nat) (ret : Option FieldType) (d mc ms : Nat) (args : List Value) (ad : zK → Nat) (M : zMem) (post : zPo) : Prop :=
  ∀ sz : Nat, Met l y (zws y b maxL ret) (zRm d mc ms) (va_Pc args (zPre Δ ad M sz)) (zQc Δ (zfA ad M sz) post) mc ms (zfA ad M sz)
/-- a method that returns or throws -/
def zMx (l : Launch) (Δ : zDl) (y : MethodName) (b : ByteArray) (maxL : Nat) (ret : Option FieldType) (d mc ms : Nat) (args : List Value) (ad : zK → Nat) (M : zMem) (post : zPo) (px : zPx) : Prop :=
  ∀ sz : Nat, vx_Met l y (zws y b maxL ret) (zRm d mc ms) (va_Pc args (zPre Δ ad M sz)) (zQc Δ (zfA ad M sz) post) (zXc Δ (zfA ad M sz) px) mc ms (zfA ad M sz)
theorem zPre.blind {Δ : zDl} {ad : zK → Nat} {M : zMem} {sz : Nat} (args : List Value) : FrameBlind (va_Pc args (zPre Δ ad M sz)) := by
  intro a U g mk h
  obtain ⟨h0, h1, h2, h3, h4⟩ := h
  exact ⟨h0, h1, h2, va_K.moved (u := U) (U := U.calling g mk a) (Vm.Alike.refl U.vm) h3, h4.blind rfl⟩
section ZCALL
variable {Γ : zCx} {R : Room} {cc : ByteArray} {nL : Nat} {own : String} {ad : zK → Nat} {M : zMem} {nc ns pc : Nat} {lv : List (Nat × Value)} {st : List Value}
theorem zfA_sub {A : Nat → Prop} {s : State} {H : Heap} {locs : List Loc} (h2 : ∀ k, M k ≠ none → A (ad k)) (h3 : va_S A s.heap H locs) (hA : ∀ q : Nat, s.heap.size ≤ q → A q) : ∀ q, zfA ad M H.size q → A q := by
  intro q hq
  rcases hq with ⟨k, h, rfl⟩ | h
  · exact h2 k h
  · exact hA q (Nat.le_trans h3.1 h)
theorem zPre.at' {H : Heap} {locs : List Loc} (C : zC Γ cc nL own) (h1 : zH (z_d Γ) ad M H) (h2 : ∀ k, M k ≠ none → z_A Γ (ad k)) (h3 : va_S (z_A Γ) (z_s Γ).heap H locs) (U : State) (hU : U.heap = H) (hW : (z_s Γ).WarmedH U.vm) : zPre (z_d Γ) ad M H.size U := by
  obtain ⟨-, -, -, -, -, -, hK, hX, hA⟩ := C
  refine ⟨by rw [hU], by rw [hU]; exact h1, va_K.moved hW.alike hK, ?_⟩
  rw [hU]
  exact hX.go hW (fun q g1 g2 => h3.2.1 q g1 g2) (zfA_sub h2 h3 hA)
/-- behind a call that returned or threw: T' is where the body goes on -/
theorem zback {H : Heap} {locs L : List Loc} {st₀ t T' : State} (C : zC Γ cc nL own) (h2 : ∀ k, M k ≠ none → z_A Γ (ad k)) (h3 : va_S (z_A Γ) (z_s Γ).heap H locs) (h0 : st₀.heap = H) (e1 : T'.heap = t.heap) (hL : ∀ q ∈ L, zfA ad M H.size q.base) (hF : va_F (zfA ad M H.size) st₀ t) : va_S (z_A Γ) (z_s Γ).heap T'.heap (locs ++ L) := by
  have hA := zfA_sub h2 h3 C.2.2.2.2.2.2.2.2
  exact (vx_keep h0 e1 h3 (fun q _ h => hA q h) hA hL hF).2.2
theorem G_run {mc ms : Nat} {rest : List Value} {post : zPo} {a : Array Value}
    (hr : ∀ (H : Heap) (locs : List Loc) (ls : Array Slot), zC Γ cc nL own → zH (z_d Γ) ad M H → (∀ k, M k ≠ none → z_A Γ (ad k)) → va_S (z_A Γ) (z_s Γ).heap H locs → lv_has ls nL lv → va_Run (z_p Γ) (z_l Γ) (z_e Γ) R (z_s Γ) (z_m Γ) (z_a Γ) (z_b Γ) (z_M Γ) (z_c Γ) H locs nc ns mc ms (F0 (z_m Γ) pc ls st) rest (zQc (z_d Γ) (zfA ad M H.size) post a) (zfA ad M H.size))
    (kk : ∀ v ad' M', post v ad' M' → G Γ R cc nL own ad' M' (nc + mc) (ns + ms) (pc + 3) lv (v.toList ++ rest)) : G Γ R cc nL own ad M nc ns pc lv st := by
  intro C H locs ls h1 h2 h3 h4 T hT X
  obtain ⟨v, st₀, t, T', L, h0, X', hL, e1, e2, ⟨⟨v', ad', M', hv, hp, hH, hd⟩, hF⟩, go⟩ := hr H locs ls C h1 h2 h3 h4 T hT X
  cases hv
  have hA := zfA_sub h2 h3 C.2.2.2.2.2.2.2.2
  obtain ⟨t2, a1, b1⟩ := kk v ad' M' hp C T'.heap (locs ++ L) ls (by rw [e1]; exact hH) (fun k hk => hA _ (hd k hk)) (zback C h2 h3 h0 e1 hL hF) h4 T' rfl X'
  exact ⟨t2, go t2 a1, b1⟩
/-- thrown over this frame: E's object -/
def zGX' (Γ : zCx) (R : Room) (cc : ByteArray) (nL : Nat) (own : String) (ad : zK → Nat) (M : zMem) (nc ns pc : Nat) (lv : List (Nat × Value)) (rest : List Value) (E : String) : Prop :=
  zC Γ cc nL own → ∀ (H : Heap) (locs : List Loc) (ls : Array Slot) (ce : Cell) (q : Addr), zH (z_d Γ) ad M H → (∀ k, M k ≠ none → z_A Γ (ad k)) → va_S (z_A Γ) (z_s Γ).heap H locs → lv_has ls nL lv → H[q]? = some ce → ce.vm = .none → (z_s Γ).vm.findClass E = some ce.cls →
    vx_W (z_p Γ) (z_l Γ) (z_e Γ) R (z_s Γ) (z_m Γ) (z_a Γ) (z_b Γ) (z_M Γ) (z_c Γ) H locs nc ns (z_Q Γ) (F0 (z_m Γ) pc ls rest) q
theorem G_runx {mc ms : Nat} {rest : List Value} {post : zPo} {px : zPx} {a : Array Value}
    (hr : ∀ (H : Heap) (locs : List Loc) (ls : Array Slot), zC Γ cc nL own → zH (z_d Γ) ad M H → (∀ k, M k ≠ none → z_A Γ (ad k)) → va_S (z_A Γ) (z_s Γ).heap H locs → lv_has ls nL lv → vx_Run (z_p Γ) (z_l Γ) (z_e Γ) R (z_s Γ) (z_m Γ) (z_a Γ) (z_b Γ) (z_M Γ) (z_c Γ) H locs nc ns mc ms (F0 (z_m Γ) pc ls st) rest (zQc (z_d Γ) (zfA ad M H.size) post a) (zXc (z_d Γ) (zfA ad M H.size) px) (zfA ad M H.size))
    (kx : ∀ E ad' M', px E ad' M' → zGX' Γ R cc nL own ad' M' (nc + mc) (ns + ms) pc lv rest E)
    (kk : ∀ v ad' M', post v ad' M' → G Γ R cc nL own ad' M' (nc + mc) (ns + ms) (pc + 3) lv (v.toList ++ rest)) : G Γ R cc nL own ad M nc ns pc lv st := by
  intro C H locs ls h1 h2 h3 h4 T hT X
  have hA := zfA_sub h2 h3 C.2.2.2.2.2.2.2.2
  rcases hr H locs ls C h1 h2 h3 h4 T hT X with ⟨v, st₀, t, T', L, h0, X', hL, e1, e2, ⟨⟨v', ad', M', hv, hp, hH, hd⟩, hF⟩, go⟩ | ⟨q, st₀, t, T', L, E, ce, h0, X', hL, e1, e2, ⟨⟨ad', M', hp, hH, hd⟩, hF⟩, hce, hcv, hcl, go⟩
  · cases hv
    obtain ⟨t2, a1, b1⟩ := kk v ad' M' hp C T'.heap (locs ++ L) ls (by rw [e1]; exact hH) (fun k hk => hA _ (hd k hk)) (zback C h2 h3 h0 e1 hL hF) h4 T' rfl X'
    exact ⟨t2, go t2 a1, b1⟩
  · obtain ⟨t2, a1, b1⟩ := kx E ad' M' hp C T'.heap (locs ++ L) ls ce q (by rw [e1]; exact hH) (fun k hk => hA _ (hd k hk)) (zback C h2 h3 h0 e1 hL hF) h4 (by rw [e1]; exact hce) hcv hcl T' rfl X'
    exact ⟨t2, go.trans a1, b1⟩
/-- the words of a call -/
def zCV (own : String) (idx : Nat) (Cn : String) (y : MethodName) (b : ByteArray) (maxL : Nat) (ret : Option FieldType) (n : Nat) : Prop :=
  Cond.methodLink own idx y ∈ zAW ∧ Cond.instanceMethod y ∈ zAW ∧ Cond.selects Cn y y ∈ zAW ∧ Cond.initialized Cn ∈ zAW ∧ Cond.code y b maxL ret ∈ zAW ∧
  y.cls = Cn ∧ y.cls ≠ "java/lang/invoke/MethodHandle" ∧ y.cls ≠ "java/lang/invoke/VarHandle" ∧ (parseMethodDescriptor y.desc).map (fun d => d.parameters.length) = some n
def zCS (own : String) (idx : Nat) (y : MethodName) (b : ByteArray) (maxL : Nat) (ret : Option FieldType) (n : Nat) : Prop :=
  Cond.methodLink own idx y ∈ zAW ∧ Cond.static y ∈ zAW ∧ Cond.initialized y.cls ∈ zAW ∧ Cond.code y b maxL ret ∈ zAW ∧
  y.cls ≠ "java/lang/invoke/MethodHandle" ∧ y.cls ≠ "java/lang/invoke/VarHandle" ∧ (parseMethodDescriptor y.desc).map (fun d => d.parameters.length) = some n
def zCI (own : String) (idx : Nat) (y : MethodName) (b : ByteArray) (maxL : Nat) (n : Nat) : Prop :=
  Cond.methodLink own idx y ∈ zAW ∧ Cond.instanceMethod y ∈ zAW ∧ Cond.initialized y.cls ∈ zAW ∧ Cond.code y b maxL none ∈ zAW ∧ y.name = "<init>" ∧
  y.cls ≠ "java/lang/invoke/MethodHandle" ∧ y.cls ≠ "java/lang/invoke/VarHandle" ∧ (parseMethodDescriptor y.desc).map (fun d => d.parameters.length) = some n
/-- the room of a call -/
def zRo (R : Room) (d mc ms maxL nc ns : Nat) : Prop := (d + 1 ≤ R.frames ∧ 8 + (maxL + 11) + 38 * d ≤ R.locals) ∧ nc + mc ≤ R.cells ∧ ns + ms ≤ R.slots
theorem zcwV {s : State} {args : Array Value} {idx : Nat} {Cn : String} {y : MethodName} {b : ByteArray} {maxL : Nat} {ret : Option FieldType} {n d mc ms : Nat} (hts : ∀ w ∈ zAW, w.before args s = true) (h : zCV own idx Cn y b maxL ret n) (hR : d + 1 ≤ R.frames ∧ 8 + (maxL + 11) + 38 * d ≤ R.locals) : CallW R s args own Cn idx y b maxL ret (zws y b maxL ret) (zRm d mc ms) mc ms n := by
  obtain ⟨a1, a2, a3, a4, a5, a6, a7⟩ := h
  refine cwV n hts ?_ rfl rfl rfl ⟨a6, a7⟩ hR
  intro w hw
  rcases List.mem_append.mp hw with hw | hw
  · simp only [List.mem_cons, List.not_mem_nil, or_false] at hw
    rcases hw with rfl | rfl | rfl | rfl
    · exact ⟨a1, zAW_good a1⟩
    · exact ⟨a2, zAW_good a2⟩
    · exact ⟨a3, zAW_good a3⟩
    · exact ⟨a4, zAW_good a4⟩
  · exact zAW_cons a5 w hw
theorem zcwS {s : State} {args : Array Value} {idx : Nat} {y : MethodName} {b : ByteArray} {maxL : Nat} {ret : Option FieldType} {n d mc ms : Nat} (hts : ∀ w ∈ zAW, w.before args s = true) (h : zCS own idx y b maxL ret n) (hR : d + 1 ≤ R.frames ∧ 8 + (maxL + 11) + 38 * d ≤ R.locals) : CallB R s args own idx y b maxL ret (zws y b maxL ret) (zRm d mc ms) mc ms n ∧ (Cond.static y).before args s = true := by
  obtain ⟨a1, a2, a3, a4, a5⟩ := h
  refine va_cwS n hts ?_ rfl rfl rfl a5 hR
  intro w hw
  rcases List.mem_append.mp hw with hw | hw
  · simp only [List.mem_cons, List.not_mem_nil, or_false] at hw
    rcases hw with rfl | rfl | rfl
    · exact ⟨a1, zAW_good a1⟩
    · exact ⟨a2, zAW_good a2⟩
    · exact ⟨a3, zAW_good a3⟩
  · exact zAW_cons a4 w hw
theorem zcwI {s : State} {args : Array Value} {idx : Nat} {y : MethodName} {b : ByteArray} {maxL : Nat} {n d mc ms : Nat} (hts : ∀ w ∈ zAW, w.before args s = true) (h : zCI own idx y b maxL n) (hR : d + 1 ≤ R.frames ∧ 8 + (maxL + 11) + 38 * d ≤ R.locals) : CallB R s args own idx y b maxL none (zws y b maxL none) (zRm d mc ms) mc ms n ∧ y.name = "<init>" ∧ (Cond.instanceMethod y).before args s = true := by
  obtain ⟨a1, a2, a3, a4, a5, a6⟩ := h
  exact cwI n hts (zAW_cons a4) rfl rfl rfl (hts _ a3) (hts _ a1) (hts _ a2) a5 a6 hR
theorem zrecv {H : Heap} {key : zK} {ci : Nat} {fs : List Value} {r : vw_C} (C : zC Γ cc nL own) (h1 : zH (z_d Γ) ad M H) (hM : M key = some (.inr (ci, fs))) (hc : vwCl[ci]? = some r) : ∃ cell : Cell, H[ad key]? = some cell ∧ cell.vm.isStatics = false ∧ (z_s Γ).vm.findClass r.1 = some cell.cls := va_recv C.2.2.2.2.2.2.1 (h1.one hM) hc (q0 := 0) rfl
theorem G_callV {key : zK} {ci : Nat} {fs : List Value} {r : vw_C} {idx n d mc ms maxL : Nat} {y : MethodName} {b : ByteArray} {ret : Option FieldType} {As rest : List Value} {post : zPo} (hw : zCV own idx r.1 y b maxL ret n) (hd : decode cc pc = .ok (.invokevirtual idx, 3)) (hM : M key = some (.inr (ci, fs))) (hc : vwCl[ci]? = some r) (hm : zMn (z_l Γ) (z_d Γ) y b maxL ret d mc ms (.ref (ad key) :: As) ad M post) (hn : As.length = n) (hst : st = As.reverse ++ .ref (ad key) :: rest) (hro : (rest.map fun v => v.category).sum ≤ 8) (hR : zRo R d mc ms maxL nc ns)
    (kk : ∀ v ad' M', post v ad' M' → G Γ R cc nL own ad' M' (nc + mc) (ns + ms) (pc + 3) lv (v.toList ++ rest)) : G Γ R cc nL own ad M nc ns pc lv st :=
  G_run (fun H locs ls C h1 h2 h3 h4 => va_runV ⟨C.1, C.2.1, C.2.2.1, C.2.2.2.1, C.2.2.2.2.1⟩ (hm H.size) (zcwV C.2.2.2.2.1 hw hR.1) ⟨zPre.blind _, zrecv C h1 hM hc, fun U hU hW => ⟨rfl, zPre.at' C h1 h2 h3 U hU hW⟩⟩ rfl hn h4.1 hst (lv_room hro) hd hR.2) kk
theorem G_callS {idx n d mc ms maxL : Nat} {y : MethodName} {b : ByteArray} {ret : Option FieldType} {As rest : List Value} {post : zPo} (hw : zCS own idx y b maxL ret n) (hd : decode cc pc = .ok (.invokestatic idx, 3)) (hm : zMn (z_l Γ) (z_d Γ) y b maxL ret d mc ms As ad M post) (hn : As.length = n) (hst : st = As.reverse ++ rest) (hro : (rest.map fun v => v.category).sum ≤ 8) (hR : zRo R d mc ms maxL nc ns)
    (kk : ∀ v ad' M', post v ad' M' → G Γ R cc nL own ad' M' (nc + mc) (ns + ms) (pc + 3) lv (v.toList ++ rest)) : G Γ R cc nL own ad M nc ns pc lv st :=
  G_run (fun H locs ls C h1 h2 h3 h4 => va_runS ⟨C.1, C.2.1, C.2.2.1, C.2.2.2.1, C.2.2.2.2.1⟩ (hm H.size) (zcwS C.2.2.2.2.1 hw hR.1) ⟨zPre.blind _, fun U hU hW => ⟨rfl, zPre.at' C h1 h2 h3 U hU hW⟩⟩ rfl hn h4.1 hst (lv_room hro) hd hR.2) kk
theorem G_callI {q : Nat} {idx n d mc ms maxL : Nat} {y : MethodName} {b : ByteArray} {As rest : List Value} {post : zPo} (hw : zCI own idx y b maxL n) (hd : decode cc pc = .ok (.invokespecial idx, 3)) (hm : zMn (z_l Γ) (z_d Γ) y b maxL none d mc ms (.ref q :: As) ad M post) (hn : As.length = n) (hst : st = As.reverse ++ .ref q :: rest) (hro : (rest.map fun v => v.category).sum ≤ 8) (hR : zRo R d mc ms maxL nc ns)
    (kk : ∀ v ad' M', post v ad' M' → G Γ R cc nL own ad' M' (nc + mc) (ns + ms) (pc + 3) lv (v.toList ++ rest)) : G Γ R cc nL own ad M nc ns pc lv st :=
  G_run (fun H locs ls C h1 h2 h3 h4 => va_runI ⟨C.1, C.2.1, C.2.2.1, C.2.2.2.1, C.2.2.2.2.1⟩ (hm H.size) (zcwI C.2.2.2.2.1 hw hR.1) ⟨zPre.blind _, fun U hU hW => ⟨rfl, zPre.at' C h1 h2 h3 U hU hW⟩⟩ rfl hn h4.1 hst (lv_room hro) hd hR.2) kk
theorem G_callVx {key : zK} {ci : Nat} {fs : List Value} {r : vw_C} {idx n d mc ms maxL : Nat} {y : MethodName} {b : ByteArray} {ret : Option FieldType} {As rest : List Value} {post : zPo} {px : zPx} (hw : zCV own idx r.1 y b maxL ret n) (hd : decode cc pc = .ok (.invokevirtual idx, 3)) (hM : M key = some (.inr (ci, fs))) (hc : vwCl[ci]? = some r) (hm : zMx (z_l Γ) (z_d Γ) y b maxL ret d mc ms (.ref (ad key) :: As) ad M post px) (hn : As.length = n) (hst : st = As.reverse ++ .ref (ad key) :: rest) (hro : (rest.map fun v => v.category).sum ≤ 8) (hR : zRo R d mc ms maxL nc ns)
    (kx : ∀ E ad' M', px E ad' M' → zGX' Γ R cc nL own ad' M' (nc + mc) (ns + ms) pc lv rest E)
    (kk : ∀ v ad' M', post v ad' M' → G Γ R cc nL own ad' M' (nc + mc) (ns + ms) (pc + 3) lv (v.toList ++ rest)) : G Γ R cc nL own ad M nc ns pc lv st :=
  G_runx (fun H locs ls C h1 h2 h3 h4 => vx_runV ⟨C.1, C.2.1, C.2.2.1, C.2.2.2.1, C.2.2.2.2.1⟩ (hm H.size) (zcwV C.2.2.2.2.1 hw hR.1) ⟨zPre.blind _, zrecv C h1 hM hc, fun U hU hW => ⟨rfl, zPre.at' C h1 h2 h3 U hU hW⟩⟩ rfl hn h4.1 hst (lv_room hro) hd hR.2) kx kk
theorem G_callSx {idx n d mc ms maxL : Nat} {y : MethodName} {b : ByteArray} {ret : Option FieldType} {As rest : List Value} {post : zPo} {px : zPx} (hw : zCS own idx y b maxL ret n) (hd : decode cc pc = .ok (.invokestatic idx, 3)) (hm : zMx (z_l Γ) (z_d Γ) y b maxL ret d mc ms As ad M post px) (hn : As.length = n) (hst : st = As.reverse ++ rest) (hro : (rest.map fun v => v.category).sum ≤ 8) (hR : zRo R d mc ms maxL nc ns)
    (kx : ∀ E ad' M', px E ad' M' → zGX' Γ R cc nL own ad' M' (nc + mc) (ns + ms) pc lv rest E)
    (kk : ∀ v ad' M', post v ad' M' → G Γ R cc nL own ad' M' (nc + mc) (ns + ms) (pc + 3) lv (v.toList ++ rest)) : G Γ R cc nL own ad M nc ns pc lv st :=
  G_runx (fun H locs ls C h1 h2 h3 h4 => vx_runS ⟨C.1, C.2.1, C.2.2.1, C.2.2.2.1, C.2.2.2.2.1⟩ (hm H.size) (zcwS C.2.2.2.2.1 hw hR.1) ⟨zPre.blind _, fun U hU hW => ⟨rfl, zPre.at' C h1 h2 h3 U hU hW⟩⟩ rfl hn h4.1 hst (lv_room hro) hd hR.2) kx kk
/-! ends -/
/-- how a body ends: with post; so many cells and slots at most; if it throws, with px -/
def zFn (Γ : zCx) (mn : String) (ret : Option FieldType) (post : zPo) (mc ms : Nat) : Prop := (z_M Γ).sig.returnType = ret ∧ (z_M Γ).name = mn ∧
  ∀ (R : Room) (H : Heap) (locs : List Loc) (g : JFrame), W (z_p Γ) (z_l Γ) (z_e Γ) R (z_s Γ) (z_m Γ) (z_a Γ) (z_b Γ) (z_M Γ) (z_c Γ) H locs mc ms (MQ (z_b Γ) (zQc (z_d Γ) (z_A Γ) post) (z_a Γ) (z_s Γ) mc ms (z_A Γ)) g → zWW Γ R H locs mc ms g
def zFx (Γ : zCx) (px : zPx) (mc ms : Nat) : Prop := (∀ x ∈ (z_c Γ).exceptionTable.toList, False) ∧ (z_l Γ).stackTraces = false ∧ ∃ Qc, z_Q Γ = vx_MQ (z_b Γ) Qc (zXc (z_d Γ) (z_A Γ) px) (z_a Γ) (z_s Γ) mc ms (z_A Γ)
theorem zend {post : zPo} {v : Option Value} {H : Heap} {locs : List Loc} (h1 : zH (z_d Γ) ad M H) (h2 : ∀ k, M k ≠ none → z_A Γ (ad k)) (h3 : va_S (z_A Γ) (z_s Γ).heap H locs) (hp : post v ad M) : ∀ t : State, t.heap = H → (z_s Γ).WarmedH t.vm → zQc (z_d Γ) (z_A Γ) post (z_a Γ) (z_s Γ) (.returned v) t := fun t ht _ => ⟨⟨v, ad, M, rfl, hp, by rw [ht]; exact h1, h2⟩, h3.F ht⟩
theorem G_iret {mn : String} {post : zPo} {mc ms : Nat} {v : Int32} (hf : zFn Γ mn (some .int) post mc ms) (hd : decode cc pc = .ok (.ireturn, 1)) (hc : nc ≤ mc ∧ ns ≤ ms) (hp : post (some (.int v)) ad M) : G Γ R cc nL own ad M nc ns pc lv [.int v] := fun C H locs ls h1 h2 h3 _ =>
  W.widen hc.1 hc.2 (hf.2.2 R H locs _ (W.iret C.1 C.2.1 hf.1 (zend h1 h2 h3 hp) h3.2.2 hd C.2.2.2.2.2.1))
theorem G_zret {mn : String} {post : zPo} {mc ms : Nat} {v : Int} (hf : zFn Γ mn (some .boolean) post mc ms) (hd : decode cc pc = .ok (.ireturn, 1)) (hc : nc ≤ mc ∧ ns ≤ ms) (hb : v = 0 ∨ v = 1) (hp : post (some (.int (zI v))) ad M) : G Γ R cc nL own ad M nc ns pc lv [.int (zI v)] := fun C H locs ls h1 h2 h3 _ =>
  W.widen hc.1 hc.2 (hf.2.2 R H locs _ (W.zret C.1 C.2.1 hf.1 (zb_nar hb) (zend h1 h2 h3 hp) h3.2.2 hd C.2.2.2.2.2.1))
theorem G_lret {mn : String} {post : zPo} {mc ms : Nat} {v : Int64} (hf : zFn Γ mn (some .long) post mc ms) (hd : decode cc pc = .ok (.lreturn, 1)) (hc : nc ≤ mc ∧ ns ≤ ms) (hp : post (some (.long v)) ad M) : G Γ R cc nL own ad M nc ns pc lv [.long v] := fun C H locs ls h1 h2 h3 _ =>
  W.widen hc.1 hc.2 (hf.2.2 R H locs _ (W.lret C.1 C.2.1 hf.1 (zend h1 h2 h3 hp) h3.2.2 hd C.2.2.2.2.2.1))
theorem G_dret {mn : String} {post : zPo} {mc ms : Nat} {v : UInt64} (hf : zFn Γ mn (some .double) post mc ms) (hd : decode cc pc = .ok (.dreturn, 1)) (hc : nc ≤ mc ∧ ns ≤ ms) (hp : post (some (.double v)) ad M) : G Γ R cc nL own ad M nc ns pc lv [.double v] := fun C H locs ls h1 h2 h3 _ =>
  W.widen hc.1 hc.2 (hf.2.2 R H locs _ (W.dret C.1 C.2.1 hf.1 (zend h1 h2 h3 hp) h3.2.2 hd C.2.2.2.2.2.1))
theorem G_vret {mn : String} {post : zPo} {mc ms : Nat} (hf : zFn Γ mn none post mc ms) (hd : decode cc pc = .ok (.return_, 1)) (hc : nc ≤ mc ∧ ns ≤ ms) (hp : post none ad M) : G Γ R cc nL own ad M nc ns pc lv [] := fun C H locs ls h1 h2 h3 _ =>
  W.widen hc.1 hc.2 (hf.2.2 R H locs _ (W.vret C.1 C.2.1 hf.1 (zend h1 h2 h3 hp) h3.2.2 hd C.2.2.2.2.2.1))
theorem G_aret {mn : String} {post : zPo} {mc ms : Nat} {q : Nat} {rt : FieldType} (hf : zFn Γ mn (some rt) post mc ms) (hrt : (∃ n, rt = .object n) ∨ ∃ t, rt = .array t) (hd : decode cc pc = .ok (.areturn, 1)) (hc : nc ≤ mc ∧ ns ≤ ms) (hp : post (some (.ref q)) ad M) : G Γ R cc nL own ad M nc ns pc lv [.ref q] := fun C H locs ls h1 h2 h3 _ =>
  W.widen hc.1 hc.2 (hf.2.2 R H locs _ (W.aret C.1 C.2.1 hf.1 hrt (Or.inr ⟨q, rfl⟩) (zend h1 h2 h3 hp) h3.2.2 hd C.2.2.2.2.2.1))
theorem zGX_out {px : zPx} {mc ms : Nat} {rest : List Value} {E : String} (hf : zFx Γ px mc ms) (hc : nc ≤ mc ∧ ns ≤ ms) (hp : px E ad M) : zGX' Γ R cc nL own ad M nc ns pc lv rest E := by
  intro C H locs ls ce q h1 h2 h3 h4 hce hcv hcl
  obtain ⟨ht, -, Qc, hQ⟩ := hf
  rw [hQ]
  exact vx_out (fun x hx => (ht x hx).elim) C.2.2.2.2.2.1 hce hcv hcl (fun t ht _ => ⟨⟨ad, M, hp, by rw [ht]; exact h1, h2⟩, h3.F ht⟩) h3.2.2 hc.1 hc.2
end ZCALL
/-- a contract out of a body -/
theorem zMn_of {l : Launch} {Δ : zDl} {y : MethodName} {b : ByteArray} {maxL : Nat} {ret : Option FieldType} {d mc ms : Nat} {args : List Value} {ad : zK → Nat} {M : zMem} {post : zPo} (hy : plainName y.cls = true) (hl : (lg_sl args).length ≤ maxL)
    (body : ∀ Γ : zCx, z_l Γ = l → z_d Γ = Δ → zFn Γ y.name ret post mc ms → G Γ (zRm d mc ms) b maxL y.cls ad M 0 0 0 (lv_args 0 args) []) : zMn l Δ y b maxL ret d mc ms args ad M post := by
  intro sz
  refine Met.ofW (cc := b) (maxL := maxL) (ret := ret) hy rfl ?_
  intro p e s m args' below meth c s₁ B hml hv
  obtain ⟨rfl, hsz, hH, hK, hX⟩ := hv
  subst hsz
  have hts := atoms_spec (ws := zws y b maxL ret) B.pre
  have hle := lv_entry args hl
  rw [lg_entry_eq]
  exact body ((l, Δ), (p, e, s, m, args.toArray), (below, meth, c, zfA ad M s.heap.size, MQ below (zQc Δ (zfA ad M s.heap.size) post) args.toArray s mc ms (zfA ad M s.heap.size))) rfl rfl
    ⟨B.returns, (name_of_methodNamed B.named B.method).1, fun _ _ _ _ h => h⟩
    ⟨B.exec, B.bytes, hml, findClass_of_methodNamed B.named, fun w h => hts w (List.mem_cons_of_mem _ h), B.notSynchronized, hK, hX, fun q h => Or.inr h⟩ s.heap [] _ hH (fun k h => Or.inl ⟨k, h, rfl⟩) va_S.rf hle
theorem zMx_of {l : Launch} {Δ : zDl} {y : MethodName} {b : ByteArray} {maxL : Nat} {ret : Option FieldType} {d mc ms : Nat} {args : List Value} {ad : zK → Nat} {M : zMem} {post : zPo} {px : zPx} (hst : l.stackTraces = false) (hy : plainName y.cls = true) (hl : (lg_sl args).length ≤ maxL)
    (body : ∀ Γ : zCx, z_l Γ = l → z_d Γ = Δ → zFn Γ y.name ret post mc ms → zFx Γ px mc ms → G Γ (zRm d mc ms) b maxL y.cls ad M 0 0 0 (lv_args 0 args) []) : zMx l Δ y b maxL ret d mc ms args ad M post px := by
  intro sz
  refine vx_ofW (cc := b) (maxL := maxL) (ret := ret) hy rfl ?_
  intro p e s m args' below meth c s₁ B hml ht hv
  obtain ⟨rfl, hsz, hH, hK, hX⟩ := hv
  subst hsz
  have hts := atoms_spec (ws := zws y b maxL ret) B.pre
  have hle := lv_entry args hl
  rw [lg_entry_eq]
  exact body ((l, Δ), (p, e, s, m, args.toArray), (below, meth, c, zfA ad M s.heap.size, vx_MQ below (zQc Δ (zfA ad M s.heap.size) post) (zXc Δ (zfA ad M s.heap.size) px) args.toArray s mc ms (zfA ad M s.heap.size))) rfl rfl
    ⟨B.returns, (name_of_methodNamed B.named B.method).1, fun _ _ _ _ h => vx_ret h⟩ ⟨ht, hst, _, rfl⟩
    ⟨B.exec, B.bytes, hml, findClass_of_methodNamed B.named, fun w h => hts w (List.mem_cons_of_mem _ h), B.notSynchronized, hK, hX, fun q h => Or.inr h⟩ s.heap [] _ hH (fun k h => Or.inl ⟨k, h, rfl⟩) va_S.rf hle
