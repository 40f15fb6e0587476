/-! ===== THE LOGIC: a method's body over an abstract memory (keys for addresses) and whole numbers ===== -/
abbrev zK : Type := Nat × Int × Int × Int
abbrev zMem : Type := zK → Option va_E
/-- what stands outside the memory: the lists' empty array; the script: its address, its length, its ints -/
abbrev zXd : Type := Nat × (Nat × Nat × (Nat → Int32))
abbrev zDl : Type := va_G × (Nat → ClassId) × zXd
abbrev zCx : Type := (Launch × zDl) × (Program × Env × State × MethodId × Array Value) × (List Frame × Method × Code × (Nat → Prop) × (State → Prop))
abbrev z_l (Γ : zCx) : Launch := Γ.1.1
abbrev z_d (Γ : zCx) : zDl := Γ.1.2
abbrev z_p (Γ : zCx) : Program := Γ.2.1.1
abbrev z_e (Γ : zCx) : Env := Γ.2.1.2.1
abbrev z_s (Γ : zCx) : State := Γ.2.1.2.2.1
abbrev z_m (Γ : zCx) : MethodId := Γ.2.1.2.2.2.1
abbrev z_a (Γ : zCx) : Array Value := Γ.2.1.2.2.2.2
abbrev z_b (Γ : zCx) : List Frame := Γ.2.2.1
abbrev z_M (Γ : zCx) : Method := Γ.2.2.2.1
abbrev z_c (Γ : zCx) : Code := Γ.2.2.2.2.1
abbrev z_A (Γ : zCx) : Nat → Prop := Γ.2.2.2.2.2.1
abbrev z_Q (Γ : zCx) : State → Prop := Γ.2.2.2.2.2.2
/-- the words of the tables that a callee keeps -/
def zAW : List Cond := lw_tbl.filter goodWord
theorem zAW_tbl {w : Cond} (h : w ∈ zAW) : w ∈ lw_tbl := (List.mem_filter.mp h).1
theorem zAW_of {w : Cond} (i : Nat) (h : tables_1[i]? = some w) (g : goodWord w = true) : w ∈ zAW := List.mem_filter.mpr ⟨List.mem_append_right _ (List.mem_of_getElem? h), g⟩
theorem zAW_sel {w : Cond} (i : Nat) (h : (k2_sels lw_privs)[i]? = some w) (g : goodWord w = true) : w ∈ zAW := List.mem_filter.mpr ⟨List.mem_append_left _ (List.mem_of_getElem? h), g⟩
theorem zAW_good {w : Cond} (h : w ∈ zAW) : (w.onTables && w.keeps) = true ∨ ∃ ty, w = .arrayClass ty := good_of_word (List.mem_filter.mp h).2
theorem zAW_in : GoodIn zAW zAW := fun _ h => ⟨h, zAW_good h⟩
theorem zAW_cons {w : Cond} (h : w ∈ zAW) : GoodIn zAW (w :: zAW) := fun _ h2 => (List.mem_cons.mp h2).elim (fun e => by rw [e]; exact ⟨h, zAW_good h⟩) (fun h2 => ⟨h2, zAW_good h2⟩)
/-- the classes of arrays -/
def zT (cy : Nat → ClassId) : List (ClassId × FieldType) := [(cy 0, .int), (cy 1, .boolean), (cy 2, .object "TailraceBroker$Partition"), (cy 3, .object "TailraceBroker$Progress"), (cy 4, .object "java/lang/Object"), (cy 5, .array .int), (cy 6, .array (.array .int)), (cy 7, .array (.array (.array .int))), (cy 8, .array .boolean)]
/-- the messages of the exceptions: places in the constant pool of TailraceBroker, texts -/
def zStr : List (Nat × String) := [(52, "a topic has 1 to 4 partitions"), (63, "there are 4 topics"), (326, "no such topic"), (334, "no such producer"), (83, "a number, a key or a value is out of its range"), (89, "a number was left out"), (91, "there were 80 messages"), (107, "its transaction is not ended"), (109, "it has no transaction"), (122, "keep is 0 to 200"), (131, "the topic is not compact"), (136, "the clock goes forward, up to 9999"), (147, "delay is 1 to 20, patience 1 to 50"), (328, "no such partition"), (341, "no such message"), (343, "what is 0 to 4"), (178, "there are 4 groups"), (330, "no such group"), (336, "no such reader"), (199, "the reader is not in the group"), (332, "no such partition of its topic"), (345, "the offset is not out"), (240, "the offset is not from the start to the end"), (270, "no such row")]
/-- links between nest mates: kept as the tables are warmed, though not by the common rule -/
def zisN : Cond → Bool
  | .fieldLinkNest .. => true
  | .methodLinkNest .. => true
  | .castable .. => true
  | .declares .. => true
  | _ => false
def zNW : List Cond := lw_tbl.filter zisN
theorem zNW_of {w : Cond} (i : Nat) (h : tables_1[i]? = some w) (g : zisN w = true) : w ∈ zNW := List.mem_filter.mpr ⟨List.mem_append_right _ (List.mem_of_getElem? h), g⟩
theorem zNW_tab {w : Cond} (h : w ∈ zNW) : w.onTables = true := by
  have g := (List.mem_filter.mp h).2
  cases w <;> first | rfl | (simp [zisN] at g; done)
theorem zNW_warm {w : Cond} {s U : State} (h : w ∈ zNW) (hW : s.WarmedH U.vm) (hw : va_Nw w s) : va_Nw w U := by
  have g := (List.mem_filter.mp h).2
  cases w <;> first | exact va_Nw.warmF hW hw | exact va_Nw.warmM hW hw | exact va_Nw.warmC hW hw | exact va_Nw.warmD hW hw | (simp [zisN] at g; done)
/-- arrays over arrays -/
def zAOt : List FieldType := [.int, .array .int, .array (.array .int), .boolean]
def zAO (ty : FieldType) (U : State) : Prop := (Cond.arrayOver (.array ty)).before #[] U = true
theorem zAO.moved {ty : FieldType} {u U : State} (hvm : u.vm.Alike U.vm) (h : zAO ty u) : zAO ty U := by
  obtain ⟨comp, c, k, h1, h2, h3, h4, h5⟩ := arrayOverA_spec h
  obtain ⟨k', hk', he⟩ := hvm.2.2 _ _ h3
  have f1 : U.vm.findClass (FieldType.array ty).toString = some comp := (hvm.findClass _ _).trans h1
  have f2 : U.vm.findClass ("[" ++ (FieldType.array ty).toString) = some c := (hvm.findClass _ _).trans h5
  have f3 := (hvm.findIdx?_eq (fun (x : Class) => match x.kind with | .array component _ => component == comp | _ => false) (fun _ => rfl)).trans h2
  unfold zAO Cond.before Cond.holds
  simp only [Cond.value]
  rw [f1, Option.bind_some]
  refine (congrArg (fun o : Option Nat => (Option.bind o _ == some true)) f3).trans ?_
  have f4 : k'.kind = .array comp (.array ty) := (congrArg Class.kind he).trans h4
  simp [hk', f4, f2]
/-- what stands outside the worlds: statics, texts; the script -/
def zGX (A : Nat → Prop) (z : zXd) (U : State) (H : Heap) : Prop :=
  vx_Zq Bundle.tN "UNASSIGNED_STACK" Bundle.steD A U H ∧ vx_Zq Bundle.tN "SUPPRESSED_SENTINEL" Bundle.listD A U H ∧
  va_Z "java/util/ArrayList" "DEFAULTCAPACITY_EMPTY_ELEMENTDATA" "[Ljava/lang/Object;" (.ref z.1) A U H ∧ va_T (.object "java/lang/Object") z.1 0 (fun _ => .null) A U H ∧
  (∀ q ∈ zStr, ∃ sa, vk_R "TailraceBroker" q.1 q.2 sa U) ∧ (∀ w ∈ zNW, va_Nw w U) ∧ (va_AO "TailraceBroker$Partition" U ∧ va_AO "TailraceBroker$Progress" U ∧ va_AO "java/lang/Object" U ∧ (∃ mi : Nat, va_Mi "[Ljava/lang/Object;" mi U) ∧ (∀ ty ∈ zAOt, zAO ty U) ∧ va_X z.2.1 z.2.2.1 z.2.2.2 U H ∧ ¬ A z.2.1)
theorem zXlt {b L : Nat} {xs : Nat → Int32} {U : State} {H : Heap} (h : va_X b L xs U H) : b < H.size := by
  obtain ⟨scr, h1, -⟩ := h
  exact (Array.getElem?_eq_some_iff.mp h1).1
theorem zGX.go {A B : Nat → Prop} {z : zXd} {s U : State} {H : Heap} (h : zGX A z s s.heap) (hW : s.WarmedH U.vm) (hq : ∀ q : Nat, q < s.heap.size → ¬ A q → H[q]? = s.heap[q]?) (hAB : ∀ q, B q → A q) : zGX B z U H := by
  obtain ⟨h1, h2, h3, h4, h5, h6, h7, h8, h9, ⟨mi, h10⟩, h11, h12, h13⟩ := h
  exact ⟨((h1.kept hq).narrow hAB).moved hW.alike, ((h2.kept hq).narrow hAB).moved hW.alike, ((h3.kept hq).narrow hAB).moved hW.alike, ((h4.kept hq).narrow hAB).moved hW.alike,
    fun q hq => by obtain ⟨sa, h⟩ := h5 q hq; exact ⟨sa, h.warm hW⟩, fun w hw => zNW_warm hw hW (h6 w hw), h7.moved hW.alike, h8.moved hW.alike, h9.moved hW.alike, ⟨mi, h10.moved hW.alike⟩, fun ty hty => (h11 ty hty).moved hW.alike, (h12.kept (hq _ (zXlt h12) h13)).moved hW.alike, fun q => h13 (hAB _ q)⟩
theorem zGX.blind {A : Nat → Prop} {z : zXd} {u U : State} {H : Heap} (h : zGX A z u H) (hv : U.vm = u.vm) : zGX A z U H := by
  obtain ⟨h1, h2, h3, h4, h5, h6, h7, h8, h9, ⟨mi, h10⟩, h11, h12, h13⟩ := h
  have ha : u.vm.Alike U.vm := by rw [hv]; exact Vm.Alike.refl _
  exact ⟨h1.moved ha, h2.moved ha, h3.moved ha, h4.moved ha, fun q hq => by obtain ⟨sa, h⟩ := h5 q hq; exact ⟨sa, h.same hv⟩, fun w hw => va_Nw.same (zNW_tab hw) hv.symm (h6 w hw), h7.moved ha, h8.moved ha, h9.moved ha, ⟨mi, h10.moved ha⟩, fun ty hty => (h11 ty hty).moved ha, h12.moved ha, h13⟩
/-! whole numbers -/
def zI (z : Int) : Int32 := Int32.ofInt z
def zL (z : Int) : Int64 := Int64.ofInt z
theorem zI_add (a b : Int) : zI a + zI b = zI (a + b) := (Int32.ofInt_add a b).symm
theorem zI_sub (a b : Int) : zI a - zI b = zI (a - b) := (Int32.ofInt_sub a b).symm
theorem zI_mul (a b : Int) : zI a * zI b = zI (a * b) := (Int32.ofInt_mul a b).symm
theorem zL_add (a b : Int) : zL a + zL b = zL (a + b) := (Int64.ofInt_add a b).symm
theorem zL_mul (a b : Int) : zL a * zL b = zL (a * b) := (Int64.ofInt_mul a b).symm
def zR (z : Int) : Prop := -2147483648 ≤ z ∧ z < 2147483648
theorem fb9_bmod {z : Int} (h1 : -2147483648 ≤ z) (h2 : z < 2147483648) : z.bmod (2 ^ 32) = z := by
  rw [Int.bmod_eq_of_le (by omega) (by omega)]
theorem zI_toInt {z : Int} (h : zR z) : (zI z).toInt = z := by
  obtain ⟨h1, h2⟩ := h
  unfold zI
  rw [Int32.toInt_ofInt]
  exact fb9_bmod h1 h2
theorem zI_of (x : Int32) : ∃ z, zR z ∧ x = zI z := ⟨x.toInt, ⟨by have := Int32.le_toInt x; omega, by have := Int32.toInt_lt x; omega⟩, (Int32.ofInt_toInt x).symm⟩
theorem zI_inj {a b : Int} (ha : zR a) (hb : zR b) : zI a = zI b ↔ a = b := ⟨fun h => by rw [← zI_toInt ha, ← zI_toInt hb, h], fun h => by rw [h]⟩
theorem zI_lt {a b : Int} (ha : zR a) (hb : zR b) : zI a < zI b ↔ a < b := by rw [Int32.lt_iff_toInt_lt, zI_toInt ha, zI_toInt hb]
theorem zI_le {a b : Int} (ha : zR a) (hb : zR b) : zI a ≤ zI b ↔ a ≤ b := by rw [Int32.le_iff_toInt_le, zI_toInt ha, zI_toInt hb]
theorem zI_clamp {z : Int} (h : zR z) : (zI z).toNatClampNeg = z.toNat := by
  show (zI z).toInt.toNat = z.toNat
  rw [zI_toInt h]
theorem zI_nat (n : Nat) : Int32.ofNat n = zI n := by
  first | exact Int32.ofInt_eq_ofNat.symm | exact (Int32.ofInt_natCast n).symm | (unfold zI; simp; done) | rfl
theorem zI_in {z : Int} {n : Nat} (h0 : 0 ≤ z) (h1 : z < n) (hn : zR z) : vp_in (zI z) n := by
  rw [vp_in_iff, zI_toInt hn]
  exact ⟨h0, h1⟩
/-! arrays' contents -/
def zAi (F : Int → Int) : Nat → Int32 := fun j => zI (F (j : Int))
def zup {α : Type} (F : Int → α) (a : Int) (v : α) : Int → α := fun j => if j = a then v else F j
theorem zAi_at (F : Int → Int) {a : Int} (h0 : 0 ≤ a) (h : zR a) : zAi F (zI a).toNatClampNeg = zI (F a) := by
  rw [zI_clamp h]
  show zI (F ((a.toNat : Nat) : Int)) = _
  rw [Int.toNat_of_nonneg h0]
theorem zAi_up (F : Int → Int) {a v : Int} (h0 : 0 ≤ a) (h : zR a) : upd (zAi F) (zI a).toNatClampNeg (zI v) = zAi (zup F a v) := by
  rw [zI_clamp h]
  funext j
  show (if j = a.toNat then zI v else zI (F j)) = zI (if (j : Int) = a then v else F j)
  by_cases hj : (j : Int) = a
  · rw [if_pos hj, if_pos (by omega)]
  · rw [if_neg hj, if_neg (by omega)]
def zAq (F : Int → Option Nat) : Nat → Option Nat := fun j => F (j : Int)
theorem zAq_at (F : Int → Option Nat) {a : Int} (h0 : 0 ≤ a) (h : zR a) : zAq F (zI a).toNatClampNeg = F a := by
  rw [zI_clamp h]
  show F ((a.toNat : Nat) : Int) = _
  rw [Int.toNat_of_nonneg h0]
theorem zAq_up (F : Int → Option Nat) {a : Int} {v : Option Nat} (h0 : 0 ≤ a) (h : zR a) : va_up (zAq F) (zI a).toNatClampNeg v = zAq (zup F a v) := by
  rw [zI_clamp h]
  funext j
  show (if j = a.toNat then v else F j) = (if (j : Int) = a then v else F j)
  by_cases hj : (j : Int) = a
  · rw [if_pos hj, if_pos (by omega)]
  · rw [if_neg hj, if_neg (by omega)]
/-! memories -/
def zH (Δ : zDl) (ad : zK → Nat) (M : zMem) (H : Heap) : Prop := (∀ k e, M k = some e → va_at Δ.1 vwCl (ad k, e) H) ∧ ∀ k k' : zK, M k ≠ none → M k' ≠ none → ad k = ad k' → k = k'
def zup1 {α : Type} (M : zK → α) (k : zK) (v : α) : zK → α := fun j => if j = k then v else M j
theorem zup1_s {α : Type} (M : zK → α) (k : zK) (v : α) : zup1 M k v k = v := if_pos rfl
theorem zup1_n {α : Type} (M : zK → α) {k j : zK} (v : α) (h : j ≠ k) : zup1 M k v j = M j := if_neg h
theorem zH.put {Δ : zDl} {ad : zK → Nat} {M : zMem} {H H1 : Heap} {k : zK} {e0 e : va_E} (h : zH Δ ad M H) (hk : M k = some e0) (he : va_at Δ.1 vwCl (ad k, e) H1) (oq : ∀ q : Nat, q ≠ ad k → H1[q]? = H[q]?) : zH Δ ad (zup1 M k (some e)) H1 := by
  refine ⟨fun j x hj => ?_, fun j j' hj hj' e9 => ?_⟩
  · by_cases hjk : j = k
    · subst hjk
      rw [zup1_s] at hj
      cases hj
      exact he
    · rw [zup1_n _ _ hjk] at hj
      exact (h.1 j x hj).kept (oq _ fun z => hjk (h.2 j k (by rw [hj]; exact fun q => by cases q) (by rw [hk]; exact fun q => by cases q) z))
  · have key : ∀ x, zup1 M k (some e) x ≠ none → M x ≠ none := fun x hx => by
      by_cases hxk : x = k
      · rw [hxk, hk]; exact fun q => by cases q
      · rwa [zup1_n _ _ hxk] at hx
    exact h.2 j j' (key j hj) (key j' hj') e9
theorem zH.new {Δ : zDl} {ad : zK → Nat} {M : zMem} {H H1 : Heap} {k : zK} {e : va_E} (h : zH Δ ad M H) (hk : M k = none) (he : va_at Δ.1 vwCl (H.size, e) H1) (oq : ∀ q : Nat, q < H.size → H1[q]? = H[q]?) : zH Δ (zup1 ad k H.size) (zup1 M k (some e)) H1 := by
  have lt : ∀ j, M j ≠ none → ad j < H.size := fun j hj => by
    cases hm : M j with
    | none => exact absurd hm hj
    | some x => exact (h.1 j x hm).lt
  refine ⟨fun j x hj => ?_, fun j j' hj hj' e9 => ?_⟩
  · by_cases hjk : j = k
    · subst hjk
      rw [zup1_s] at hj ⊢
      cases hj
      exact he
    · rw [zup1_n _ _ hjk] at hj ⊢
      exact (h.1 j x hj).kept (oq _ (h.1 j x hj).lt)
  · by_cases h1 : j = k <;> by_cases h2 : j' = k
    · rw [h1, h2]
    · rw [h1, zup1_s, zup1_n _ _ h2] at e9
      rw [zup1_n _ _ h2] at hj'
      exact absurd (lt j' hj') (by omega)
    · rw [h2, zup1_s, zup1_n _ _ h1] at e9
      rw [zup1_n _ _ h1] at hj
      exact absurd (lt j hj) (by omega)
    · rw [zup1_n _ _ h1, zup1_n _ _ h2] at e9
      rw [zup1_n _ _ h1] at hj
      rw [zup1_n _ _ h2] at hj'
      exact h.2 j j' hj hj' e9
/-! the judgement -/
def zC (Γ : zCx) (cc : ByteArray) (nL : Nat) (own : String) : Prop :=
  (z_p Γ).tables.exec = Jvm.exec ∧ (z_c Γ).code = cc ∧ (z_c Γ).maxLocals = nL ∧ (z_s Γ).vm.findClass own = some (z_m Γ).cls ∧ (∀ w ∈ zAW, w.before (z_a Γ) (z_s Γ) = true) ∧ (z_M Γ).locks = false ∧
  va_K (z_d Γ).1 vwCl (zT (z_d Γ).2.1) (z_s Γ) ∧ zGX (z_A Γ) (z_d Γ).2.2 (z_s Γ) (z_s Γ).heap ∧ (∀ q : Nat, (z_s Γ).heap.size ≤ q → z_A Γ q)
def zWW (Γ : zCx) (R : Room) (H : Heap) (locs : List Loc) (nc ns : Nat) (g : JFrame) : Prop := W (z_p Γ) (z_l Γ) (z_e Γ) R (z_s Γ) (z_m Γ) (z_a Γ) (z_b Γ) (z_M Γ) (z_c Γ) H locs nc ns (z_Q Γ) g
/-- the body goes on from pc, with these locals, this stack, this memory, so many cells and slots made, to its end -/
def G (Γ : zCx) (R : Room) (cc : ByteArray) (nL : Nat) (own : String) (ad : zK → Nat) (M : zMem) (nc ns pc : Nat) (lv : List (Nat × Value)) (st : List Value) : Prop :=
  zC Γ cc nL own → ∀ (H : Heap) (locs : List Loc) (ls : Array Slot), zH (z_d Γ) ad M H → (∀ k, M k ≠ none → z_A Γ (ad k)) → va_S (z_A Γ) (z_s Γ).heap H locs → lv_has ls nL lv → zWW Γ R H locs nc ns (F0 (z_m Γ) pc ls st)
