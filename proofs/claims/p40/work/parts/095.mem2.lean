/-! ===== making objects and arrays, casts, throws ===== -/
section ZNEW
variable {Γ : zCx} {R : Room} {cc : ByteArray} {nL : Nat} {own : String} {ad : zK → Nat} {M : zMem} {nc ns pc : Nat} {lv : List (Nat × Value)} {st : List Value}
/-- less is known -/
theorem G_mono {ad' : zK → Nat} {M' : zMem} (h : ∀ k e, M' k = some e → M k = some e ∧ ad' k = ad k) (kk : G Γ R cc nL own ad' M' nc ns pc lv st) : G Γ R cc nL own ad M nc ns pc lv st := by
  intro C H locs ls h1 h2 h3 h4
  have hd : ∀ k, M' k ≠ none → M k ≠ none ∧ ad' k = ad k := fun k hk => by
    cases hm : M' k with
    | none => exact absurd hm hk
    | some e => exact ⟨(by rw [(h k e hm).1]; exact (fun q => by cases q)), (h k e hm).2⟩
  refine kk C H locs ls ⟨fun k e hk => ?_, fun k k' hk hk' e => ?_⟩ (fun k hk => ?_) h3 h4
  · obtain ⟨g1, g2⟩ := h k e hk
    rw [g2]
    exact h1.1 k e g1
  · rw [(hd k hk).2, (hd k' hk').2] at e
    exact h1.2 k k' (hd k hk).1 (hd k' hk').1 e
  · rw [(hd k hk).2]
    exact h2 k (hd k hk).1
theorem G_widen {mc ms : Nat} (h1 : nc ≤ mc) (h2 : ns ≤ ms) (kk : G Γ R cc nL own ad M mc ms pc lv st) : G Γ R cc nL own ad M nc ns pc lv st := fun C H locs ls g1 g2 g3 g4 => W.widen h1 h2 (kk C H locs ls g1 g2 g3 g4)
def zOI (own : String) (idx : Nat) : Prop := Cond.methodLink own idx Lib.objectInit ∈ zAW ∧ Cond.instanceMethod Lib.objectInit ∈ zAW ∧ Cond.code Lib.objectInit ⟨#[0xb1]⟩ 1 none ∈ zAW
theorem G_objInit {idx q : Nat} (hw : zOI own idx) (hd : decode cc pc = .ok (.invokespecial idx, 3)) (hR : 1 ≤ R.frames ∧ (st.map fun v => v.category).sum + 12 ≤ R.locals) (kk : G Γ R cc nL own ad M nc ns (pc + 3) lv st) : G Γ R cc nL own ad M nc ns pc lv (.ref q :: st) := fun C H locs ls h1 h2 h3 h4 =>
  W.objInit C.1 C.2.1 C.2.2.2.1 (C.2.2.2.2.1 _ hw.1) (C.2.2.2.2.1 _ hw.2.1) (C.2.2.2.2.1 _ hw.2.2) rfl (h4.1.trans C.2.2.1.symm) rfl hd hR.1 (by show 2 * 0 + _ + 12 ≤ _; omega) (kk C H locs ls h1 h2 h3 h4)
/-- the words of 'new' -/
def zNw (own : String) (idx ci : Nat) (Cn : String) (T : u_T) (N : Nat) (ty0 : Nat → FieldType) : Prop := vwCl[ci]? = some (Cn, T, N) ∧ (∀ w ∈ u_ws Cn T N, w ∈ zAW) ∧ (∀ k, k < N → parseFieldDescriptor (T k).2.2.1 = some (ty0 k)) ∧ Cond.classLink own idx Cn ∈ zAW ∧ Cond.instantiable Cn N ∈ zAW ∧ Cond.initialized Cn ∈ zAW
theorem zdomN {M : zMem} {A : Nat → Prop} {ad : zK → Nat} {key : zK} {e : va_E} {q : Nat} (h : ∀ k, M k ≠ none → A (ad k)) (hq : A q) : ∀ k, zup1 M key (some e) k ≠ none → A (zup1 ad key q k) := fun k hx => by
  by_cases hxk : k = key
  · rw [hxk, zup1_s]; exact hq
  · rw [zup1_n _ _ hxk] at hx ⊢; exact h k hx
theorem G_new {idx ci N : Nat} {Cn : String} {T : u_T} {ty0 : Nat → FieldType} {fs : List Value} (key : zK) (hw : zNw own idx ci Cn T N ty0) (hd : decode cc pc = .ok (.new idx, 3)) (hk : M key = none) (hfs : ∀ j, j < N → defaultValue (ty0 j) = vp_V fs j) (hR : nc + 1 ≤ R.cells ∧ ns + N ≤ R.slots)
    (kk : ∀ ad' : zK → Nat, (∀ k, k ≠ key → ad' k = ad k) → G Γ R cc nL own ad' (zup1 M key (some (.inr (ci, fs)))) (nc + 1) (ns + N) (pc + 3) lv (.ref (ad' key) :: st)) : G Γ R cc nL own ad M nc ns pc lv st := by
  intro C H locs ls h1 h2 h3 h4
  obtain ⟨hc, hin, hty, w1, w2, w3⟩ := hw
  obtain ⟨hexec, hb, -, hown, hts, -, hK, -, hA⟩ := id C
  have hKn := hK.1 ci _ hc
  refine W.newcK hexec hb hown (hts _ w1) (hts _ w2) (hts _ w3) rfl hd hR.1 hR.2 hKn.2.1 rfl fun H1 kC hkC e1 z1 o1 => ?_
  have := kk (zup1 ad key H.size) (fun k hk => zup1_n _ _ hk) C H1 locs ls (h1.new hk ⟨_, hc, (u_born ty0 hts hin hKn hkC e1 hty).to hfs⟩ o1) (zdomN h2 (hA _ h3.1)) ⟨Nat.le_trans h3.1 (by omega), fun x g1 g2 => (o1 x (Nat.lt_of_lt_of_le g1 h3.1)).trans (h3.2.1 x g1 g2), h3.2.2⟩ h4
  rw [zup1_s] at this
  exact this
/-- an array's class is the one that the tables know -/
theorem zcls {cy : Nat → ClassId} {D : va_G} {s : State} {cA : ClassId} {t : Nat} {ty : FieldType} (hK : va_K D vwCl (zT cy) s) (ht : (zT cy)[t]? = some (cy t, ty)) (hp : va_RA s cA ty) (h : s.vm.findClass ("[" ++ ty.toString) = some cA) : cA = cy t := by
  have h2 := (hK.2 t _ ht).2
  cases ty with
  | object C => obtain ⟨_, _, _, _, _, h4⟩ := h2; exact Option.some.inj (h.symm.trans h4)
  | _ => exact Option.some.inj (h.symm.trans h2)
theorem G_newa {atype : ArrayType} {t N : Nat} {ty : FieldType} {a0 : vp_A} {z : Int} (key : zK) (harr : Cond.arrayClass (newarray.typeOf atype) ∈ zAW) (hty : newarray.typeOf atype = ty) (hpr : ∀ (U : State) (cA : ClassId), U.vm.findClass ("[" ++ ty.toString) = some cA → va_RA U cA ty) (ht : (zT (z_d Γ).2.1)[t]? = some ((z_d Γ).2.1 t, ty)) (hd : decode cc pc = .ok (.newarray atype, 2)) (hk : M key = none) (ha : ∀ cA : ClassId, vp_cell cA a0 = arrV cA N (fun _ => defaultValue ty)) (hz : z = N) (hN : zR z) (hbytes : N * componentBytes ty ≤ 536870912) (hR : nc + 1 ≤ R.cells ∧ ns + N ≤ R.slots)
    (kk : ∀ ad' : zK → Nat, (∀ k, k ≠ key → ad' k = ad k) → G Γ R cc nL own ad' (zup1 M key (some (.inl ((z_d Γ).2.1 t, a0)))) (nc + 1) (ns + N) (pc + 2) lv (.ref (ad' key) :: st)) : G Γ R cc nL own ad M nc ns pc lv (.int (zI z) :: st) := by
  intro C H locs ls h1 h2 h3 h4
  subst hty
  obtain ⟨hexec, hb, -, hown, hts, -, hK, -, hA⟩ := id C
  refine va_newaK hexec hb (hts _ harr) rfl hd rfl (fun h => by have := (zI_lt hN zR_0).mp (by rw [zI_0]; exact h); omega) (by rw [zI_clamp hN]; omega) hbytes hR.1 hR.2 rfl fun H1 cA e1 z1 o1 hAr hNm => ?_
  have hcA := zcls hK ht (hpr _ _ hNm) hNm
  subst hcA
  have := kk (zup1 ad key H.size) (fun k hk => zup1_n _ _ hk) C H1 locs ls (h1.new hk (show H1[H.size]? = some (vp_cell _ _) by rw [ha]; exact e1) o1) (zdomN h2 (hA _ h3.1)) ⟨Nat.le_trans h3.1 (by omega), fun x g1 g2 => (o1 x (Nat.lt_of_lt_of_le g1 h3.1)).trans (h3.2.1 x g1 g2), h3.2.2⟩ h4
  rw [zup1_s] at this
  exact this
theorem G_newq {idx t N : Nat} {Cn : String} {z : Int} (key : zK) (hcl : Cond.classLink own idx Cn ∈ zAW) (hov : Cn = "TailraceBroker$Partition" ∨ Cn = "TailraceBroker$Progress" ∨ Cn = "java/lang/Object") (ht : (zT (z_d Γ).2.1)[t]? = some ((z_d Γ).2.1 t, .object Cn)) (hd : decode cc pc = .ok (.anewarray idx, 3)) (hk : M key = none) (hz : z = N) (hN : zR z) (hbytes : N * 4 ≤ 536870912) (hR : nc + 1 ≤ R.cells ∧ ns + N ≤ R.slots)
    (kk : ∀ ad' : zK → Nat, (∀ k, k ≠ key → ad' k = ad k) → G Γ R cc nL own ad' (zup1 M key (some (.inl ((z_d Γ).2.1 t, N, .inr (.inr (.inr (.inr (fun _ => none)))))))) (nc + 1) (ns + N) (pc + 3) lv (.ref (ad' key) :: st)) : G Γ R cc nL own ad M nc ns pc lv (.int (zI z) :: st) := by
  intro C H locs ls h1 h2 h3 h4
  obtain ⟨hexec, hb, -, hown, hts, -, hK, hX, hA⟩ := id C
  have hover : va_AO Cn (z_s Γ) := by
    obtain ⟨-, -, -, -, -, -, o1, o2, o3, -⟩ := hX
    rcases hov with rfl | rfl | rfl
    · exact o1
    · exact o2
    · exact o3
  have hcl0 : (zI z).toNatClampNeg = N := by rw [zI_clamp hN]; omega
  refine W.anew hexec hb hown (hts _ hcl) (va_AO.use hover) rfl hd rfl (fun h => by have := (zI_lt hN zR_0).mp (by rw [zI_0]; exact h); omega) (by rw [hcl0]; exact hbytes) hR.1 (by rw [hcl0]; exact hR.2) fun cA kA comp f1 f2 f3 f4 => ?_
  rw [hcl0]
  generalize hH1 : H.push ({ cls := cA, slots := Array.replicate N .null, vm := .none } : Cell) = H1
  have z1 : H1.size = H.size + 1 := by rw [← hH1, Array.size_push]
  have e1 : H1[H.size]? = some (arrV cA N (fun _ => .null)) := by rw [← hH1, Array.getElem?_push_size, ← arrV_new]
  have o1 : ∀ q : Nat, q < H.size → H1[q]? = H[q]? := fun q hq => by rw [← hH1, Array.getElem?_push, if_neg (Nat.ne_of_lt hq)]
  have hcA := zcls hK ht ⟨kA, comp, f2, f3, f4, f1⟩ f1
  subst hcA
  have := kk (zup1 ad key H.size) (fun k hk => zup1_n _ _ hk) C H1 locs ls (h1.new hk (show H1[H.size]? = some (vp_cell _ _) by rw [vp_cell_q]; exact e1) o1) (zdomN h2 (hA _ h3.1)) ⟨Nat.le_trans h3.1 (by omega), fun x g1 g2 => (o1 x (Nat.lt_of_lt_of_le g1 h3.1)).trans (h3.2.1 x g1 g2), h3.2.2⟩ h4
  rw [zup1_s] at this
  exact this
def zCt (own : String) (idx ci : Nat) (Cn : String) (T : u_T) (N : Nat) : Prop := vwCl[ci]? = some (Cn, T, N) ∧ Cond.classLink own idx Cn ∈ zAW
theorem G_cast {idx ci N : Nat} {Cn : String} {T : u_T} {key : zK} {fs : List Value} (hw : zCt own idx ci Cn T N) (hd : decode cc pc = .ok (.checkcast idx, 3)) (hM : M key = some (.inr (ci, fs))) (kk : G Γ R cc nL own ad M nc ns (pc + 3) lv (.ref (ad key) :: st)) : G Γ R cc nL own ad M nc ns pc lv (.ref (ad key) :: st) := fun C H locs ls h1 h2 h3 h4 =>
  va_castS C.1 C.2.1 C.2.2.2.1 (C.2.2.2.2.1 _ hw.2) (C.2.2.2.2.2.2.1.1 ci _ hw.1).2 (zrecv C h1 hM hw.1) hd (kk C H locs ls h1 h2 h3 h4)
end ZNEW
