/-! ===== fields and arrays over an abstract memory ===== -/
theorem zH.one {Δ : zDl} {ad : zK → Nat} {M : zMem} {H : Heap} (h : zH Δ ad M H) {key : zK} {e : va_E} (hM : M key = some e) : va_P Δ.1 vwCl [(ad key, e)] H := by
  intro k q hq
  match k, hq with
  | 0, hq => cases hq; exact h.1 key e hM
  | k + 1, hq => simp at hq
theorem va_S.put1 {A : Nat → Prop} {H0 H H1 : Heap} {locs : List Loc} {a k : Nat} (h : va_S A H0 H locs) (z : H1.size = H.size) (oq : ∀ q : Nat, q ≠ a → H1[q]? = H[q]?) (ha : A a) : va_S A H0 H1 (locs ++ [⟨a, k⟩]) := h.put z oq ha
theorem zdom {M : zMem} {A : Nat → Prop} {ad : zK → Nat} {key : zK} {e0 e : va_E} (h : ∀ k, M k ≠ none → A (ad k)) (hk : M key = some e0) : ∀ k, zup1 M key (some e) k ≠ none → A (ad k) := fun k hx => h k (by
  by_cases hxk : k = key
  · rw [hxk, hk]; exact fun q => by cases q
  · rwa [zup1_n _ _ hxk] at hx)
/-- a field's link: from the class own, its pool's place idx, to the field k of the class ci -/
def zFl (own : String) (idx ci k : Nat) (C : String) (T : u_T) (N : Nat) : Prop :=
  vwCl[ci]? = some (C, T, N) ∧ k < N ∧ (∀ w ∈ u_ws C T N, w ∈ zAW) ∧ ∃ ref, (Cond.fieldLink own idx ref (T k).2.1 (T k).2.2.1 ∈ zAW ∨ ∃ host, Cond.fieldLinkNest own idx ref (T k).2.1 (T k).2.2.1 host ∈ zNW) ∧ (ref = (T k).1 ∨ Cond.sameField ref (T k).1 (T k).2.1 (T k).2.2.1 ∈ zAW)
/-- a field's type, and that it isn't final -/
def zFp (k : Nat) (T : u_T) (N : Nat) (ty0 : Nat → FieldType) : Prop := (∀ k, k < N → parseFieldDescriptor (T k).2.2.1 = some (ty0 k)) ∧ (∀ a, a < N → ∀ b, b < N → a ≠ b → (T a).2.1 ≠ (T b).2.1) ∧ (T k).2.2.2 = false
def zFf (own : String) (idx k : Nat) (T : u_T) (N : Nat) (ty0 : Nat → FieldType) : Prop := (∀ k, k < N → parseFieldDescriptor (T k).2.2.1 = some (ty0 k)) ∧ (∀ a, a < N → ∀ b, b < N → a ≠ b → (T a).2.1 ≠ (T b).2.1) ∧ (T k).2.2.2 = true ∧ (T k).1 = own ∧ Cond.fieldLink own idx (T k).1 (T k).2.1 (T k).2.2.1 ∈ zAW
section ZMEM
variable {Γ : zCx} {R : Room} {cc : ByteArray} {nL : Nat} {own : String} {ad : zK → Nat} {M : zMem} {nc ns pc : Nat} {lv : List (Nat × Value)} {st : List Value}
theorem zsame {s : State} {args : Array Value} {ref O n d : String} (h : ref = O ∨ (Cond.sameField ref O n d).before args s = true) : ∀ x, s.fieldFound? O n d = some x → s.fieldFound? ref n d = some x := by
  rcases h with h | h
  · rw [h]; exact fun _ h => h
  · exact u_same h
theorem znest {w : Cond} (C : zC Γ cc nL own) (h : w ∈ zNW) : w.before (z_a Γ) (z_s Γ) = true := va_Nw.use (zNW_tab h) (C.2.2.2.2.2.2.2.1.2.2.2.2.2.1 w h)
theorem G_getf {idx ci k : Nat} {Cn : String} {T : u_T} {N : Nat} (hF : zFl own idx ci k Cn T N) {key : zK} {fs : List Value} {v : Value} (hd : decode cc pc = .ok (.getfield idx, 3)) (hM : M key = some (.inr (ci, fs))) (hv : fs[k]? = some v) (kk : G Γ R cc nL own ad M nc ns (pc + 3) lv (v :: st)) : G Γ R cc nL own ad M nc ns pc lv (.ref (ad key) :: st) := by
  intro C H locs ls h1 h2 h3 h4
  obtain ⟨c1, c2, c3, ref, c4, c5⟩ := hF
  have hs := zsame (args := z_a Γ) (s := z_s Γ) (c5.imp (fun h => h) (fun h => C.2.2.2.2.1 _ h))
  rcases c4 with c4 | ⟨host, c4⟩
  · exact va_get (Ts := zAW) C.1 C.2.1 C.2.2.2.2.1 c3 C.2.2.2.1 C.2.2.2.2.2.2.1 (h1.one hM) 0 rfl c1 k c2 (C.2.2.2.2.1 _ c4) hs hv hd (kk C H locs ls h1 h2 h3 h4)
  · exact va_getN (Ts := zAW) C.1 C.2.1 C.2.2.2.2.1 c3 C.2.2.2.1 C.2.2.2.2.2.2.1 (h1.one hM) 0 rfl c1 k c2 (znest C c4) hs hv hd (kk C H locs ls h1 h2 h3 h4)
theorem G_putf {idx ci k : Nat} {Cn : String} {T : u_T} {N : Nat} {ty0 : Nat → FieldType} (hF : zFl own idx ci k Cn T N) (hF2 : zFp k T N ty0) {key : zK} {fs : List Value} {v : Value} {M' : zMem} (hd : decode cc pc = .ok (.putfield idx, 3)) (hM : M key = some (.inr (ci, fs))) (hl : k < fs.length) (hn : narrow (ty0 k) v = v) (hfit : fits (ty0 k) v = true) (hM' : zup1 M key (some (.inr (ci, fs.set k v))) = M') (kk : G Γ R cc nL own ad M' nc ns (pc + 3) lv st) : G Γ R cc nL own ad M nc ns pc lv (v :: .ref (ad key) :: st) := by
  intro C H locs ls h1 h2 h3 h4
  obtain ⟨hc, hk, hin, ref, c4, c5⟩ := hF
  obtain ⟨hty, hnm, hfin⟩ := hF2
  obtain ⟨hexec, hb, -, hown, hts, -, hK, -, -⟩ := id C
  have hs := zsame (args := z_a Γ) (s := z_s Γ) (c5.imp (fun h => h) (fun h => hts _ h))
  have hap := va_apart (own := own) hts hin ty0 hty hnm hK hc
  obtain ⟨r, g1, cell, q1, q2, q3, q4⟩ := h1.1 key _ hM
  have hr : r = (Cn, T, N) := Option.some.inj (g1.symm.trans hc)
  subst hr
  obtain ⟨hS, hfc, kC, hkC, hkind⟩ := hK.1 ci _ hc
  obtain ⟨cf, kf, fi, f, hi, hsl⟩ := hS k hk
  have hlay := hts _ (hin _ (u_in_lay hk))
  unfold u_lay at hlay
  rw [if_neg (by rw [hfin]; decide)] at hlay
  have hst := (u_facts hfc hkC (u_lays hts hin hk) hi).1
  have h6 := u_store hfc hkC hkind hlay hi (hty k hk) hn hfit
  subst hM'
  rcases c4 with c4 | ⟨host, c4⟩
  · refine W.putK hexec hb (f := f) ⟨hown, hts _ c4, ⟨_, _, _, hs _ hi⟩, hst⟩ (by rw [q2]; exact h6) q1 q3 (by rw [hsl]; exact k2_hasslot (q4 k hk)) rfl rfl hd fun H' e1 e2 e3 => ?_
    rw [hsl] at e1 ⊢
    exact kk C H' _ ls (h1.put hM ⟨_, hc, t_OB.to (V := updV (vp_V fs) k v) ⟨_, e1, q2, q3, t_set q4 hap hk v⟩ (fun j _ => vp_updV_set hl v j)⟩ e3) (zdom h2 hM) (h3.put e2 e3 (h2 key (by rw [hM]; exact fun q => by cases q))) h4
  · refine va_WputK hexec hb (f := f) hown (znest C c4) (hs _ hi) hst (by rw [q2]; exact h6) q1 q3 (by rw [hsl]; exact k2_hasslot (q4 k hk)) rfl rfl hd fun H' e1 e2 e3 => ?_
    rw [hsl] at e1 ⊢
    exact kk C H' _ ls (h1.put hM ⟨_, hc, t_OB.to (V := updV (vp_V fs) k v) ⟨_, e1, q2, q3, t_set q4 hap hk v⟩ (fun j _ => vp_updV_set hl v j)⟩ e3) (zdom h2 hM) (h3.put e2 e3 (h2 key (by rw [hM]; exact fun q => by cases q))) h4
theorem G_putF {idx ci k : Nat} {Cn : String} {T : u_T} {N : Nat} {ty0 : Nat → FieldType} (hF : zFl own idx ci k Cn T N) (hF2 : zFf own idx k T N ty0) (hin2 : (z_M Γ).name = "<init>") {key : zK} {fs : List Value} {v : Value} {M' : zMem} (hd : decode cc pc = .ok (.putfield idx, 3)) (hM : M key = some (.inr (ci, fs))) (hl : k < fs.length) (hn : narrow (ty0 k) v = v) (hfit : fits (ty0 k) v = true) (hM' : zup1 M key (some (.inr (ci, fs.set k v))) = M') (kk : G Γ R cc nL own ad M' nc ns (pc + 3) lv st) : G Γ R cc nL own ad M nc ns pc lv (v :: .ref (ad key) :: st) := by
  intro C H locs ls h1 h2 h3 h4
  obtain ⟨hc, hk, hin, -⟩ := hF
  obtain ⟨hty, hnm, hfin, hdecl, c4⟩ := hF2
  obtain ⟨hexec, hb, -, hown, hts, -, hK, -, -⟩ := id C
  have hap := va_apart (own := own) hts hin ty0 hty hnm hK hc
  obtain ⟨r, g1, cell, q1, q2, q3, q4⟩ := h1.1 key _ hM
  have hr : r = (Cn, T, N) := Option.some.inj (g1.symm.trans hc)
  subst hr
  obtain ⟨hS, hfc, kC, hkC, hkind⟩ := hK.1 ci _ hc
  obtain ⟨cf, kf, fi, f, hi, hsl⟩ := hS k hk
  have hlay := hts _ (hin _ (u_in_lay hk))
  unfold u_lay at hlay
  rw [if_pos hfin] at hlay
  have hst := (u_facts hfc hkC (u_lays hts hin hk) hi).1
  have hcf : (z_m Γ).cls = cf := by
    obtain ⟨_, _, c', _, _, _, -, -, hf', -, -, -, hown2, -⟩ := Cond.laysFinal_spec hlay
    have e1 : c' = cf := by have := hi.symm.trans hf'; simp at this; exact this.1.symm
    rw [hdecl] at hown2
    rw [← e1]; exact Option.some.inj (hown.symm.trans hown2)
  have h6 := u_fits hfc hkC hkind (Or.inr hlay) hi (hty k hk) hn hfit
  subst hM'
  refine W.putFinK hexec hb hown (hts _ c4) hi hst hcf hin2 (by rw [q2]; exact h6) q1 q3 (by rw [hsl]; exact k2_hasslot (q4 k hk)) rfl rfl hd fun H' e1 e2 e3 => ?_
  rw [hsl] at e1 ⊢
  exact kk C H' _ ls (h1.put hM ⟨_, hc, t_OB.to (V := updV (vp_V fs) k v) ⟨_, e1, q2, q3, t_set q4 hap hk v⟩ (fun j _ => vp_updV_set hl v j)⟩ e3) (zdom h2 hM) (h3.put e2 e3 (h2 key (by rw [hM]; exact fun q => by cases q))) h4
/-! arrays: entries -/
theorem G_iald {key : zK} {n : Nat} {F : Int → Int} {a : Int} (hd : decode cc pc = .ok (.iaload, 1)) (hM : M key = some (.inl ((z_d Γ).2.1 0, n, .inl (zAi F)))) (ha : 0 ≤ a ∧ a < n ∧ zR a) (kk : G Γ R cc nL own ad M nc ns (pc + 1) lv (.int (zI (F a)) :: st)) : G Γ R cc nL own ad M nc ns pc lv (.int (zI a) :: .ref (ad key) :: st) := fun C H locs ls h1 h2 h3 h4 =>
  va_iald C.1 C.2.1 C.2.2.2.2.2.2.1 (h1.one hM) 0 0 rfl rfl (zI_in ha.1 ha.2.1 ha.2.2) hd (by rw [zAi_at F ha.1 ha.2.2]; exact kk C H locs ls h1 h2 h3 h4)
theorem G_zald {key : zK} {n : Nat} {F : Int → Int} {a : Int} (hd : decode cc pc = .ok (.baload, 1)) (hM : M key = some (.inl ((z_d Γ).2.1 1, n, .inl (zAi F)))) (ha : 0 ≤ a ∧ a < n ∧ zR a) (kk : G Γ R cc nL own ad M nc ns (pc + 1) lv (.int (zI (F a)) :: st)) : G Γ R cc nL own ad M nc ns pc lv (.int (zI a) :: .ref (ad key) :: st) := fun C H locs ls h1 h2 h3 h4 =>
  va_zald C.1 C.2.1 C.2.2.2.2.2.2.1 (h1.one hM) 0 1 rfl rfl (zI_in ha.1 ha.2.1 ha.2.2) hd (by rw [zAi_at F ha.1 ha.2.2]; exact kk C H locs ls h1 h2 h3 h4)
theorem G_aald {key : zK} {n t : Nat} {Cn : String} {F : Int → Option Nat} {a : Int} {v : Nat} (ht : (zT (z_d Γ).2.1)[t]? = some ((z_d Γ).2.1 t, .object Cn)) (hd : decode cc pc = .ok (.aaload, 1)) (hM : M key = some (.inl ((z_d Γ).2.1 t, n, .inr (.inr (.inr (.inr (zAq F))))))) (ha : 0 ≤ a ∧ a < n ∧ zR a) (hv : F a = some v) (kk : G Γ R cc nL own ad M nc ns (pc + 1) lv (.ref v :: st)) : G Γ R cc nL own ad M nc ns pc lv (.int (zI a) :: .ref (ad key) :: st) := fun C H locs ls h1 h2 h3 h4 =>
  va_aldq C.1 C.2.1 C.2.2.2.2.2.2.1 (h1.one hM) 0 t rfl ht (zI_in ha.1 ha.2.1 ha.2.2) hd (by rw [zAq_at F ha.1 ha.2.2, hv]; exact kk C H locs ls h1 h2 h3 h4)
theorem G_alen {key : zK} {cA : ClassId} {n : Nat} {x : (Nat → Int32) ⊕ ((Nat → Int64) ⊕ ((Nat → UInt32) ⊕ ((Nat → UInt64) ⊕ (Nat → Option Nat))))} {t : Nat} {ty : FieldType} (ht : (zT (z_d Γ).2.1)[t]? = some (cA, ty)) (hd : decode cc pc = .ok (.arraylength, 1)) (hM : M key = some (.inl (cA, n, x))) (kk : G Γ R cc nL own ad M nc ns (pc + 1) lv (.int (zI n) :: st)) : G Γ R cc nL own ad M nc ns pc lv (.ref (ad key) :: st) := fun C H locs ls h1 h2 h3 h4 =>
  va_alen C.1 C.2.1 C.2.2.2.2.2.2.1 (h1.one hM) 0 t rfl ht (zI_nat n) hd (kk C H locs ls h1 h2 h3 h4)
theorem G_iast {key : zK} {n : Nat} {F : Int → Int} {a v : Int} {M' : zMem} (hd : decode cc pc = .ok (.iastore, 1)) (hM : M key = some (.inl ((z_d Γ).2.1 0, n, .inl (zAi F)))) (ha : 0 ≤ a ∧ a < n ∧ zR a) (hM' : zup1 M key (some (.inl ((z_d Γ).2.1 0, n, .inl (zAi (zup F a v))))) = M') (kk : G Γ R cc nL own ad M' nc ns (pc + 1) lv st) : G Γ R cc nL own ad M nc ns pc lv (.int (zI v) :: .int (zI a) :: .ref (ad key) :: st) := by
  intro C H locs ls h1 h2 h3 h4
  subst hM'
  refine W.iast C.1 C.2.1 (h1.1 key _ hM) ((C.2.2.2.2.2.2.1.2 0 _ rfl).1 n (fun j => .int (zAi F j))) (fun q => by cases q) (by show ¬ (zI a < 0 ∨ (arrV _ _ _).slots.size ≤ _); rw [arrV_size]; exact zI_in ha.1 ha.2.1 ha.2.2) rfl rfl hd fun H1 e z oq => ?_
  refine kk C H1 _ ls (h1.put hM ?_ oq) (zdom h2 hM) (h3.put z oq (h2 key (by rw [hM]; exact fun q => by cases q))) h4
  show H1[ad key]? = some (vp_cell _ _)
  rw [e, ← zAi_up F ha.1 ha.2.2, vp_cell_i, vp_cell_i, arrV_store]
  congr 2
  funext q
  by_cases hq : q = (zI a).toNatClampNeg
  · subst hq
    simp [updV, upd]
  · simp [updV, upd, hq]
theorem zb_nar {x : Int} (h : x = 0 ∨ x = 1) : narrow .boolean (.int (zI x)) = .int (zI x) := by
  rcases h with rfl | rfl <;> rfl
theorem G_zast {key : zK} {n : Nat} {F : Int → Int} {a v : Int} {M' : zMem} (hd : decode cc pc = .ok (.bastore, 1)) (hM : M key = some (.inl ((z_d Γ).2.1 1, n, .inl (zAi F)))) (ha : 0 ≤ a ∧ a < n ∧ zR a) (hb : v = 0 ∨ v = 1) (hM' : zup1 M key (some (.inl ((z_d Γ).2.1 1, n, .inl (zAi (zup F a v))))) = M') (kk : G Γ R cc nL own ad M' nc ns (pc + 1) lv st) : G Γ R cc nL own ad M nc ns pc lv (.int (zI v) :: .int (zI a) :: .ref (ad key) :: st) := by
  intro C H locs ls h1 h2 h3 h4
  subst hM'
  refine W.zast C.1 C.2.1 (h1.1 key _ hM) ((C.2.2.2.2.2.2.1.2 1 _ rfl).1 n (fun j => .int (zAi F j))) (fun q => by cases q) (by show ¬ (zI a < 0 ∨ (arrV _ _ _).slots.size ≤ _); rw [arrV_size]; exact zI_in ha.1 ha.2.1 ha.2.2) rfl rfl hd fun H1 e z oq => ?_
  rw [zb_nar hb] at e
  refine kk C H1 _ ls (h1.put hM ?_ oq) (zdom h2 hM) (h3.put z oq (h2 key (by rw [hM]; exact fun q => by cases q))) h4
  show H1[ad key]? = some (vp_cell _ _)
  rw [e, ← zAi_up F ha.1 ha.2.2, vp_cell_i, vp_cell_i, arrV_store]
  congr 2
  funext q
  by_cases hq : q = (zI a).toNatClampNeg
  · subst hq
    simp [updV, upd]
  · simp [updV, upd, hq]
theorem G_aast {key keyv : zK} {n t ci : Nat} {r : vw_C} {vs : List Value} {F : Int → Option Nat} {a : Int} {M' : zMem} (ht : (zT (z_d Γ).2.1)[t]? = some ((z_d Γ).2.1 t, .object r.1)) (hc : vwCl[ci]? = some r) (hd : decode cc pc = .ok (.aastore, 1)) (hM : M key = some (.inl ((z_d Γ).2.1 t, n, .inr (.inr (.inr (.inr (zAq F))))))) (hv : M keyv = some (.inr (ci, vs))) (ha : 0 ≤ a ∧ a < n ∧ zR a) (hM' : zup1 M key (some (.inl ((z_d Γ).2.1 t, n, .inr (.inr (.inr (.inr (zAq (zup F a (some (ad keyv)))))))))) = M') (kk : G Γ R cc nL own ad M' nc ns (pc + 1) lv st) : G Γ R cc nL own ad M nc ns pc lv (.ref (ad keyv) :: .int (zI a) :: .ref (ad key) :: st) := by
  intro C H locs ls h1 h2 h3 h4
  subst hM'
  have hK := C.2.2.2.2.2.2.1
  have hin := zI_in ha.1 ha.2.1 ha.2.2
  have hlt : (zI a).toNatClampNeg < n := Nat.not_le.mp fun q => hin (Or.inr q)
  have h0 : ¬ zI a < 0 := fun q => hin (Or.inl q)
  obtain ⟨r', hr', cellV, g1, g2, g3, -⟩ := h1.1 keyv _ hv
  have hcls := (hK.1 ci r hc).2
  obtain ⟨kA, comp, k1, k2, k3, -⟩ := (hK.2 t _ ht).2
  have hcomp : comp = (z_d Γ).1.1 ci := Option.some.inj (k3.symm.trans hcls.1)
  subst hcomp
  obtain ⟨kC, hkC, -⟩ := hcls.2
  refine W.aast C.1 C.2.1 (h1.1 key _ hM) (fun q h => by cases h) (fun h => by cases h) k1 k2 rfl hkC ⟨h0, by show _ < (arrV _ _ _).slots.size; rw [arrV_size]; exact hlt⟩ g1 (fun q h => by rw [g3] at h; cases h) (by rw [g2]; exact hkC) (by rw [g2]; exact va_assign hcls) rfl rfl hd fun H1 e z oq => ?_
  refine kk C H1 _ ls (h1.put hM ?_ oq) (zdom h2 hM) (h3.put z oq (h2 key (by rw [hM]; exact fun q => by cases q))) h4
  show H1[ad key]? = some (vp_cell _ _)
  rw [e, ← zAq_up F ha.1 ha.2.2, vp_cell_q, vp_cell_q, arrV_store]
  congr 2
  funext q
  by_cases hq : q = (zI a).toNatClampNeg
  · subst hq
    simp [updV, va_up, va_rf]
  · simp [updV, va_up, hq]
end ZMEM
