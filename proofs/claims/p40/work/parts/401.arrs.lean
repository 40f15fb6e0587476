/-! ===== arrays of arrays: reads, stores, makings, copies ===== -/
theorem vpc_cls (c : ClassId) (a : vp_A) : (vp_cell c a).cls = c ∧ (vp_cell c a).vm = .none := by
  obtain ⟨n, f⟩ := a
  unfold vp_cell
  dsimp only
  split <;> exact ⟨rfl, rfl⟩
theorem zouter (c : ClassId) (N h0 : Nat) : ∀ i : Nat, Jvm.Free.Multi.outerC c N h0 i = arrV c N (fun j => if j < i then .ref (h0 + 1 + j) else .null) := by
  intro i
  induction i with
  | zero =>
    show ({ cls := c, slots := Array.replicate N .null, vm := .none } : Cell) = _
    rw [arrV_new]
    congr 1
  | succ i ih =>
    show (Jvm.Free.Multi.outerC c N h0 i).setSlot i (.ref (h0 + 1 + i)) = _
    rw [ih, arrV_store]
    congr 1
    funext j
    unfold updV
    by_cases h : j = i
    · rw [if_pos h, if_pos (by omega), h]
    · rw [if_neg h]
      dsimp only
      by_cases h2 : j < i
      · rw [if_pos h2, if_pos (by omega)]
      · rw [if_neg h2, if_neg (by omega)]
theorem zAO.arr {ty : FieldType} {A : Array Value} {U : State} (h : zAO ty U) : (Cond.arrayClass (.array ty)).before A U = true := by
  obtain ⟨comp, c, k, h1, h2, h3, h4, h5⟩ := arrayOverA_spec h
  simp [Cond.before, Cond.holds, Cond.value, h5, h3, h4]
section ZARR
variable {Γ : zCx} {R : Room} {cc : ByteArray} {nL : Nat} {own : String} {ad : zK → Nat} {M : zMem} {nc ns pc : Nat} {lv : List (Nat × Value)} {st : List Value}
theorem zaoC {te : FieldType} (C : zC Γ cc nL own) (h : te ∈ zAOt) : zAO te (z_s Γ) := C.2.2.2.2.2.2.2.1.2.2.2.2.2.2.2.2.2.2.1 te h
theorem zscC (C : zC Γ cc nL own) : va_X (z_d Γ).2.2.2.1 (z_d Γ).2.2.2.2.1 (z_d Γ).2.2.2.2.2 (z_s Γ) (z_s Γ).heap ∧ ¬ z_A Γ (z_d Γ).2.2.2.1 := C.2.2.2.2.2.2.2.1.2.2.2.2.2.2.2.2.2.2.2
theorem G_aldA {key : zK} {n t : Nat} {te : FieldType} {F : Int → Option Nat} {a : Int} {v : Nat} (ht : (zT (z_d Γ).2.1)[t]? = some ((z_d Γ).2.1 t, .array te)) (hd : decode cc pc = .ok (.aaload, 1)) (hM : M key = some (.inl ((z_d Γ).2.1 t, n, .inr (.inr (.inr (.inr (zAq F))))))) (ha : 0 ≤ a ∧ a < n ∧ zR a) (hv : F a = some v) (kk : G Γ R cc nL own ad M nc ns (pc + 1) lv (.ref v :: st)) : G Γ R cc nL own ad M nc ns pc lv (.int (zI a) :: .ref (ad key) :: st) := by
  intro C H locs ls h1 h2 h3 h4
  have hin := zI_in ha.1 ha.2.1 ha.2.2
  have hlt : (zI a).toNatClampNeg < n := Nat.not_le.mp fun q => hin (Or.inr q)
  exact W.aald (v := .ref v) (ty := .array te) C.1 C.2.1 (h1.1 key _ hM) ((C.2.2.2.2.2.2.1.2 t _ ht).1 n (fun j => va_rf (zAq F j))) rfl (fun q => by cases q) (by show ¬ (zI a < 0 ∨ (arrV _ _ _).slots.size ≤ _); rw [arrV_size]; exact hin) (by show (arrV _ _ _).slots[_]? = _; rw [arrV_read _ _ hlt, zAq_at F ha.1 ha.2.2, hv]; rfl) rfl rfl hd (kk C H locs ls h1 h2 h3 h4)
theorem zclsA {cy : Nat → ClassId} {D : va_G} {s : State} {t : Nat} {te : FieldType} {cA : ClassId} (hK : va_K D vwCl (zT cy) s) (ht : (zT cy)[t]? = some (cy t, .array te)) (h : s.vm.findClass ("[" ++ (FieldType.array te).toString) = some cA) : cA = cy t :=
  Option.some.inj (h.symm.trans (hK.2 t _ ht).2)
theorem zcomp {cy : Nat → ClassId} {D : va_G} {s : State} {t : Nat} {te : FieldType} (hK : va_K D vwCl (zT cy) s) (ht : (zT cy)[t]? = some (cy t, te)) (hno : ∀ C, te ≠ .object C) : s.vm.findClass (FieldType.array te).toString = some (cy t) := by
  have h2 := (hK.2 t _ ht).2
  cases te with
  | object C => exact absurd rfl (hno C)
  | _ => exact h2
theorem G_astA {key keyv : zK} {n t tv nv : Nat} {te : FieldType} {xv : (Nat → Int32) ⊕ ((Nat → Int64) ⊕ ((Nat → UInt32) ⊕ ((Nat → UInt64) ⊕ (Nat → Option Nat))))} {F : Int → Option Nat} {a : Int} {M' : zMem} (ht : (zT (z_d Γ).2.1)[t]? = some ((z_d Γ).2.1 t, .array te)) (hte : te ∈ zAOt) (htv : (zT (z_d Γ).2.1)[tv]? = some ((z_d Γ).2.1 tv, te)) (hd : decode cc pc = .ok (.aastore, 1)) (hM : M key = some (.inl ((z_d Γ).2.1 t, n, .inr (.inr (.inr (.inr (zAq F))))))) (hv : M keyv = some (.inl ((z_d Γ).2.1 tv, nv, xv))) (ha : 0 ≤ a ∧ a < n ∧ zR a) (hM' : zup1 M key (some (.inl ((z_d Γ).2.1 t, n, .inr (.inr (.inr (.inr (zAq (zup F a (some (ad keyv)))))))))) = M') (kk : G Γ R cc nL own ad M' nc ns (pc + 1) lv st) : G Γ R cc nL own ad M nc ns pc lv (.ref (ad keyv) :: .int (zI a) :: .ref (ad key) :: st) := by
  intro C H locs ls h1 h2 h3 h4
  subst hM'
  have hK := C.2.2.2.2.2.2.1
  have hin := zI_in ha.1 ha.2.1 ha.2.2
  have hlt : (zI a).toNatClampNeg < n := Nat.not_le.mp fun q => hin (Or.inr q)
  have h0 : ¬ zI a < 0 := fun q => hin (Or.inl q)
  have hno : ∀ D, te ≠ .object D := fun D q => by subst q; simp [zAOt] at hte
  have g1 : H[ad keyv]? = some (vp_cell ((z_d Γ).2.1 tv) (nv, xv)) := h1.1 keyv _ hv
  obtain ⟨g2, g3⟩ := vpc_cls ((z_d Γ).2.1 tv) (nv, xv)
  obtain ⟨comp, cA2, kA, k3, -, k1, k2, k4⟩ := arrayOverA_spec (zaoC C hte)
  have e1 := zclsA hK ht k4
  subst e1
  have e2 := Option.some.inj (k3.symm.trans (zcomp hK htv hno))
  subst e2
  obtain ⟨kE, hkE, -⟩ := Vm.findClass_spec k3
  refine W.aast C.1 C.2.1 (h1.1 key _ hM) (fun q h => by cases h) (fun h => by cases h) k1 k2 rfl hkE ⟨h0, by show _ < (arrV _ _ _).slots.size; rw [arrV_size]; exact hlt⟩ g1 (fun q h => by rw [g3] at h; cases h) (by rw [g2]; exact hkE) (by rw [g2]; exact va_asg _ _) rfl rfl hd fun H1 e z oq => ?_
  refine kk C H1 _ ls (h1.put hM ?_ oq) (zdom h2 hM) (h3.put z oq (h2 key (by rw [hM]; exact fun q => by cases q))) h4
  show H1[ad key]? = some (vp_cell _ _)
  rw [e, ← zAq_up F ha.1 ha.2.2, vp_cell_q, vp_cell_q, arrV_store]
  congr 2
  funext q
  by_cases hq : q = (zI a).toNatClampNeg
  · subst hq
    simp [updV, va_up, va_rf]
  · simp [updV, va_up, hq]
theorem G_newA {idx t N : Nat} {te : FieldType} {z : Int} (key : zK) (hcl : Cond.classLink own idx (FieldType.array te).toString ∈ zAW) (hte : te ∈ zAOt) (ht : (zT (z_d Γ).2.1)[t]? = some ((z_d Γ).2.1 t, .array te)) (hd : decode cc pc = .ok (.anewarray idx, 3)) (hk : M key = none) (hz : z = N) (hN : zR z) (hbytes : N * 4 ≤ 536870912) (hR : nc + 1 ≤ R.cells ∧ ns + N ≤ R.slots)
    (kk : ∀ ad' : zK → Nat, (∀ k, k ≠ key → ad' k = ad k) → G Γ R cc nL own ad' (zup1 M key (some (.inl ((z_d Γ).2.1 t, N, .inr (.inr (.inr (.inr (zAq (fun _ => none))))))))) (nc + 1) (ns + N) (pc + 3) lv (.ref (ad' key) :: st)) : G Γ R cc nL own ad M nc ns pc lv (.int (zI z) :: st) := by
  intro C H locs ls h1 h2 h3 h4
  obtain ⟨hexec, hb, -, hown, hts, -, hK, hX, hA⟩ := id C
  have hcl0 : (zI z).toNatClampNeg = N := by rw [zI_clamp hN]; omega
  refine W.anewA hexec hb hown (hts _ hcl) (zaoC C hte) rfl hd rfl (fun h => by have := (zI_lt hN zR_0).mp (by rw [zI_0]; exact h); omega) (by rw [hcl0]; exact hbytes) hR.1 (by rw [hcl0]; exact hR.2) fun cA kA comp f1 f2 f3 f4 => ?_
  rw [hcl0]
  generalize hH1 : H.push ({ cls := cA, slots := Array.replicate N .null, vm := .none } : Cell) = H1
  have z1 : H1.size = H.size + 1 := by rw [← hH1, Array.size_push]
  have e1 : H1[H.size]? = some (arrV cA N (fun _ => .null)) := by rw [← hH1, Array.getElem?_push_size, ← arrV_new]
  have o1 : ∀ q : Nat, q < H.size → H1[q]? = H[q]? := fun q hq => by rw [← hH1, Array.getElem?_push, if_neg (Nat.ne_of_lt hq)]
  have hcA := zclsA hK ht f1
  subst hcA
  have := kk (zup1 ad key H.size) (fun k hk => zup1_n _ _ hk) C H1 locs ls (h1.new hk (show H1[H.size]? = some (vp_cell _ _) by rw [vp_cell_q]; exact e1) o1) (zdomN h2 (hA _ h3.1)) ⟨Nat.le_trans h3.1 (by omega), fun x g1 g2 => (o1 x (Nat.lt_of_lt_of_le g1 h3.1)).trans (h3.2.1 x g1 g2), h3.2.2⟩ h4
  rw [zup1_s] at this
  exact this
/-- new T[n][k]: the outer array and its rows -/
theorem G_multi {idx t ti N K : Nat} {ty : FieldType} {z : vp_A} {zn zk : Int} (ko : zK) (ki : Int → zK) (hcl : Cond.classLink own idx ("[" ++ (FieldType.array ty).toString) ∈ zAW) (hte : ty ∈ zAOt) (ht : (zT (z_d Γ).2.1)[t]? = some ((z_d Γ).2.1 t, .array ty)) (hti : (zT (z_d Γ).2.1)[ti]? = some ((z_d Γ).2.1 ti, ty)) (harr : ∀ C : zC Γ cc nL own, (Cond.arrayClass ty).before (z_a Γ) (z_s Γ) = true)
    (hd : decode cc pc = .ok (.multianewarray idx 2, 4)) (hko : M ko = none) (hki : ∀ j : Int, 0 ≤ j → j < N → M (ki j) = none) (hne : ∀ j : Int, 0 ≤ j → j < N → ki j ≠ ko) (hinj : ∀ i j : Int, ki i = ki j → i = j) (hn : zn = N) (hk : zk = K) (hN : N ≤ 1000 ∧ K ≤ 1000) (hb : K * componentBytes ty ≤ 536870912) (hdf : fits ty (defaultValue ty) = true) (hdd : (defaultValue ty).isDefault = true) (hz : ∀ c : ClassId, Jvm.Free.Multi.innerC c K (defaultValue ty) = vp_cell c z)
    (hR : nc + (1 + N) ≤ R.cells ∧ ns + (N + N * K) ≤ R.slots)
    (kk : ∀ (ad' : zK → Nat) (M2 : zMem), (∀ k, k ≠ ko → (∀ j : Int, 0 ≤ j → j < N → k ≠ ki j) → ad' k = ad k ∧ M2 k = M k) → M2 ko = some (.inl ((z_d Γ).2.1 t, N, .inr (.inr (.inr (.inr (zAq (fun x => some (ad' (ki x))))))))) → (∀ j : Int, 0 ≤ j → j < N → M2 (ki j) = some (.inl ((z_d Γ).2.1 ti, z))) → G Γ R cc nL own ad' M2 (nc + 1 + N) (ns + N + N * K) (pc + 4) lv (.ref (ad' ko) :: st)) : G Γ R cc nL own ad M nc ns pc lv (.int (zI zk) :: .int (zI zn) :: st) := by
  intro C H locs ls h1 h2 h3 h4 T hT Xs
  obtain ⟨hexec, hbc, -, hown, hts, -, hK, hX, hA⟩ := id C
  have rn : zR zn := ⟨by omega, by omega⟩
  have rk : zR zk := ⟨by omega, by omega⟩
  have en : (zI zn).toNatClampNeg = N := by rw [zI_clamp rn]; omega
  have ek : (zI zk).toNatClampNeg = K := by rw [zI_clamp rk]; omega
  have n0 : ∀ y : Int, 0 ≤ y → zR y → ¬ zI y < 0 := fun y hy ry q => by
    have := (zI_lt ry zR_0).mp (by rw [zI_0]; exact q)
    omega
  have hno : ∀ D, ty ≠ .object D := fun D q => by subst q; simp [zAOt] at hte
  obtain ⟨vm₁, cA, comp, -, fA, fC, -, -, X', step⟩ := Xs.multianewarray2F hexec hown (hts _ hcl) (zaoC C hte) (harr C) (g := F0 (z_m Γ) pc ls (.int (zI zk) :: .int (zI zn) :: st)) rfl (by rw [hbc]; exact hd) rfl (n0 zn (by omega) rn) (n0 zk (by omega) rk) (by rw [en]; omega) (by rw [ek]; exact hb) (by rw [ek]; omega) hdf hdd (by rw [en]; exact hR.1) (by rw [en, ek]; exact hR.2)
  rw [en, ek] at X' step
  have e1 := zclsA hK ht fA
  subst e1
  have e2 := Option.some.inj (fC.symm.trans (zcomp hK hti hno))
  subst e2
  obtain ⟨f1, f2, -, -⟩ := Jvm.Free.Multi.fill_facts (T.setVm vm₁) ((z_d Γ).2.1 t) ((z_d Γ).2.1 ti) N K (defaultValue ty) N
  have f3 := fun (q : Nat) (hq : q < (T.setVm vm₁).heap.size) => Jvm.Free.Multi.fill_old (T.setVm vm₁) ((z_d Γ).2.1 t) ((z_d Γ).2.1 ti) N K (defaultValue ty) (a := q) hq N
  have f4 := fun (j : Nat) (hj : j < N) => Jvm.Free.Multi.fill_inner (T.setVm vm₁) ((z_d Γ).2.1 t) ((z_d Γ).2.1 ti) N K (defaultValue ty) N j hj
  have hTh : (T.setVm vm₁).heap = H := hT
  have hTz : T.heap = H := hT
  generalize Jvm.Free.Multi.fill (T.setVm vm₁) ((z_d Γ).2.1 t) ((z_d Γ).2.1 ti) N K (defaultValue ty) N = F at X' step f1 f2 f3 f4
  rw [hTh] at f1 f2 f3 f4
  rw [hTz] at step
  have hlt : ∀ k, M k ≠ none → ad k < H.size := fun k hk2 => by
    cases hm : M k with
    | none => exact absurd hm hk2
    | some x => exact (h1.1 k x hm).lt
  -- the inner rows' names
  have hdec : ∀ k : zK, (∃ j : Int, (0 ≤ j ∧ j < N) ∧ k = ki j) ∨ ∀ j : Int, 0 ≤ j → j < N → k ≠ ki j := fun k => by
    by_cases h : ∃ j : Int, (0 ≤ j ∧ j < N) ∧ k = ki j
    · exact Or.inl h
    · exact Or.inr (fun j a b q => h ⟨j, ⟨a, b⟩, q⟩)
  obtain ⟨ad', had1, had2, had3⟩ : ∃ ad' : zK → Nat, ad' ko = H.size ∧ (∀ j : Int, 0 ≤ j → j < N → ad' (ki j) = H.size + 1 + j.toNat) ∧ ∀ k, k ≠ ko → (∀ j : Int, 0 ≤ j → j < N → k ≠ ki j) → ad' k = ad k := by
    classical
    refine ⟨fun k => if k = ko then H.size else if h : ∃ j : Int, (0 ≤ j ∧ j < N) ∧ k = ki j then H.size + 1 + h.choose.toNat else ad k, if_pos rfl, fun j a b => ?_, fun k a b => ?_⟩
    · dsimp only
      have hx : ∃ j' : Int, (0 ≤ j' ∧ j' < N) ∧ ki j = ki j' := ⟨j, ⟨a, b⟩, rfl⟩
      rw [if_neg (hne j a b), dif_pos hx, ← hinj _ _ hx.choose_spec.2]
    · dsimp only
      rw [if_neg a, dif_neg (fun q => by obtain ⟨j, q1, q2⟩ := q; exact b j q1.1 q1.2 q2)]
  obtain ⟨M2, hM1, hM2, hM3⟩ : ∃ M2 : zMem, M2 ko = some (.inl ((z_d Γ).2.1 t, N, .inr (.inr (.inr (.inr (zAq (fun x => some (ad' (ki x))))))))) ∧ (∀ j : Int, 0 ≤ j → j < N → M2 (ki j) = some (.inl ((z_d Γ).2.1 ti, z))) ∧ ∀ k, k ≠ ko → (∀ j : Int, 0 ≤ j → j < N → k ≠ ki j) → M2 k = M k := by
    classical
    refine ⟨fun k => if k = ko then some (.inl ((z_d Γ).2.1 t, N, .inr (.inr (.inr (.inr (zAq (fun x => some (ad' (ki x))))))))) else if ∃ j : Int, (0 ≤ j ∧ j < N) ∧ k = ki j then some (.inl ((z_d Γ).2.1 ti, z)) else M k, if_pos rfl, fun j a b => ?_, fun k a b => ?_⟩
    · dsimp only
      rw [if_neg (hne j a b), if_pos ⟨j, ⟨a, b⟩, rfl⟩]
    · dsimp only
      rw [if_neg a, if_neg (fun q => by obtain ⟨j, q1, q2⟩ := q; exact b j q1.1 q1.2 q2)]
  have hC : ∀ k, M2 k ≠ none → k = ko ∨ (∃ j : Int, (0 ≤ j ∧ j < N) ∧ k = ki j) ∨ (M k ≠ none ∧ ad' k = ad k ∧ M2 k = M k) := fun k hk2 => by
    by_cases h : k = ko
    · exact Or.inl h
    · rcases hdec k with h5 | h5
      · exact Or.inr (Or.inl h5)
      · refine Or.inr (Or.inr ⟨?_, had3 k h h5, hM3 k h h5⟩)
        rw [← hM3 k h h5]
        exact hk2
  have hH' : zH (z_d Γ) ad' M2 F.heap := by
    refine ⟨fun k e hk2 => ?_, fun k k' a b q => ?_⟩
    · rcases hC k (by rw [hk2]; exact fun q => by cases q) with rfl | ⟨j, hj, rfl⟩ | ⟨a, b, c⟩
      · rw [hM1] at hk2
        cases hk2
        show F.heap[ad' k]? = some (vp_cell _ _)
        rw [had1, f2, vp_cell_q, zouter]
        congr 1
        unfold arrV
        congr 1
        congr 1
        funext j
        have hj := j.isLt
        dsimp only
        rw [if_pos hj]
        show _ = va_rf (some (ad' (ki ((j.val : Nat) : Int))))
        rw [had2 _ (by omega) (by omega)]
        show Value.ref (H.size + 1 + j.val) = Value.ref (H.size + 1 + ((j.val : Nat) : Int).toNat)
        rw [Int.toNat_natCast]
      · rw [hM2 j hj.1 hj.2] at hk2
        cases hk2
        show F.heap[ad' (ki j)]? = some (vp_cell _ _)
        rw [had2 j hj.1 hj.2, f4 j.toNat (by omega), hz]
      · rw [c] at hk2
        rw [b]
        exact (h1.1 k e hk2).kept (f3 _ (hlt k a))
    · rcases hC k a with rfl | ⟨j, hj, rfl⟩ | ⟨a1, a2, -⟩ <;> rcases hC k' b with rfl | ⟨j', hj', rfl⟩ | ⟨b1, b2, -⟩
      · rfl
      · rw [had1, had2 j' hj'.1 hj'.2] at q
        omega
      · rw [had1, b2] at q
        have := hlt _ b1
        omega
      · rw [had1, had2 j hj.1 hj.2] at q
        omega
      · rw [had2 j hj.1 hj.2, had2 j' hj'.1 hj'.2] at q
        rw [show j = j' by omega]
      · rw [b2, had2 j hj.1 hj.2] at q
        have := hlt _ b1
        omega
      · rw [had1, a2] at q
        have := hlt _ a1
        omega
      · rw [a2, had2 j' hj'.1 hj'.2] at q
        have := hlt _ a1
        omega
      · rw [a2, b2] at q
        exact h1.2 k k' a1 b1 q
  have hA' : ∀ k, M2 k ≠ none → z_A Γ (ad' k) := fun k hk2 => by
    rcases hC k hk2 with rfl | ⟨j, hj, rfl⟩ | ⟨a, b, -⟩
    · rw [had1]; exact hA _ h3.1
    · rw [had2 j hj.1 hj.2]; exact hA _ (Nat.le_trans h3.1 (by omega))
    · rw [b]; exact h2 k a
  have hS' : va_S (z_A Γ) (z_s Γ).heap F.heap locs := ⟨Nat.le_trans h3.1 (by rw [f1]; omega), fun q a b => (f3 q (Nat.lt_of_lt_of_le a h3.1)).trans (h3.2.1 q a b), h3.2.2⟩
  have K2 := kk ad' M2 (fun k a b => ⟨had3 k a b, hM3 k a b⟩) hM1 hM2 C F.heap locs ls hH' hA' hS' h4
  rw [had1] at K2
  obtain ⟨t', a1, b1⟩ := K2 F rfl X'
  exact ⟨t', step t' a1, b1⟩
/-- System.arraycopy from 0 to 0 between arrays of arrays -/
def zCW (own : String) (idx : Nat) : Prop := Cond.methodLink own idx arraycopyName ∈ zAW ∧ Cond.native arraycopyName ∈ zAW ∧ Cond.static arraycopyName ∈ zAW ∧ Cond.initialized "java/lang/System" ∈ zAW
theorem G_cpyA {k0 k1 : zK} {idx n0 n1 t tv : Nat} {te : FieldType} {F F' : Int → Option Nat} {n : Int} (hw : zCW own idx) (ht : (zT (z_d Γ).2.1)[t]? = some ((z_d Γ).2.1 t, .array te)) (hte : te ∈ zAOt) (htv : (zT (z_d Γ).2.1)[tv]? = some ((z_d Γ).2.1 tv, te)) (hd : decode cc pc = .ok (.invokestatic idx, 3))
    (h0 : M k0 = some (.inl ((z_d Γ).2.1 t, n0, .inr (.inr (.inr (.inr (zAq F))))))) (h1 : M k1 = some (.inl ((z_d Γ).2.1 t, n1, .inr (.inr (.inr (.inr (zAq F'))))))) (hn : 0 ≤ n ∧ n ≤ n0 ∧ n ≤ n1 ∧ n ≤ 100000) (hel : ∀ i : Int, 0 ≤ i → i < n → ∃ k nv xv, F i = some (ad k) ∧ M k = some (.inl ((z_d Γ).2.1 tv, nv, xv))) (hR : 1 ≤ R.frames ∧ (st.map fun v => v.category).sum + 100 ≤ R.locals)
    {M' : zMem} (hM' : zup1 M k1 (some (.inl ((z_d Γ).2.1 t, n1, .inr (.inr (.inr (.inr (zAq (fun j => if 0 ≤ j ∧ j < n then F j else F' j)))))))) = M') (kk : G Γ R cc nL own ad M' nc ns (pc + 3) lv st) : G Γ R cc nL own ad M nc ns pc lv (.int (zI n) :: .int (zI 0) :: .ref (ad k1) :: .int (zI 0) :: .ref (ad k0) :: st) := by
  intro C H locs ls g1 g2 g3 g4 T hT X
  subst hM'
  have hK := C.2.2.2.2.2.2.1
  have hts := C.2.2.2.2.1
  have rn : zR n := ⟨by omega, by omega⟩
  have r0 : zR 0 := ⟨by omega, by omega⟩
  have ng : ∀ z : Int, 0 ≤ z → zR z → ¬ zI z < 0 := fun z hz hr q => by
    have := (zI_lt hr zR_0).mp (by rw [zI_0]; exact q)
    omega
  have hno : ∀ D, te ≠ .object D := fun D q => by subst q; simp [zAOt] at hte
  have hc0 : H[ad k0]? = some (vp_cell ((z_d Γ).2.1 t) (n0, .inr (.inr (.inr (.inr (zAq F)))))) := g1.1 k0 _ h0
  have hc1 : H[ad k1]? = some (vp_cell ((z_d Γ).2.1 t) (n1, .inr (.inr (.inr (.inr (zAq F')))))) := g1.1 k1 _ h1
  obtain ⟨comp, cA2, kA, k3, -, kk1, kk2, k4⟩ := arrayOverA_spec (zaoC C hte)
  have e1 := zclsA hK ht k4
  subst e1
  have e2 := Option.some.inj (k3.symm.trans (zcomp hK htv hno))
  subst e2
  obtain ⟨kE, hkE, -⟩ := Vm.findClass_spec k3
  obtain ⟨vm', X', step⟩ := X.arraycopy C.1 C.2.2.2.1 (hts _ hw.1) (hts _ hw.2.1) (hts _ hw.2.2.1) (hts _ hw.2.2.2) (src := ad k0) (dst := ad k1) (cs := vp_cell ((z_d Γ).2.1 t) (n0, .inr (.inr (.inr (.inr (zAq F)))))) (cd := vp_cell ((z_d Γ).2.1 t) (n1, .inr (.inr (.inr (.inr (zAq F')))))) (srcPos := zI 0) (destPos := zI 0) (n := zI n) (by rw [hT]; exact hc0) (by rw [hT]; exact hc1)
    (fun _ h => by cases h) (fun _ h => by cases h) (fun h => by cases h) (fun h => by cases h) kk1 kk1 kk2 kk2 (by simp [refKind]) (ng 0 (by omega) r0) (ng 0 (by omega) r0) (ng n hn.1 rn)
    (by rw [zI_toInt r0, zI_toInt rn]; show ¬ _ > ((arrV _ n0 (fun j => va_rf (zAq F j))).slots.size : Int); rw [arrV_size]; omega)
    (by rw [zI_toInt r0, zI_toInt rn]; show ¬ _ > ((arrV _ n1 (fun j => va_rf (zAq F' j))).slots.size : Int); rw [arrV_size]; omega)
    (fun vm₁ hal i hi => by
      rw [zI_clamp rn] at hi
      rw [zI_clamp r0]
      obtain ⟨k, nv, xv, q1, q2⟩ := hel i (by omega) (by omega)
      have e : (vp_cell ((z_d Γ).2.1 t) (n0, .inr (.inr (.inr (.inr (zAq F)))))).slots.getD ((0 : Int).toNat + i) .null = .ref (ad k) := by
        show (arrV _ n0 (fun j => va_rf (zAq F j))).slots.getD _ _ = _
        rw [Array.getD_eq_getD_getElem?, arrV_read _ _ (by omega)]
        show va_rf (F (((0 : Int).toNat + i : Nat) : Int)) = _
        rw [show (((0 : Int).toNat + i : Nat) : Int) = (i : Int) by omega, q1]
        rfl
      rw [e]
      have q3 : H[ad k]? = some (vp_cell ((z_d Γ).2.1 tv) (nv, xv)) := g1.1 k _ q2
      obtain ⟨q4, q5⟩ := vpc_cls ((z_d Γ).2.1 tv) (nv, xv)
      obtain ⟨kE', hkE', -⟩ := hal.2.2 _ _ hkE
      refine ⟨rfl, vp_cell ((z_d Γ).2.1 tv) (nv, xv), (show T.heap[ad k]? = _ by rw [hT]; exact q3), (fun q h => by rw [q5] at h; cases h), ⟨kE', by rw [q4]; exact hkE'⟩, ⟨kE', hkE'⟩, ?_⟩
      rw [q4]
      exact va_asg _ _)
    (g := F0 (z_m Γ) pc ls (.int (zI n) :: .int (zI 0) :: .ref (ad k1) :: .int (zI 0) :: .ref (ad k0) :: st)) rfl (g4.1.trans C.2.2.1.symm) (rest := st) rfl (by rw [C.2.1]; exact hd) hR.1 (Nat.le_trans (by rw [show 2 * (F0 (z_m Γ) pc ls (.int (zI n) :: .int (zI 0) :: .ref (ad k1) :: .int (zI 0) :: .ref (ad k0) :: st)).monitorRoom = 0 from rfl, Nat.zero_add]; exact Nat.add_le_add_left (show nativeFrameWords "java/lang/System" "arraycopy" 5 + 11 ≤ 100 by decide) _) hR.2)
  have e1 : copied (vp_cell ((z_d Γ).2.1 t) (n0, .inr (.inr (.inr (.inr (zAq F)))))) (vp_cell ((z_d Γ).2.1 t) (n1, .inr (.inr (.inr (.inr (zAq F')))))) (zI 0) (zI 0) (zI n) = vp_cell ((z_d Γ).2.1 t) (n1, .inr (.inr (.inr (.inr (zAq (fun j => if 0 ≤ j ∧ j < n then F j else F' j)))))) := by
    rw [vp_cell_q, vp_cell_q, vp_cell_q]
    refine (va_copied (fun z => va_rf z) _ _ (zAq F) (zAq F') (by rw [zI_clamp r0, zI_clamp rn]; omega)).trans ?_
    rw [zI_clamp r0, zI_clamp rn, show (0 : Int).toNat = 0 from rfl, zcq_eq hn.1]
  rw [e1] at X' step
  have hl : ad k1 < H.size := (Array.getElem?_eq_some_iff.mp hc1).1
  generalize hE : vp_cell ((z_d Γ).2.1 t) (n1, .inr (.inr (.inr (.inr (zAq (fun j => if 0 ≤ j ∧ j < n then F j else F' j)))))) = E at X' step
  have hheap : ((T.setVm vm').setCell (ad k1) E).heap = H.setIfInBounds (ad k1) E := by rw [← hT]; rfl
  have oq : ∀ q : Nat, q ≠ ad k1 → (H.setIfInBounds (ad k1) E)[q]? = H[q]? := fun q hq => by simp [Array.getElem?_setIfInBounds, Ne.symm hq]
  obtain ⟨t', a1, b1⟩ := kk C (H.setIfInBounds (ad k1) E) _ ls (g1.put h1 (show (H.setIfInBounds (ad k1) E)[ad k1]? = some _ by rw [hE]; simp [Array.getElem?_setIfInBounds, hl]) oq) (zdom g2 h1) ⟨by simp; exact g3.1, fun q a b => by
      rw [oq q (fun e => b (by rw [e]; exact g2 k1 (by rw [h1]; exact fun q => by cases q)))]
      exact g3.2.1 q a b, fun q hq => by
      rcases List.mem_append.mp hq with h | h
      · exact g3.2.2 q h
      · obtain ⟨z, -, hz⟩ := List.mem_map.mp h
        rw [← hz]
        exact g2 k1 (by rw [h1]; exact fun q => by cases q)⟩ g4 _ hheap X'
  exact ⟨t', step t' a1, b1⟩
end ZARR
