/-! ===== calls with one outcome; stores that name the new value; conditions ===== -/
def zD (v : Option Value) (ad : zK → Nat) (M : zMem) : zPo := fun v' ad' M' => v' = v ∧ ad' = ad ∧ M' = M
def zE (E : String) (ad : zK → Nat) (M : zMem) : zPx := fun E' ad' M' => E' = E ∧ ad' = ad ∧ M' = M
def zF0 : zPo := fun _ _ _ => False
def zX0 : zPx := fun _ _ _ => False
section ZDET
variable {Γ : zCx} {R : Room} {cc : ByteArray} {nL : Nat} {own : String} {ad : zK → Nat} {M M' : zMem} {nc ns pc : Nat} {lv : List (Nat × Value)} {st : List Value}
variable {key : zK} {ci : Nat} {fs : List Value} {r : vw_C} {idx n d maxL : Nat} {y : MethodName} {b : ByteArray} {ret : Option FieldType} {As rest : List Value} {x : Value}
theorem G_callVd (hw : zCV own idx r.1 y b maxL ret n) (hd : decode cc pc = .ok (.invokevirtual idx, 3)) (hM : M key = some (.inr (ci, fs))) (hc : vwCl[ci]? = some r) (hm : zMn (z_l Γ) (z_d Γ) y b maxL ret d 0 0 (.ref (ad key) :: As) ad M (zD (some x) ad M')) (hn : As.length = n) (hst : st = As.reverse ++ .ref (ad key) :: rest) (hro : (rest.map fun v => v.category).sum ≤ 8) (hR : zRo R d 0 0 maxL nc ns)
    (kk : G Γ R cc nL own ad M' nc ns (pc + 3) lv (x :: rest)) : G Γ R cc nL own ad M nc ns pc lv st :=
  G_callV hw hd hM hc hm hn hst hro hR (fun v ad' M1 h => by obtain ⟨rfl, rfl, rfl⟩ := h; exact kk)
theorem G_callVv (hw : zCV own idx r.1 y b maxL ret n) (hd : decode cc pc = .ok (.invokevirtual idx, 3)) (hM : M key = some (.inr (ci, fs))) (hc : vwCl[ci]? = some r) (hm : zMn (z_l Γ) (z_d Γ) y b maxL ret d 0 0 (.ref (ad key) :: As) ad M (zD none ad M')) (hn : As.length = n) (hst : st = As.reverse ++ .ref (ad key) :: rest) (hro : (rest.map fun v => v.category).sum ≤ 8) (hR : zRo R d 0 0 maxL nc ns)
    (kk : G Γ R cc nL own ad M' nc ns (pc + 3) lv rest) : G Γ R cc nL own ad M nc ns pc lv st :=
  G_callV hw hd hM hc hm hn hst hro hR (fun v ad' M1 h => by obtain ⟨rfl, rfl, rfl⟩ := h; exact kk)
theorem G_callSd (hw : zCS own idx y b maxL ret n) (hd : decode cc pc = .ok (.invokestatic idx, 3)) (hm : zMn (z_l Γ) (z_d Γ) y b maxL ret d 0 0 As ad M (zD (some x) ad M')) (hn : As.length = n) (hst : st = As.reverse ++ rest) (hro : (rest.map fun v => v.category).sum ≤ 8) (hR : zRo R d 0 0 maxL nc ns)
    (kk : G Γ R cc nL own ad M' nc ns (pc + 3) lv (x :: rest)) : G Γ R cc nL own ad M nc ns pc lv st :=
  G_callS hw hd hm hn hst hro hR (fun v ad' M1 h => by obtain ⟨rfl, rfl, rfl⟩ := h; exact kk)
theorem G_callSv (hw : zCS own idx y b maxL ret n) (hd : decode cc pc = .ok (.invokestatic idx, 3)) (hm : zMn (z_l Γ) (z_d Γ) y b maxL ret d 0 0 As ad M (zD none ad M')) (hn : As.length = n) (hst : st = As.reverse ++ rest) (hro : (rest.map fun v => v.category).sum ≤ 8) (hR : zRo R d 0 0 maxL nc ns)
    (kk : G Γ R cc nL own ad M' nc ns (pc + 3) lv rest) : G Γ R cc nL own ad M nc ns pc lv st :=
  G_callS hw hd hm hn hst hro hR (fun v ad' M1 h => by obtain ⟨rfl, rfl, rfl⟩ := h; exact kk)
theorem G_callVt {E : String} {px : zPx} {mc ms mc' ms' : Nat} (hw : zCV own idx r.1 y b maxL ret n) (hd : decode cc pc = .ok (.invokevirtual idx, 3)) (hM : M key = some (.inr (ci, fs))) (hc : vwCl[ci]? = some r) (hm : zMx (z_l Γ) (z_d Γ) y b maxL ret d mc' ms' (.ref (ad key) :: As) ad M zF0 (zE E ad M)) (hn : As.length = n) (hst : st = As.reverse ++ .ref (ad key) :: rest) (hro : (rest.map fun v => v.category).sum ≤ 8) (hR : zRo R d mc' ms' maxL nc ns)
    (hf : zFx Γ px mc ms) (hb : nc + mc' ≤ mc ∧ ns + ms' ≤ ms) (hp : px E ad M) : G Γ R cc nL own ad M nc ns pc lv st :=
  G_callVx hw hd hM hc hm hn hst hro hR (fun E1 ad' M1 h => by obtain ⟨rfl, rfl, rfl⟩ := h; exact zGX_out hf hb hp) (fun _ _ _ h => h.elim)
theorem G_callSt {E : String} {px : zPx} {mc ms mc' ms' : Nat} (hw : zCS own idx y b maxL ret n) (hd : decode cc pc = .ok (.invokestatic idx, 3)) (hm : zMx (z_l Γ) (z_d Γ) y b maxL ret d mc' ms' As ad M zF0 (zE E ad M)) (hn : As.length = n) (hst : st = As.reverse ++ rest) (hro : (rest.map fun v => v.category).sum ≤ 8) (hR : zRo R d mc' ms' maxL nc ns)
    (hf : zFx Γ px mc ms) (hb : nc + mc' ≤ mc ∧ ns + ms' ≤ ms) (hp : px E ad M) : G Γ R cc nL own ad M nc ns pc lv st :=
  G_callSx hw hd hm hn hst hro hR (fun E1 ad' M1 h => by obtain ⟨rfl, rfl, rfl⟩ := h; exact zGX_out hf hb hp) (fun _ _ _ h => h.elim)
theorem G_callSNd (hw : zCSN own idx y b maxL ret n) (hd : decode cc pc = .ok (.invokestatic idx, 3)) (hm : zMn (z_l Γ) (z_d Γ) y b maxL ret d 0 0 As ad M (zD (some x) ad M')) (hn : As.length = n) (hst : st = As.reverse ++ rest) (hro : (rest.map fun v => v.category).sum ≤ 8) (hR : zRo R d 0 0 maxL nc ns)
    (kk : G Γ R cc nL own ad M' nc ns (pc + 3) lv (x :: rest)) : G Γ R cc nL own ad M nc ns pc lv st :=
  G_callSN hw hd hm hn hst hro hR (fun v ad' M1 h => by obtain ⟨rfl, rfl, rfl⟩ := h; exact kk)
theorem G_istore_ne {k : Fin 4} {z : Int} (i : Nat) (lv' : Int → List (Nat × Value)) (hd : decode cc pc = .ok (.istore_n k, 1)) (hi : (k : Nat) = i) (hn : i < nL) (hl : ∀ z, (i, Value.int (zI z)) :: lv.filter (fun q => !(q.1 == i) && !(q.1 + 1 == i && q.2.category == 2)) = lv' z) (kk : ∀ w : Int, w = z → G Γ R cc nL own ad M nc ns (pc + 1) (lv' w) st) : G Γ R cc nL own ad M nc ns pc lv (.int (zI z) :: st) :=
  G_istore_n i (lv' z) hd hi hn (hl z) (kk z rfl)
theorem G_istore_e {i : Nat} {z : Int} (lv' : Int → List (Nat × Value)) (hd : decode cc pc = .ok (.istore i, 2)) (hn : i < nL) (hl : ∀ z, (i, Value.int (zI z)) :: lv.filter (fun q => !(q.1 == i) && !(q.1 + 1 == i && q.2.category == 2)) = lv' z) (kk : ∀ w : Int, w = z → G Γ R cc nL own ad M nc ns (pc + 2) (lv' w) st) : G Γ R cc nL own ad M nc ns pc lv (.int (zI z) :: st) :=
  G_istore (lv' z) hd hn (hl z) (kk z rfl)
theorem G_iinc_e {i : Nat} {n x : Int} (j : Nat) (lv' : Int → List (Nat × Value)) (hd : decode cc pc = .ok (.iinc i n, 3)) (hj : lv[j]? = some (i, .int (zI x))) (hn : i < nL) (hl : ∀ z, (i, Value.int (zI z)) :: lv.filter (fun q => !(q.1 == i) && !(q.1 + 1 == i && q.2.category == 2)) = lv' z) (kk : ∀ w : Int, w = x + n → G Γ R cc nL own ad M nc ns (pc + 3) (lv' w) st) : G Γ R cc nL own ad M nc ns pc lv st :=
  G_iinc j (lv' (x + n)) hd hj hn (hl _) (kk _ rfl)
theorem G_lstore_ne {k : Fin 4} {z : Int} (i : Nat) (lv' : Int → List (Nat × Value)) (hd : decode cc pc = .ok (.lstore_n k, 1)) (hi : (k : Nat) = i) (hn : i + 1 < nL) (hl : ∀ z, (i, Value.long (zL z)) :: lv.filter (fun q => !(q.1 == i) && (!(q.1 == i + 1) && !(q.1 + 1 == i && q.2.category == 2))) = lv' z) (kk : ∀ w : Int, w = z → G Γ R cc nL own ad M nc ns (pc + 1) (lv' w) st) : G Γ R cc nL own ad M nc ns pc lv (.long (zL z) :: st) :=
  G_lstore_n i (lv' z) hd hi hn (hl z) (kk z rfl)
theorem zite0 {c : Prop} [Decidable c] (h : (if c then (1 : Int) else 0) = 0) : ¬ c := fun q => by rw [if_pos q] at h; cases h
theorem zite1 {c : Prop} [Decidable c] (h : ¬ (if c then (1 : Int) else 0) = 0) : c := Classical.byContradiction fun q => h (if_neg q)
theorem zR_ite {c : Prop} [Decidable c] : zR (if c then (1 : Int) else 0) := by
  split
  · exact ⟨by omega, by omega⟩
  · exact ⟨by omega, by omega⟩
theorem G_if_eq_b {c : Prop} [Decidable c] {off : Int} (tgt : Nat) (hd : decode cc pc = .ok (.ifCond .eq off, 3)) (ht : (pc : Int) + off = (tgt : Int)) (kt : ¬ c → G Γ R cc nL own ad M nc ns tgt lv st) (kf : c → G Γ R cc nL own ad M nc ns (pc + 3) lv st) : G Γ R cc nL own ad M nc ns pc lv (.int (zI (if c then 1 else 0)) :: st) :=
  G_if_eq tgt hd ht zR_ite (fun h => kt (zite0 h)) (fun h => kf (zite1 h))
theorem G_if_ne_b {c : Prop} [Decidable c] {off : Int} (tgt : Nat) (hd : decode cc pc = .ok (.ifCond .ne off, 3)) (ht : (pc : Int) + off = (tgt : Int)) (kt : c → G Γ R cc nL own ad M nc ns tgt lv st) (kf : ¬ c → G Γ R cc nL own ad M nc ns (pc + 3) lv st) : G Γ R cc nL own ad M nc ns pc lv (.int (zI (if c then 1 else 0)) :: st) :=
  G_if_ne tgt hd ht zR_ite (fun h => kt (zite1 h)) (fun h => kf (zite0 h))
theorem zb_ite {c : Prop} [Decidable c] : (if c then (1 : Int) else 0) = 0 ∨ (if c then (1 : Int) else 0) = 1 := by
  by_cases h : c
  · rw [if_pos h]; exact Or.inr rfl
  · rw [if_neg h]; exact Or.inl rfl
theorem G_iret_d {mn : String} {mc ms : Nat} {v w : Int} (hf : zFn Γ mn (some .int) (zD (some (.int (zI w))) ad M) mc ms) (hd : decode cc pc = .ok (.ireturn, 1)) (hc : nc ≤ mc ∧ ns ≤ ms) (he : v = w) : G Γ R cc nL own ad M nc ns pc lv [.int (zI v)] := G_iret hf hd hc ⟨by rw [he], rfl, rfl⟩
theorem G_zret_d {mn : String} {mc ms : Nat} {v w : Int} (hf : zFn Γ mn (some .boolean) (zD (some (.int (zI w))) ad M) mc ms) (hd : decode cc pc = .ok (.ireturn, 1)) (hc : nc ≤ mc ∧ ns ≤ ms) (hb : v = 0 ∨ v = 1) (he : v = w) : G Γ R cc nL own ad M nc ns pc lv [.int (zI v)] := G_zret hf hd hc hb ⟨by rw [he], rfl, rfl⟩
theorem G_lret_d {mn : String} {mc ms : Nat} {v w : Int} (hf : zFn Γ mn (some .long) (zD (some (.long (zL w))) ad M) mc ms) (hd : decode cc pc = .ok (.lreturn, 1)) (hc : nc ≤ mc ∧ ns ≤ ms) (he : v = w) : G Γ R cc nL own ad M nc ns pc lv [.long (zL v)] := G_lret hf hd hc ⟨by rw [he], rfl, rfl⟩
/-- in a world that was made anew, and is the one that is promised -/
theorem G_vret_d {mn : String} {mc ms : Nat} (hf : zFn Γ mn none (zD none ad M') mc ms) (hd : decode cc pc = .ok (.return_, 1)) (hc : nc ≤ mc ∧ ns ≤ ms) (he : M = M') : G Γ R cc nL own ad M nc ns pc lv [] := G_vret hf hd hc ⟨rfl, rfl, he⟩
theorem G_iret_m {mn : String} {mc ms : Nat} {v w : Int} (hf : zFn Γ mn (some .int) (zD (some (.int (zI w))) ad M') mc ms) (hd : decode cc pc = .ok (.ireturn, 1)) (hc : nc ≤ mc ∧ ns ≤ ms) (he : v = w) (hM : M = M') : G Γ R cc nL own ad M nc ns pc lv [.int (zI v)] := G_iret hf hd hc ⟨by rw [he], rfl, hM⟩
end ZDET
