/-! ===== all cells of a memory as a list; System.arraycopy between two of them ===== -/
noncomputable def zwf (ad : zK → Nat) (M : zMem) (q : Nat) : Option (Nat × va_E) := by
  classical
  exact if h : ∃ k e, M k = some e ∧ ad k = q then some (q, h.choose_spec.choose) else none
noncomputable def zwl (ad : zK → Nat) (M : zMem) (n : Nat) : va_W := (List.range n).filterMap (zwf ad M)
theorem zwf_fst {ad : zK → Nat} {M : zMem} {q : Nat} {x : Nat × va_E} (h : zwf ad M q = some x) : x.1 = q ∧ ∃ k, M k = some x.2 ∧ ad k = q := by
  classical
  unfold zwf at h
  split at h
  · next hx =>
    cases h
    exact ⟨rfl, hx.choose, hx.choose_spec.choose_spec⟩
  · cases h
theorem zwf_of {ad : zK → Nat} {M : zMem} {k : zK} {e : va_E} (hM : M k = some e) (inj : ∀ k k' : zK, M k ≠ none → M k' ≠ none → ad k = ad k' → k = k') : zwf ad M (ad k) = some (ad k, e) := by
  classical
  unfold zwf
  have hx : ∃ k' e', M k' = some e' ∧ ad k' = ad k := ⟨k, e, hM, rfl⟩
  rw [dif_pos hx]
  have hs := hx.choose_spec.choose_spec
  have hk : hx.choose = k := inj _ _ (by rw [hs.1]; exact fun q => by cases q) (by rw [hM]; exact fun q => by cases q) hs.2
  have h2 := Option.some.inj (hs.1.symm.trans ((congrArg M hk).trans hM))
  rw [h2]
theorem znodup {f : Nat → Option (Nat × va_E)} (hf : ∀ q x, f q = some x → x.1 = q) : ∀ l : List Nat, l.Nodup → ((l.filterMap f).map Prod.fst).Nodup ∧ ∀ a ∈ (l.filterMap f).map Prod.fst, a ∈ l := by
  intro l
  induction l with
  | nil => intro _; exact ⟨List.nodup_nil, fun a h => h⟩
  | cons b l ih =>
    intro hn
    obtain ⟨hb, hl⟩ := List.nodup_cons.mp hn
    obtain ⟨i1, i2⟩ := ih hl
    cases hfb : f b with
    | none =>
      rw [List.filterMap_cons_none hfb]
      exact ⟨i1, fun a h => List.mem_cons_of_mem _ (i2 a h)⟩
    | some x =>
      rw [List.filterMap_cons_some hfb, List.map_cons, hf b x hfb]
      exact ⟨List.nodup_cons.mpr ⟨fun h => hb (i2 b h), i1⟩, fun a h => by
        rcases List.mem_cons.mp h with rfl | h
        · exact List.mem_cons_self
        · exact List.mem_cons_of_mem _ (i2 a h)⟩
theorem zwl_D {ad : zK → Nat} {M : zMem} {n : Nat} {A : Nat → Prop} (hA : ∀ k, M k ≠ none → A (ad k)) : va_D A (zwl ad M n) := by
  have hf : ∀ q x, zwf ad M q = some x → x.1 = q := fun q x h => (zwf_fst h).1
  have hn := (znodup hf (List.range n) List.nodup_range).1
  refine ⟨fun i j p q hi hj e => ?_, fun j q hj => ?_⟩
  · have hi' : ((zwl ad M n).map Prod.fst)[i]? = some p.1 := by rw [List.getElem?_map, hi]; rfl
    have hj' : ((zwl ad M n).map Prod.fst)[j]? = some p.1 := by rw [List.getElem?_map, hj, e]; rfl
    have hlt : i < ((zwl ad M n).map Prod.fst).length := (List.getElem?_eq_some_iff.mp hi').1
    exact (List.getElem?_inj hlt hn).mp (hi'.trans hj'.symm)
  · obtain ⟨a, -, ha⟩ := List.mem_filterMap.mp (List.mem_of_getElem? hj)
    obtain ⟨h1, k, h2, h3⟩ := zwf_fst ha
    rw [h1, ← h3]
    exact hA k (by rw [h2]; exact fun q => by cases q)
theorem zwl_P {Δ : zDl} {ad : zK → Nat} {M : zMem} {H : Heap} (h : zH Δ ad M H) : va_P Δ.1 vwCl (zwl ad M H.size) H := by
  intro j q hj
  obtain ⟨a, -, ha⟩ := List.mem_filterMap.mp (List.mem_of_getElem? hj)
  obtain ⟨h1, k, h2, h3⟩ := zwf_fst ha
  have := h.1 k q.2 h2
  rw [h3, ← h1] at this
  exact this
theorem zwl_at {Δ : zDl} {ad : zK → Nat} {M : zMem} {H : Heap} (h : zH Δ ad M H) {k : zK} {e : va_E} (hM : M k = some e) : ∃ j : Nat, (zwl ad M H.size)[j]? = some (ad k, e) := by
  refine List.getElem?_of_mem (List.mem_filterMap.mpr ⟨ad k, List.mem_range.mpr (h.1 k e hM).lt, zwf_of hM h.2⟩)
theorem zwl_set {Δ : zDl} {ad : zK → Nat} {M : zMem} {H H1 : Heap} (h : zH Δ ad M H) {k1 : zK} {e1 e' : va_E} (hM : M k1 = some e1) {j : Nat} (hj : (zwl ad M H.size)[j]? = some (ad k1, e1)) (hP : va_P Δ.1 vwCl ((zwl ad M H.size).set j (ad k1, e')) H1) : zH Δ ad (zup1 M k1 (some e')) H1 := by
  have key : ∀ x, zup1 M k1 (some e') x ≠ none → M x ≠ none := fun x hx => by
    by_cases hxk : x = k1
    · rw [hxk, hM]; exact fun q => by cases q
    · rwa [zup1_n _ _ hxk] at hx
  refine ⟨fun k x hk => ?_, fun k k' hk hk' e9 => h.2 k k' (key k hk) (key k' hk') e9⟩
  by_cases hkk : k = k1
  · subst hkk
    rw [zup1_s] at hk
    cases hk
    exact hP j _ (by rw [List.getElem?_set_self (List.getElem?_eq_some_iff.mp hj).1])
  · rw [zup1_n _ _ hkk] at hk
    obtain ⟨i, hi⟩ := zwl_at h hk
    have hij : j ≠ i := fun q => by
      subst q
      rw [hj] at hi
      exact hkk (h.2 k k1 (by rw [hk]; exact fun q => by cases q) (by rw [hM]; exact fun q => by cases q) (congrArg Prod.fst (Option.some.inj hi)).symm)
    exact hP i _ (by rw [List.getElem?_set_ne hij]; exact hi)
/-- what a copy of n from place s of F to place d of F' leaves -/
def zcp (F F' : Int → Int) (s d n : Int) : Int → Int := fun j => if d ≤ j ∧ j < d + n then F (s + (j - d)) else F' j
theorem zcp_eq {F F' : Int → Int} {s d n : Int} (hs : 0 ≤ s) (hd : 0 ≤ d) (hn : 0 ≤ n) : va_cpy (zAi F) (zAi F') s.toNat d.toNat n.toNat = zAi (zcp F F' s d n) := by
  funext j
  show (if d.toNat ≤ j ∧ j < d.toNat + n.toNat then zAi F (s.toNat + (j - d.toNat)) else zAi F' j) = zI (if d ≤ (j : Int) ∧ (j : Int) < d + n then F (s + ((j : Int) - d)) else F' j)
  by_cases h : d ≤ (j : Int) ∧ (j : Int) < d + n
  · rw [if_pos h, if_pos ⟨by omega, by omega⟩]
    show zI (F ((s.toNat + (j - d.toNat) : Nat) : Int)) = _
    rw [show ((s.toNat + (j - d.toNat) : Nat) : Int) = s + ((j : Int) - d) by omega]
  · rw [if_neg h, if_neg (fun q => h ⟨by omega, by omega⟩)]
    rfl
