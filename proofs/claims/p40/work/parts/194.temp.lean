/-! ===== arrays that are made on the way; System.arraycopy ===== -/
theorem zcnt_cut {Δ : zDl} {ad : zK → Nat} {P : zP} (k : zK) (r : Int → Int) : zcnt Δ ad P k r = zcnt Δ (fun q => if q.1 < 80 then ad q else 0) P k r := rfl
theorem mm_ad {Δ : zDl} {ad ad' : zK → Nat} {P : zP} {S : zS} {X : zMem} (h : ∀ k : zK, k.1 < 80 → ad' k = ad k) : mm Δ ad' P S X = mm Δ ad P S X := by
  have e : (fun q : zK => if q.1 < 80 then ad' q else 0) = fun q => if q.1 < 80 then ad q else 0 := by
    funext q
    by_cases hq : q.1 < 80
    · rw [if_pos hq, if_pos hq, h q hq]
    · rw [if_neg hq, if_neg hq]
  funext k
  show (if k.1 < 80 then zcnt Δ ad' P k (S k) else X k) = if k.1 < 80 then zcnt Δ ad P k (S k) else X k
  rw [zcnt_cut (ad := ad'), zcnt_cut (ad := ad), e]
theorem mm_ge {Δ : zDl} {ad : zK → Nat} {P : zP} {S : zS} {X : zMem} (k : zK) (h : ¬ k.1 < 80) : mm Δ ad P S X k = X k := if_neg h
theorem mm_up {Δ : zDl} {ad : zK → Nat} {P : zP} {S : zS} {X : zMem} {key : zK} (h : ¬ key.1 < 80) (e : Option va_E) : zup1 (mm Δ ad P S X) key e = mm Δ ad P S (zup1 X key e) := by
  funext k
  by_cases hk : k = key
  · subst hk
    rw [zup1_s, mm_ge _ h, zup1_s]
  · rw [zup1_n _ _ hk]
    show (if k.1 < 80 then _ else X k) = if k.1 < 80 then _ else zup1 X key e k
    rw [zup1_n _ _ hk]
theorem zad80 {ad ad' : zK → Nat} {key : zK} (hk : ¬ key.1 < 80) (h : ∀ k, k ≠ key → ad' k = ad k) : ∀ k : zK, k.1 < 80 → ad' k = ad k := fun k hq => h k (fun e => hk (e ▸ hq))
def zTm (X : zMem) (c : ClassId) (N : Nat) (F : Int → Int) : zMem := zup1 X (90, 0, 0, 0) (some (.inl (c, N, .inl (zAi F))))
theorem zTm_g {Δ : zDl} {ad : zK → Nat} {P : zP} {S : zS} {X : zMem} {c : ClassId} {N : Nat} {F : Int → Int} : mm Δ ad P S (zTm X c N F) (90, 0, 0, 0) = some (.inl (c, N, .inl (zAi F))) := (mm_ge _ (by decide)).trans (zup1_s _ _ _)
theorem zTm_p {Δ : zDl} {ad : zK → Nat} {P : zP} {S : zS} {X : zMem} {c : ClassId} {N : Nat} {F F' : Int → Int} : zup1 (mm Δ ad P S (zTm X c N F)) (90, 0, 0, 0) (some (.inl (c, N, .inl (zAi F')))) = mm Δ ad P S (zTm X c N F') := by
  rw [mm_up (by decide)]
  congr 1
  funext k
  show zup1 (zup1 X _ _) _ _ k = zup1 X _ _ k
  by_cases hk : k = (90, 0, 0, 0)
  · subst hk; rw [zup1_s, zup1_s]
  · rw [zup1_n _ _ hk, zup1_n _ _ hk, zup1_n _ _ hk]
section ZTMP
variable {Γ : zCx} {R : Room} {cc : ByteArray} {nL : Nat} {own : String} {ad : zK → Nat} {nc ns pc : Nat} {lv : List (Nat × Value)} {st : List Value} {P : zP} {S : zS} {X : zMem}
theorem G_drop {ad' : zK → Nat} {key : zK} {e : Option va_E} (hX : X key = none) (hk : ¬ key.1 < 80) (had : ∀ k, k ≠ key → ad' k = ad k) (kk : G Γ R cc nL own ad (mm (z_d Γ) ad P S X) nc ns pc lv st) : G Γ R cc nL own ad' (mm (z_d Γ) ad' P S (zup1 X key e)) nc ns pc lv st := by
  refine G_mono (fun k x h => ?_) kk
  have hne : k ≠ key := fun q => by
    subst q
    rw [mm_ge _ hk, hX] at h
    cases h
  refine ⟨?_, (had k hne).symm⟩
  rw [mm_ad (zad80 hk had), ← mm_up hk, zup1_n _ _ hne]
  exact h
theorem G_newI {N : Nat} {z : Int} {lvf : (zK → Nat) → List (Nat × Value)} {stf : (zK → Nat) → List Value} (hX : X (90, 0, 0, 0) = none) (hd : decode cc pc = .ok (.newarray .int, 2)) (hz : z = N) (hN : 0 ≤ z ∧ z ≤ 100000) (hR : nc + 1 ≤ R.cells ∧ ns + N ≤ R.slots)
    (hlf : ∀ ad' : zK → Nat, (∀ k, k ≠ (90, 0, 0, 0) → ad' k = ad k) → lvf ad = lvf ad' ∧ stf ad = stf ad')
    (kk : ∀ ad' : zK → Nat, (∀ k, k ≠ (90, 0, 0, 0) → ad' k = ad k) → G Γ R cc nL own ad' (mm (z_d Γ) ad' P S (zTm X ((z_d Γ).2.1 0) N (fun _ => 0))) (nc + 1) (ns + N) (pc + 2) (lvf ad') (.ref (ad' (90, 0, 0, 0)) :: stf ad')) : G Γ R cc nL own ad (mm (z_d Γ) ad P S X) nc ns pc (lvf ad) (.int (zI z) :: stf ad) := by
  refine G_newa (90, 0, 0, 0) (atype := .int) (t := 0) (a0 := (N, .inl (zAi (fun _ => 0)))) (zAW_of 485 (by decide +kernel) (by decide +kernel)) rfl (fun _ _ h => h) rfl hd ((mm_ge _ (by decide)).trans hX) (fun cA => rfl) hz ⟨by omega, by omega⟩ (by show N * 4 ≤ _; omega) hR (fun ad' had => ?_)
  have := kk ad' had
  rw [mm_ad (zad80 (by decide) had)] at this
  rw [mm_up (by decide), (hlf ad' had).1, (hlf ad' had).2]
  exact this
theorem G_newZ {N : Nat} {z : Int} {lvf : (zK → Nat) → List (Nat × Value)} {stf : (zK → Nat) → List Value} (hX : X (90, 0, 0, 0) = none) (hd : decode cc pc = .ok (.newarray .boolean, 2)) (hz : z = N) (hN : 0 ≤ z ∧ z ≤ 100000) (hR : nc + 1 ≤ R.cells ∧ ns + N ≤ R.slots)
    (hlf : ∀ ad' : zK → Nat, (∀ k, k ≠ (90, 0, 0, 0) → ad' k = ad k) → lvf ad = lvf ad' ∧ stf ad = stf ad')
    (kk : ∀ ad' : zK → Nat, (∀ k, k ≠ (90, 0, 0, 0) → ad' k = ad k) → G Γ R cc nL own ad' (mm (z_d Γ) ad' P S (zTm X ((z_d Γ).2.1 1) N (fun _ => 0))) (nc + 1) (ns + N) (pc + 2) (lvf ad') (.ref (ad' (90, 0, 0, 0)) :: stf ad')) : G Γ R cc nL own ad (mm (z_d Γ) ad P S X) nc ns pc (lvf ad) (.int (zI z) :: stf ad) := by
  refine G_newa (90, 0, 0, 0) (atype := .boolean) (t := 1) (a0 := (N, .inl (zAi (fun _ => 0)))) (zAW_of 514 (by decide +kernel) (by decide +kernel)) rfl (fun _ _ h => h) rfl hd ((mm_ge _ (by decide)).trans hX) (fun cA => rfl) hz ⟨by omega, by omega⟩ (by show N * 1 ≤ _; omega) hR (fun ad' had => ?_)
  have := kk ad' had
  rw [mm_ad (zad80 (by decide) had)] at this
  rw [mm_up (by decide), (hlf ad' had).1, (hlf ad' had).2]
  exact this
theorem G_tial {N : Nat} {F : Int → Int} {a : Int} (hd : decode cc pc = .ok (.iaload, 1)) (ha : 0 ≤ a ∧ a < N ∧ zR a) (kk : G Γ R cc nL own ad (mm (z_d Γ) ad P S (zTm X ((z_d Γ).2.1 0) N F)) nc ns (pc + 1) lv (.int (zI (F a)) :: st)) : G Γ R cc nL own ad (mm (z_d Γ) ad P S (zTm X ((z_d Γ).2.1 0) N F)) nc ns pc lv (.int (zI a) :: .ref (ad (90, 0, 0, 0)) :: st) := G_iald hd zTm_g ha kk
theorem G_tzal {N : Nat} {F : Int → Int} {a : Int} (hd : decode cc pc = .ok (.baload, 1)) (ha : 0 ≤ a ∧ a < N ∧ zR a) (kk : G Γ R cc nL own ad (mm (z_d Γ) ad P S (zTm X ((z_d Γ).2.1 1) N F)) nc ns (pc + 1) lv (.int (zI (F a)) :: st)) : G Γ R cc nL own ad (mm (z_d Γ) ad P S (zTm X ((z_d Γ).2.1 1) N F)) nc ns pc lv (.int (zI a) :: .ref (ad (90, 0, 0, 0)) :: st) := G_zald hd zTm_g ha kk
theorem G_tias {N : Nat} {F : Int → Int} {a v : Int} (hd : decode cc pc = .ok (.iastore, 1)) (ha : 0 ≤ a ∧ a < N ∧ zR a) (kk : ∀ F' : Int → Int, F' = zup F a v → G Γ R cc nL own ad (mm (z_d Γ) ad P S (zTm X ((z_d Γ).2.1 0) N F')) nc ns (pc + 1) lv st) : G Γ R cc nL own ad (mm (z_d Γ) ad P S (zTm X ((z_d Γ).2.1 0) N F)) nc ns pc lv (.int (zI v) :: .int (zI a) :: .ref (ad (90, 0, 0, 0)) :: st) := G_iast hd zTm_g ha zTm_p (kk _ rfl)
theorem G_tzas {N : Nat} {F : Int → Int} {a v : Int} (hd : decode cc pc = .ok (.bastore, 1)) (ha : 0 ≤ a ∧ a < N ∧ zR a) (hb : v = 0 ∨ v = 1) (kk : ∀ F' : Int → Int, F' = zup F a v → G Γ R cc nL own ad (mm (z_d Γ) ad P S (zTm X ((z_d Γ).2.1 1) N F')) nc ns (pc + 1) lv st) : G Γ R cc nL own ad (mm (z_d Γ) ad P S (zTm X ((z_d Γ).2.1 1) N F)) nc ns pc lv (.int (zI v) :: .int (zI a) :: .ref (ad (90, 0, 0, 0)) :: st) := G_zast hd zTm_g ha hb zTm_p (kk _ rfl)
theorem zH.two {Δ : zDl} {ad : zK → Nat} {M : zMem} {H : Heap} (h : zH Δ ad M H) {k0 k1 : zK} {e0 e1 : va_E} (h0 : M k0 = some e0) (h1 : M k1 = some e1) : va_P Δ.1 vwCl [(ad k0, e0), (ad k1, e1)] H := by
  intro j q hj
  match j with
  | 0 => cases hj; exact h.1 k0 e0 h0
  | 1 => cases hj; exact h.1 k1 e1 h1
  | j + 2 => cases hj
theorem zH.twoD {Δ : zDl} {ad : zK → Nat} {M : zMem} {H : Heap} (h : zH Δ ad M H) {A : Nat → Prop} (hA : ∀ k, M k ≠ none → A (ad k)) {k0 k1 : zK} {e0 e1 : va_E} (h0 : M k0 = some e0) (h1 : M k1 = some e1) (hne : k0 ≠ k1) : va_D A [(ad k0, e0), (ad k1, e1)] := by
  have n0 : M k0 ≠ none := by rw [h0]; exact fun q => by cases q
  have n1 : M k1 ≠ none := by rw [h1]; exact fun q => by cases q
  refine ⟨fun i j p q hi hj e => ?_, fun j q hj => ?_⟩
  · match i, j with
    | 0, 0 => rfl
    | 1, 1 => rfl
    | 0, 1 => cases hi; cases hj; exact absurd (h.2 k0 k1 n0 n1 e) hne
    | 1, 0 => cases hi; cases hj; exact absurd (h.2 k0 k1 n0 n1 e.symm) hne
    | 0, j + 2 => cases hj
    | 1, j + 2 => cases hj
    | i + 2, _ => cases hi
  · match j with
    | 0 => cases hj; exact hA k0 n0
    | 1 => cases hj; exact hA k1 n1
    | j + 2 => cases hj
theorem zH.mv {Δ : zDl} {ad : zK → Nat} {M : zMem} {H H1 : Heap} {k0 k1 : zK} {e0 e1 e1' : va_E} (h : zH Δ ad M H) (h0 : M k0 = some e0) (h1 : M k1 = some e1) (hP : va_P Δ.1 vwCl [(ad k0, e0), (ad k1, e1')] H1) (oq : ∀ q : Nat, q < H.size → q ≠ ad k1 → H1[q]? = H[q]?) : zH Δ ad (zup1 M k1 (some e1')) H1 := by
  have key : ∀ x, zup1 M k1 (some e1') x ≠ none → M x ≠ none := fun x hx => by
    by_cases hxk : x = k1
    · rw [hxk, h1]; exact fun q => by cases q
    · rwa [zup1_n _ _ hxk] at hx
  refine ⟨fun j x hj => ?_, fun j j' hj hj' e9 => h.2 j j' (key j hj) (key j' hj') e9⟩
  by_cases hjk : j = k1
  · subst hjk
    rw [zup1_s] at hj
    cases hj
    exact hP 1 _ rfl
  · rw [zup1_n _ _ hjk] at hj
    exact (h.1 j x hj).kept (oq _ (h.1 j x hj).lt fun z => hjk (h.2 j k1 (by rw [hj]; exact fun q => by cases q) (by rw [h1]; exact fun q => by cases q) z))
end ZTMP
