/-! ===== the law's body: rules ===== -/
abbrev zRW : Room := { frames := 14, cells := 600086, slots := 7301442, locals := 540 }
def zdq (V : zS) (t p o : Int) : Int := if V (14, t, p, o) 5 = 0 then 0 else 1
theorem zdq_sp {V : zS} {t p o : Int} : zdq V t p o = 0 ∧ V (14, t, p, o) 5 = 0 ∨ zdq V t p o = 1 ∧ ¬ V (14, t, p, o) 5 = 0 := by
  unfold zdq
  by_cases c : V (14, t, p, o) 5 = 0
  · exact Or.inl ⟨if_pos c, c⟩
  · exact Or.inr ⟨if_neg c, c⟩
/-- the law's own array -/
def zA6 (Δ : zDl) (F : Int → Int) : zMem := zup1 z00 (230, 0, 0, 0) (some (.inl (Δ.2.1 0, 6, .inl (zAi F))))
section LAWM
variable {Δ : zDl} {ad : zK → Nat} {P : zP} {V : zS} {A : zMem} {F F' : Int → Int}
theorem wq {k : zK} {e : va_E} (h : Nat.ble 80 k.1 = true) (hp : pm Δ ad P V A k = some e) : mm Δ ad P V (pm Δ ad P V A) k = some e := (mm_ge _ (Nat.not_lt.mpr (Nat.le_of_ble_eq_true h))).trans hp
theorem zA6_g : mm Δ ad P V (pm Δ ad P V (zA6 Δ F)) (230, 0, 0, 0) = some (.inl (Δ.2.1 0, 6, .inl (zAi F))) := (mm_ge _ (by decide)).trans ((pm_out _ (by decide)).trans (zup1_s _ _ _))
theorem zA6_p : zup1 (mm Δ ad P V (pm Δ ad P V (zA6 Δ F))) (230, 0, 0, 0) (some (.inl (Δ.2.1 0, 6, .inl (zAi F')))) = mm Δ ad P V (pm Δ ad P V (zA6 Δ F')) := by
  rw [mm_up (by decide), pm_up (by decide)]
  congr 1
  congr 1
  funext k
  unfold zA6
  by_cases h : k = (230, 0, 0, 0)
  · subst h
    rw [zup1_s, zup1_s]
  · rw [zup1_n _ _ h, zup1_n _ _ h, zup1_n _ _ h]
end LAWM
section LAWR
variable {Γ : zCx} {R : Room} {cc : ByteArray} {nL : Nat} {own : String} {ad : zK → Nat} {M : zMem} {nc ns pc : Nat} {lv : List (Nat × Value)} {st : List Value} {P : zP} {V : zS} {X : zMem}
/-- a question -/
theorem G_q {idx n maxL : Nat} {y : MethodName} {b : ByteArray} {As rest : List Value} {x : Int} (hw : zCV own idx RX6 y b maxL (some .int) n) (hd : decode cc pc = .ok (.invokevirtual idx, 3)) (hm : zMn (z_l Γ) (z_d Γ) y b maxL (some .int) 9 0 0 (.ref (ad (0, 0, 0, 0)) :: As) ad (mm (z_d Γ) ad P V X) (zD (some (.int (zI x))) ad (mm (z_d Γ) ad P V X))) (hn : As.length = n) (hst : st = As.reverse ++ .ref (ad (0, 0, 0, 0)) :: rest) (hro : (rest.map fun v => v.category).sum ≤ 8) (hmL : maxL ≤ 20) (hR : nc ≤ 600086 ∧ ns ≤ 7301442)
    (kk : G Γ zRW cc nL own ad (mm (z_d Γ) ad P V X) nc ns (pc + 3) lv (.int (zI x) :: rest)) : G Γ zRW cc nL own ad (mm (z_d Γ) ad P V X) nc ns pc lv st :=
  G_callVd hw hd mg_0 rfl hm hn hst hro ⟨⟨by show 9 + 1 ≤ 14; omega, by show 8 + (maxL + 11) + 38 * 9 ≤ 540; omega⟩, hR.1, hR.2⟩ kk
theorem G_ez {x : Int} (d0 : decode cc pc = .ok (.ifCond .ne 7, 3)) (d3 : decode cc (pc + 3) = .ok (.iconst 1, 1)) (d4 : decode cc (pc + 3 + 1) = .ok (.goto 4, 3)) (d7 : decode cc (pc + 7) = .ok (.iconst 0, 1)) (hx : zR x) (kk : ∀ v : Int, (v = 1 ∧ x = 0 ∨ v = 0 ∧ ¬ x = 0) → G Γ R cc nL own ad M nc ns (pc + 8) lv (.int (zI v) :: st)) : G Γ R cc nL own ad M nc ns pc lv (.int (zI x) :: st) :=
  G_if_ne (pc + 7) d0 (by omega) hx (fun c => G_iconst d7 (kk 0 (Or.inr ⟨rfl, c⟩))) (fun c => G_iconst d3 (G_goto (pc + 8) d4 (by omega) (kk 1 (Or.inl ⟨rfl, c⟩))))
theorem G_ez2 {x : Int} (d0 : decode cc pc = .ok (.ifCond .ne 7, 3)) (d3 : decode cc (pc + 3) = .ok (.iconst 0, 1)) (d4 : decode cc (pc + 3 + 1) = .ok (.goto 4, 3)) (d7 : decode cc (pc + 7) = .ok (.iconst 1, 1)) (hx : zR x) (kk : ∀ v : Int, (v = 0 ∧ x = 0 ∨ v = 1 ∧ ¬ x = 0) → G Γ R cc nL own ad M nc ns (pc + 8) lv (.int (zI v) :: st)) : G Γ R cc nL own ad M nc ns pc lv (.int (zI x) :: st) :=
  G_if_ne (pc + 7) d0 (by omega) hx (fun c => G_iconst d7 (kk 1 (Or.inr ⟨rfl, c⟩))) (fun c => G_iconst d3 (G_goto (pc + 8) d4 (by omega) (kk 0 (Or.inl ⟨rfl, c⟩))))
theorem G_nzb {x : Int} (d0 : decode cc pc = .ok (.ifCond .eq 7, 3)) (d3 : decode cc (pc + 3) = .ok (.iconst 1, 1)) (d4 : decode cc (pc + 3 + 1) = .ok (.goto 4, 3)) (d7 : decode cc (pc + 7) = .ok (.iconst 0, 1)) (hx : zR x) (kk : ∀ v : Int, (v = 0 ∧ x = 0 ∨ v = 1 ∧ ¬ x = 0) → G Γ R cc nL own ad M nc ns (pc + 8) lv (.int (zI v) :: st)) : G Γ R cc nL own ad M nc ns pc lv (.int (zI x) :: st) :=
  G_if_eq (pc + 7) d0 (by omega) hx (fun c => G_iconst d7 (kk 0 (Or.inl ⟨rfl, c⟩))) (fun c => G_iconst d3 (G_goto (pc + 8) d4 (by omega) (kk 1 (Or.inr ⟨rfl, c⟩))))
theorem G_lz {x : Int} (d0 : decode cc pc = .ok (.ifCond .ge 7, 3)) (d3 : decode cc (pc + 3) = .ok (.iconst 1, 1)) (d4 : decode cc (pc + 3 + 1) = .ok (.goto 4, 3)) (d7 : decode cc (pc + 7) = .ok (.iconst 0, 1)) (hx : zR x) (kk : ∀ v : Int, (v = 1 ∧ x < 0 ∨ v = 0 ∧ ¬ x < 0) → G Γ R cc nL own ad M nc ns (pc + 8) lv (.int (zI v) :: st)) : G Γ R cc nL own ad M nc ns pc lv (.int (zI x) :: st) :=
  G_if_ge (pc + 7) d0 (by omega) hx (fun c => G_iconst d7 (kk 0 (Or.inr ⟨rfl, by omega⟩))) (fun c => G_iconst d3 (G_goto (pc + 8) d4 (by omega) (kk 1 (Or.inl ⟨rfl, by omega⟩))))
theorem G_eqb {x y : Int} (d0 : decode cc pc = .ok (.if_icmp .ne 7, 3)) (d3 : decode cc (pc + 3) = .ok (.iconst 1, 1)) (d4 : decode cc (pc + 3 + 1) = .ok (.goto 4, 3)) (d7 : decode cc (pc + 7) = .ok (.iconst 0, 1)) (hx : zR x) (hy : zR y) (kk : ∀ v : Int, (v = 1 ∧ x = y ∨ v = 0 ∧ ¬ x = y) → G Γ R cc nL own ad M nc ns (pc + 8) lv (.int (zI v) :: st)) : G Γ R cc nL own ad M nc ns pc lv (.int (zI y) :: .int (zI x) :: st) :=
  G_icmp_ne (pc + 7) d0 (by omega) hx hy (fun c => G_iconst d7 (kk 0 (Or.inr ⟨rfl, c⟩))) (fun c => G_iconst d3 (G_goto (pc + 8) d4 (by omega) (kk 1 (Or.inl ⟨rfl, c⟩))))
theorem G_lcmpE {y : Int64} (hd : decode cc pc = .ok (.lcmp, 1)) (kk : G Γ R cc nL own ad M nc ns (pc + 1) lv (.int (zI 0) :: st)) : G Γ R cc nL own ad M nc ns pc lv (.long y :: .long y :: st) := by
  refine G_lcmp hd ?_
  have e : lg_cmp y y = zI 0 := by
    unfold lg_cmp
    rw [if_neg (fun q => by simp at q), if_pos rfl]
    rfl
  rw [e]
  exact kk
theorem G_dcmpl {x y : UInt64} (hd : decode cc pc = .ok (.dcmp .l, 1)) (kk : ∀ v : Int, zR v → Op.cmpValue (FP.dcmp x y) .l = zI v → G Γ R cc nL own ad M nc ns (pc + 1) lv (.int (zI v) :: st)) : G Γ R cc nL own ad M nc ns pc lv (.double y :: .double x :: st) := by
  intro C H locs ls h1 h2 h3 h4
  refine lv_dcmp C.1 C.2.1 hd ?_
  obtain ⟨v, hv, e⟩ := zI_of (Op.cmpValue (FP.dcmp x y) .l)
  rw [e]
  exact kk v hv e C H locs ls h1 h2 h3 h4
theorem G_ldc2d {idx : Nat} {z : UInt64} (hw : Cond.constantDouble own idx z ∈ zAW) (hd : decode cc pc = .ok (.ldc2_w idx, 3)) (kk : G Γ R cc nL own ad M nc ns (pc + 3) lv (.double z :: st)) : G Γ R cc nL own ad M nc ns pc lv st := fun C H locs ls h1 h2 h3 h4 => lv_ldc2d C.1 C.2.1 C.2.2.2.1 (C.2.2.2.2.1 _ hw) hd (kk C H locs ls h1 h2 h3 h4)
theorem cd_98 : Cond.constantDouble RL 98 4613937818241073152 ∈ zAW := zAW_of 1054 (by decide +kernel) (by decide +kernel)
theorem G_more {k n : Nat} (h1 : nc ≤ k) (h2 : ns ≤ n) (kk : G Γ R cc nL own ad M k n pc lv st) : G Γ R cc nL own ad M nc ns pc lv st := fun C H locs ls g1 g2 g3 g4 => W.widen h1 h2 (kk C H locs ls g1 g2 g3 g4)
end LAWR
