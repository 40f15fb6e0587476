/-! ===== which kinds of cells a step writes ===== -/
/-- T differs from S in cells of the kinds in K alone -/
def zfr (K : Nat → Bool) (S T : zS) : Prop := ∀ k f, K k.1 = false → T k f = S k f
theorem zfr.rf {K : Nat → Bool} {S : zS} : zfr K S S := fun _ _ _ => rfl
theorem zfr.tr {K : Nat → Bool} {S T U : zS} (h : zfr K S T) (h2 : zfr K T U) : zfr K S U := fun k f hk => (h2 k f hk).trans (h k f hk)
theorem zfr.st {K : Nat → Bool} {S T : zS} (h : zfr K S T) {n : Nat} {i j o f v : Int} (hn : K n = true) : zfr K S (zst T (n, i, j, o) f v) := fun k f' hk => by
  rw [zst_k _ _ _ _ (fun e => by rw [e] at hk; exact absurd (hn.symm.trans hk) (by decide))]
  exact h k f' hk
theorem lpN_fr {K : Nat → Bool} {f : Int → zS → zS} (hf : ∀ o s, zfr K s (f o s)) : ∀ (n : Nat) (a : Int) (s : zS), zfr K s (lpN f n a s) := by
  intro n
  induction n with
  | zero => exact fun a s => zfr.rf
  | succ n ih => exact fun a s => (hf a s).tr (ih _ _)
theorem lp_fr {K : Nat → Bool} {f : Int → zS → zS} (hf : ∀ o s, zfr K s (f o s)) {a n : Int} {s : zS} : zfr K s (lp f a n s) := lpN_fr hf _ _ _
theorem lpN_fr2 {K : Nat → Bool} {f : Int → zS × Int → zS × Int} (hf : ∀ o s, zfr K s.1 (f o s).1) : ∀ (n : Nat) (a : Int) (s : zS × Int), zfr K s.1 (lpN f n a s).1 := by
  intro n
  induction n with
  | zero => exact fun a s => zfr.rf
  | succ n ih => exact fun a s => (hf a s).tr (ih _ _)
theorem lp_fr2 {K : Nat → Bool} {f : Int → zS × Int → zS × Int} (hf : ∀ o s, zfr K s.1 (f o s).1) {a n : Int} {s : zS × Int} : zfr K s.1 (lp f a n s).1 := lpN_fr2 hf _ _ _
section ZFR
variable {K : Nat → Bool} {P : zP} {S : zS}
theorem zfg_fr (h19 : K 19 = true) (h20 : K 20 = true) {g p o : Int} : zfr K S (zfg S g p o) := (zfr.rf.st h19).st h20
theorem zmk_fr (h18 : K 18 = true) {g p : Int} : ∀ (n : Nat) (S : zS), zfr K S (zmk P g p n S) := by
  intro n
  induction n with
  | zero => exact fun S => zfr.rf
  | succ n ih =>
    intro S
    by_cases hc : zmc P g p S
    · rw [zmk_go n hc]
      exact (zfr.rf.st h18).tr (ih _)
    · rw [zmk_stop _ hc]
      exact zfr.rf
theorem zku_fr (h18 : K 18 = true) (h19 : K 19 = true) (h20 : K 20 = true) {g p : Int} : zfr K S (zku P S g p) := by
  refine ((lp_fr fun o s => ?_).tr (zmk_fr h18 _ _)).st h18
  unfold zk1
  split
  · exact zfg_fr h19 h20
  · exact zfr.rf
theorem zkG_fr (h18 : K 18 = true) (h19 : K 19 = true) (h20 : K 20 = true) {g : Int} : zfr K S (zkG P g S) := lp_fr fun p s => zku_fr h18 h19 h20
theorem zkA_fr (h18 : K 18 = true) (h19 : K 19 = true) (h20 : K 20 = true) : zfr K S (zkA P S) := lp_fr fun g s => zkG_fr h18 h19 h20
theorem zht_fr (h18 : K 18 = true) (h19 : K 19 = true) (h20 : K 20 = true) {g p x : Int} : zfr K S (zht P S g p x) := by
  unfold zht
  split
  · exact zfr.rf
  · refine ((zfr.rf.st h18).tr (lp_fr fun o s => ?_)).st h18
    unfold zh1
    split
    · exact zfg_fr h19 h20
    · exact zfr.rf
theorem zmv_fr (h18 : K 18 = true) (h19 : K 19 = true) (h20 : K 20 = true) {g p o : Int} : zfr K S (zmv P S g p o) := by
  refine ((zfr.tr (lp_fr fun o s => ?_) (lp_fr fun o s => zfg_fr h19 h20)).st h18).st h18
  unfold zm1
  split
  · exact zfg_fr h19 h20
  · exact zfr.rf
theorem zgv_fr (h18 : K 18 = true) (h19 : K 19 = true) (h20 : K 20 = true) (h21 : K 21 = true) {g p o x : Int} : zfr K S (zgv S g p o x) := by
  refine ((zfr.st ?_ h19).st h20).st h21
  unfold zg0
  split
  · exact zfr.rf.st h18
  · exact zfr.rf
theorem zgb_fr (h19 : K 19 = true) (h21 : K 21 = true) {g p o x y : Int} : zfr K S (zgb S g p o x y) := by
  unfold zgb
  split
  · exact zfr.rf.st h19
  · exact (zfr.rf.st h19).st h21
theorem zlw_fr (h1 : K 1 = true) (h2 : K 2 = true) {a b c d e : Int} : zfr K S (zlw S a b c d e) := by
  unfold zlw
  split
  · exact zfr.rf
  · exact (((((zfr.rf.st h2).st h2).st h2).st h2).st h2).st h1
theorem zB_fr (h1 : K 1 = true) (h2 : K 2 = true) (h19 : K 19 = true) (h21 : K 21 = true) {g p o : Int} : zfr K S (zB S g p o) := by
  unfold zB
  split
  · exact ((zgb_fr h19 h21).tr (zlw_fr h1 h2)).tr (zlw_fr h1 h2)
  · exact (zgb_fr h19 h21).tr (zlw_fr h1 h2)
theorem zsp_fr (h14 : K 14 = true) {t p x y o : Int} {s : zS × Int} : zfr K s.1 (zsp t p x y o s).1 := by
  unfold zsp
  split
  · exact zfr.rf.st h14
  · exact zfr.rf
theorem zdr_fr (h14 : K 14 = true) {t p e o : Int} {s : zS × Int} : zfr K s.1 (zdr t p e o s).1 := by
  unfold zdr
  split
  · exact zfr.rf.st h14
  · exact zfr.rf
theorem zdo_fr (h11 : K 11 = true) (h14 : K 14 = true) {t p x y : Int} : ∀ (n : Nat) (S : zS), zfr K S (zdo P t p x y n S) := by
  intro n
  induction n with
  | zero => exact fun S => zfr.rf
  | succ n ih =>
    intro S
    by_cases hc : zdc P t p x y S
    · rw [zdo_go n hc]
      exact ((zfr.rf.st h14).st h11).tr (ih _)
    · rw [zdo_stop _ hc]
      exact zfr.rf
theorem zts_fr (h14 : K 14 = true) {t x y p : Int} {s : zS × Int} : zfr K s.1 (zts P t x y p s).1 := lp_fr2 (s := (s.1, 0)) fun o s => zsp_fr h14
theorem zse1_fr (h14 : K 14 = true) {t x y : Int} {s : zS × Int} : zfr K s.1 (zse1 P x y t s).1 := lp_fr2 (s := (s.1, 0)) fun o s => zts_fr h14
theorem ztr_fr (h14 : K 14 = true) {t p : Int} {s : zS × Int} : zfr K s.1 (ztr P t p s).1 := lp_fr2 (s := (s.1, 0)) fun o s => zdr_fr h14
theorem zv1_fr (h1 : K 1 = true) (h2 : K 2 = true) (h19 : K 19 = true) (h21 : K 21 = true) {g p o : Int} {s : zS × Int} : zfr K s.1 (zv1 g p o s).1 := by
  unfold zv1
  split
  · exact zB_fr h1 h2 h19 h21
  · exact zfr.rf
theorem zv2_fr (h1 : K 1 = true) (h2 : K 2 = true) (h19 : K 19 = true) (h21 : K 21 = true) {g p : Int} {s : zS × Int} : zfr K s.1 (zv2 P g p s).1 := lp_fr2 fun o s => zv1_fr h1 h2 h19 h21
theorem zv3_fr (h1 : K 1 = true) (h2 : K 2 = true) (h19 : K 19 = true) (h21 : K 21 = true) {g : Int} {s : zS × Int} : zfr K s.1 (zv3 P g s).1 := lp_fr2 (s := (s.1, 0)) fun o s => zv2_fr h1 h2 h19 h21
theorem zv4_fr (h11 : K 11 = true) (h14 : K 14 = true) {x t : Int} : zfr K S (zv4 P x t S) := by
  unfold zv4
  split
  · exact zfr.rf
  · exact lp_fr fun p s => zdo_fr h11 h14 _ _
theorem zsf_fr (h18 : K 18 = true) (h19 : K 19 = true) (h20 : K 20 = true) {g p : Int} : zfr K S (zsf P g p S) := zht_fr h18 h19 h20
end ZFR
section ZLST
variable {Γ : zCx} {R : Room} {cc : ByteArray} {nL : Nat} {own : String} {ad : zK → Nat} {M : zMem} {nc ns pc : Nat} {lv : List (Nat × Value)} {st : List Value}
theorem G_lstore_e {i : Nat} {z : Int} (lv' : Int → List (Nat × Value)) (hd : decode cc pc = .ok (.lstore i, 2)) (hn : i + 1 < nL) (hl : ∀ z, (i, Value.long (zL z)) :: lv.filter (fun q => !(q.1 == i) && (!(q.1 == i + 1) && !(q.1 + 1 == i && q.2.category == 2))) = lv' z) (kk : ∀ w : Int, w = z → G Γ R cc nL own ad M nc ns (pc + 2) (lv' w) st) : G Γ R cc nL own ad M nc ns pc lv (.long (zL z) :: st) :=
  G_lstore (lv' z) hd hn (hl z) (kk z rfl)
end ZLST
