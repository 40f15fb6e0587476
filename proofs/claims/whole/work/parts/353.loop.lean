/-! ===== the law's loop ===== -/
section LOOP
variable {Γ : zCx} {R : Room} {cc : ByteArray} {nL : Nat} {own : String} {ad : zK → Nat} {M : zMem} {nc ns pc : Nat} {lv : List (Nat × Value)} {st : List Value}
theorem G_iandv {x y : Int32} (hd : decode cc pc = .ok (.iand, 1)) (kk : ∀ v : Int, zR v → G Γ R cc nL own ad M nc ns (pc + 1) lv (.int (zI v) :: st)) : G Γ R cc nL own ad M nc ns pc lv (.int y :: .int x :: st) := by
  intro C H locs ls h1 h2 h3 h4
  refine lv_iand C.1 C.2.1 hd ?_
  obtain ⟨v, hv, e⟩ := zI_of (x &&& y)
  rw [e]
  exact kk v hv C H locs ls h1 h2 h3 h4
theorem G_tblO {v dflt lo hi : Int} {offs : Array Int} {len : Nat} (tgt : Nat) (hd : decode cc pc = .ok (.tableswitch dflt lo hi offs, len)) (hv : zR v) (h : v < lo ∨ hi < v) (ht : (pc : Int) + dflt = (tgt : Int)) (kk : G Γ R cc nL own ad M nc ns tgt lv st) : G Γ R cc nL own ad M nc ns pc lv (.int (zI v) :: st) := fun C H locs ls h1 h2 h3 h4 =>
  lv_tableOut C.1 C.2.1 hd (by rw [zI_toInt hv]; exact h) ht (kk C H locs ls h1 h2 h3 h4)
theorem G_tblI {v dflt lo hi off : Int} {offs : Array Int} {len : Nat} (tgt : Nat) (hd : decode cc pc = .ok (.tableswitch dflt lo hi offs, len)) (hv : zR v) (hl : lo ≤ v ∧ v ≤ hi) (ho : offs[(v - lo).toNat]? = some off) (ht : (pc : Int) + off = (tgt : Int)) (kk : G Γ R cc nL own ad M nc ns tgt lv st) : G Γ R cc nL own ad M nc ns pc lv (.int (zI v) :: st) := fun C H locs ls h1 h2 h3 h4 =>
  lv_tableIn C.1 C.2.1 hd (by rw [zI_toInt hv]; omega) (by rw [zI_toInt hv]; omega) (by rw [zI_toInt hv]; exact ho) ht (kk C H locs ls h1 h2 h3 h4)
end LOOP
set_option maxHeartbeats 4000000 in
set_option maxRecDepth 100000 in
theorem law_loop {Γ : zCx} {b L : Nat} {xs : Nat → Int32} (hst : (z_l Γ).stackTraces = false) (hNc : zNc (z_s Γ)) (hX : zSc Γ b L xs) (hL : L ≤ 3072) (hEnd : ∀ (ad : zK → Nat) (M : zMem) (nc ns : Nat) (lv : List (Nat × Value)), nc ≤ 601024 → ns ≤ 7293034 → G Γ zRL cL_law 9 RL ad M nc ns 2569 lv [.int (zI 1)]) :
    ∀ (n : Nat) (P : zP) (T : zS) (i j : Int) (w : Int64) (wd : UInt64) (ad : zK → Nat) (nc ns : Nat), (i = 6 * j ∧ 0 ≤ j ∧ j ≤ 512) → xJ P T T → T (0, 0, 0, 0) 4 ≤ j → ((nc : Int) ≤ 1000 + 700 * j ∧ (ns : Int) ≤ 100000 + 7300 * j) → (513 - j).toNat < n → G Γ zRL cL_law 9 RL ad (mm (z_d Γ) ad P T (zXl (z_d Γ) w wd)) nc ns 28 (zLv ad b i) [] := by
  intro n
  induction n with
  | zero => intro P T i j w wd ad nc ns _ _ _ _ h; omega
  | succ n ih =>
    intro P T i j w wd ad nc ns hij hJ hj hcs hn
    obtain ⟨rfl, hj0, hj1⟩ := hij
    show G Γ zRL cL_law 9 RL ad (mm (z_d Γ) ad P T (zXl (z_d Γ) w wd)) nc ns 28 [(5, .int (zI (6 * j))), (0, .ref b), (1, .ref (ad (0, 0, 0, 0))), (2, .ref (ad (40, 0, 0, 0))), (3, .ref (ad (82, 0, 0, 0))), (4, .ref (ad (83, 0, 0, 0)))] []
    refine G_iload (pc := 28) 0 dL_law_28 rfl ?_
    refine G_aload_n (pc := 30) 0 1 dL_law_30 rfl rfl ?_
    refine G_slen (pc := 31) hX hL dL_law_31 ?_
    refine G_bipush (pc := 32) dL_law_32 (by decide) ?_
    refine G_isub (pc := 34) dL_law_34 ?_
    refine G_icmp_gt (pc := 35) 2568 dL_law_35 (by decide) ⟨by omega, by omega⟩ ⟨by omega, by omega⟩ (fun _ => ?_) (fun c35 => ?_)
    · refine G_iconst (pc := 2568) dL_law_2568 ?_
      exact hEnd _ _ _ _ _ (by omega) (by omega)
    have kn : zKn Γ b (6 * j) j nc ns ad := fun P2 T2 w2 wd2 ad2 hJ2 hj3 hk2 => by
      show G Γ zRL cL_law 9 RL ad2 _ _ _ 2562 [(5, .int (zI (6 * j))), (0, .ref b), (1, .ref (ad2 (0, 0, 0, 0))), (2, .ref (ad2 (40, 0, 0, 0))), (3, .ref (ad2 (82, 0, 0, 0))), (4, .ref (ad2 (83, 0, 0, 0)))] []
      refine G_iinc_e (pc := 2562) 0 (fun zw => [(5, .int (zI zw)), (0, .ref b), (1, .ref (ad2 (0, 0, 0, 0))), (2, .ref (ad2 (40, 0, 0, 0))), (3, .ref (ad2 (82, 0, 0, 0))), (4, .ref (ad2 (83, 0, 0, 0)))]) dL_law_2562 rfl (by decide) (fun _ => rfl) (fun v e => ?_)
      refine G_goto (pc := 2565) 28 dL_law_2565 (by decide) ?_
      exact ih P2 T2 v (j + 1) w2 wd2 ad2 _ _ ⟨by omega, by omega, by omega⟩ hJ2 hj3 ⟨by omega, by omega⟩ (by omega)
    have hc : nc + 700 ≤ 601024 ∧ ns + 7300 ≤ 7293034 := ⟨by omega, by omega⟩
    have hi : 0 ≤ 6 * j ∧ 6 * j + 6 ≤ (L : Int) ∧ L ≤ 3072 := ⟨by omega, by omega, hL⟩
    obtain ⟨p0, hp0, hx0⟩ := zI_of (xs (6 * j).toNat)
    obtain ⟨p1, hp1, hx1⟩ := zI_of (xs (6 * j + 1).toNat)
    obtain ⟨p2, hp2, hx2⟩ := zI_of (xs (6 * j + 2).toNat)
    obtain ⟨p3, hp3, hx3⟩ := zI_of (xs (6 * j + 3).toNat)
    obtain ⟨p4, hp4, hx4⟩ := zI_of (xs (6 * j + 4).toNat)
    obtain ⟨p5, hp5, hx5⟩ := zI_of (xs (6 * j + 5).toNat)
    refine G_aload_n (pc := 38) 0 1 dL_law_38 rfl rfl ?_
    refine G_iload (pc := 39) 0 dL_law_39 rfl ?_
    refine G_sld (pc := 41) (v := p0) hX dL_law_41 ⟨by omega, by omega, by omega, by omega⟩ hx0 ?_
    refine G_bipush (pc := 42) dL_law_42 (by decide) ?_
    refine G_iandv (pc := 44) dL_law_44 (fun v hv => ?_)
    by_cases hv36 : v < 0 ∨ 36 < v
    · refine G_tblO (pc := 45) 2562 dL_law_45 hv hv36 (by decide) ?_
      exact G_more (by omega) (by omega) (kn P T w wd ad hJ (by omega) zKp.rf)
    have hcases : v = 0 ∨ v = 1 ∨ v = 2 ∨ v = 3 ∨ v = 4 ∨ v = 5 ∨ v = 6 ∨ v = 7 ∨ v = 8 ∨ v = 9 ∨ v = 10 ∨ v = 11 ∨ v = 12 ∨ v = 13 ∨ v = 14 ∨ v = 15 ∨ v = 16 ∨ v = 17 ∨ v = 18 ∨ v = 19 ∨ v = 20 ∨ v = 21 ∨ v = 22 ∨ v = 23 ∨ v = 24 ∨ v = 25 ∨ v = 26 ∨ v = 27 ∨ v = 28 ∨ v = 29 ∨ v = 30 ∨ v = 31 ∨ v = 32 ∨ v = 33 ∨ v = 34 ∨ v = 35 ∨ v = 36 := by omega
    rcases hcases with rfl | rfl | rfl | rfl | rfl | rfl | rfl | rfl | rfl | rfl | rfl | rfl | rfl | rfl | rfl | rfl | rfl | rfl | rfl | rfl | rfl | rfl | rfl | rfl | rfl | rfl | rfl | rfl | rfl | rfl | rfl | rfl | rfl | rfl | rfl | rfl | rfl
    · exact G_tblI (pc := 45) 208 dL_law_45 hv ⟨by decide, by decide⟩ rfl (by decide) (w_0 hst hNc hX hi hc hp1 hx1 hp2 hx2 hJ hj hj1 kn)
    · exact G_tblI (pc := 45) 292 dL_law_45 hv ⟨by decide, by decide⟩ rfl (by decide) (w_1 hst hNc hX hi hc hp1 hx1 hp2 hx2 hp3 hx3 hp4 hx4 hp5 hx5 hJ hj hj1 kn)
    · exact G_tblI (pc := 45) 396 dL_law_45 hv ⟨by decide, by decide⟩ rfl (by decide) (w_2 hst hNc hX hi hc hp1 hx1 hJ hj hj1 kn)
    · exact G_tblI (pc := 45) 452 dL_law_45 hv ⟨by decide, by decide⟩ rfl (by decide) (w_3 hst hNc hX hi hc hp1 hx1 hp2 hx2 hJ hj hj1 kn)
    · exact G_tblI (pc := 45) 536 dL_law_45 hv ⟨by decide, by decide⟩ rfl (by decide) (w_4 hst hNc hX hi hc hp1 hx1 hp2 hx2 hJ hj hj1 kn)
    · exact G_tblI (pc := 45) 604 dL_law_45 hv ⟨by decide, by decide⟩ rfl (by decide) (w_5 hst hNc hX hi hc hp1 hx1 hJ hj hj1 kn)
    · exact G_tblI (pc := 45) 660 dL_law_45 hv ⟨by decide, by decide⟩ rfl (by decide) (w_6 hst hNc hX hi hc hp1 hx1 hJ hj hj1 kn)
    · exact G_tblI (pc := 45) 716 dL_law_45 hv ⟨by decide, by decide⟩ rfl (by decide) (w_7 hst hNc hX hi hc hp1 hx1 hp2 hx2 hJ hj hj1 kn)
    · exact G_tblI (pc := 45) 784 dL_law_45 hv ⟨by decide, by decide⟩ rfl (by decide) (w_8 (xs := xs) (L := L) hc hJ hj hj1 kn)
    · exact G_tblI (pc := 45) 797 dL_law_45 hv ⟨by decide, by decide⟩ rfl (by decide) (w_9 (xs := xs) (L := L) hc hJ hj hj1 kn)
    · exact G_tblI (pc := 45) 810 dL_law_45 hv ⟨by decide, by decide⟩ rfl (by decide) (w_10 hst hNc hX hi hc hp1 hx1 hp2 hx2 hJ hj hj1 kn)
    · exact G_tblI (pc := 45) 878 dL_law_45 hv ⟨by decide, by decide⟩ rfl (by decide) (w_11 hst hNc hX hi hc hp1 hx1 hp2 hx2 hJ hj hj1 kn)
    · exact G_tblI (pc := 45) 946 dL_law_45 hv ⟨by decide, by decide⟩ rfl (by decide) (w_12 hst hNc hX hi hc hp1 hx1 hp2 hx2 hJ hj hj1 kn)
    · exact G_tblI (pc := 45) 1014 dL_law_45 hv ⟨by decide, by decide⟩ rfl (by decide) (w_13 hst hNc hX hi hc hp1 hx1 hp2 hx2 hp3 hx3 hp4 hx4 hJ hj hj1 kn)
    · exact G_tblI (pc := 45) 1106 dL_law_45 hv ⟨by decide, by decide⟩ rfl (by decide) (w_14 hst hNc hX hi hc hp1 hx1 hJ hj hj1 kn)
    · exact G_tblI (pc := 45) 1162 dL_law_45 hv ⟨by decide, by decide⟩ rfl (by decide) (w_15 hst hNc hX hi hc hp1 hx1 hJ hj hj1 kn)
    · exact G_tblI (pc := 45) 1218 dL_law_45 hv ⟨by decide, by decide⟩ rfl (by decide) (w_16 hst hNc hX hi hc hp1 hx1 hp2 hx2 hp3 hx3 hJ hj hj1 kn)
    · exact G_tblI (pc := 45) 1321 dL_law_45 hv ⟨by decide, by decide⟩ rfl (by decide) (w_17 hst hNc hX hi hc hp1 hx1 hp2 hx2 hJ hj hj1 kn)
    · exact G_tblI (pc := 45) 1389 dL_law_45 hv ⟨by decide, by decide⟩ rfl (by decide) (w_18 hst hNc hX hi hc hp1 hx1 hp2 hx2 hp3 hx3 hJ hj hj1 kn)
    · exact G_tblI (pc := 45) 1469 dL_law_45 hv ⟨by decide, by decide⟩ rfl (by decide) (w_19 hst hNc hX hi hc hp1 hx1 hp2 hx2 hp3 hx3 hJ hj hj1 kn)
    · exact G_tblI (pc := 45) 1549 dL_law_45 hv ⟨by decide, by decide⟩ rfl (by decide) (w_20 hst hNc hX hi hc hp1 hx1 hp2 hx2 hp3 hx3 hJ hj hj1 kn)
    · exact G_tblI (pc := 45) 1629 dL_law_45 hv ⟨by decide, by decide⟩ rfl (by decide) (w_21 (xs := xs) (L := L) hc hJ hj hj1 kn)
    · exact G_tblI (pc := 45) 1642 dL_law_45 hv ⟨by decide, by decide⟩ rfl (by decide) (w_22 hst hNc hX hi hc hp1 hx1 hp2 hx2 hJ hj hj1 kn)
    · exact G_tblI (pc := 45) 1710 dL_law_45 hv ⟨by decide, by decide⟩ rfl (by decide) (w_23 hst hNc hX hi hc hp1 hx1 hp2 hx2 hJ hj hj1 kn)
    · exact G_tblI (pc := 45) 1778 dL_law_45 hv ⟨by decide, by decide⟩ rfl (by decide) (w_24 hst hNc hX hi hc hp1 hx1 hp2 hx2 hJ hj hj1 kn)
    · exact G_tblI (pc := 45) 1846 dL_law_45 hv ⟨by decide, by decide⟩ rfl (by decide) (w_25 hst hNc hX hi hc hp1 hx1 hp2 hx2 hp3 hx3 hJ hj hj1 kn)
    · exact G_tblI (pc := 45) 1926 dL_law_45 hv ⟨by decide, by decide⟩ rfl (by decide) (w_26 hst hNc hX hi hc hp1 hx1 hp2 hx2 hp3 hx3 hJ hj hj1 kn)
    · exact G_tblI (pc := 45) 2006 dL_law_45 hv ⟨by decide, by decide⟩ rfl (by decide) (w_27 hst hNc hX hi hc hp1 hx1 hp2 hx2 hJ hj hj1 kn)
    · exact G_tblI (pc := 45) 2074 dL_law_45 hv ⟨by decide, by decide⟩ rfl (by decide) (w_28 hst hNc hX hi hc hp1 hx1 hJ hj hj1 kn)
    · exact G_tblI (pc := 45) 2130 dL_law_45 hv ⟨by decide, by decide⟩ rfl (by decide) (w_29 hst hNc hX hi hc hp1 hx1 hJ hj hj1 kn)
    · exact G_tblI (pc := 45) 2207 dL_law_45 hv ⟨by decide, by decide⟩ rfl (by decide) (w_30 (xs := xs) (L := L) hc hJ hj hj1 kn)
    · exact G_tblI (pc := 45) 2220 dL_law_45 hv ⟨by decide, by decide⟩ rfl (by decide) (w_31 hst hNc hX hi hc hp1 hx1 hp2 hx2 hJ hj hj1 kn)
    · exact G_tblI (pc := 45) 2288 dL_law_45 hv ⟨by decide, by decide⟩ rfl (by decide) (w_32 hst hNc hX hi hc hp1 hx1 hp2 hx2 hJ hj hj1 kn)
    · exact G_tblI (pc := 45) 2356 dL_law_45 hv ⟨by decide, by decide⟩ rfl (by decide) (w_33 hst hNc hX hi hc hp1 hx1 hp2 hx2 hp3 hx3 hJ hj hj1 kn)
    · exact G_tblI (pc := 45) 2436 dL_law_45 hv ⟨by decide, by decide⟩ rfl (by decide) (w_34 hst hNc hX hi hc hp1 hx1 hJ hj hj1 kn)
    · exact G_tblI (pc := 45) 2492 dL_law_45 hv ⟨by decide, by decide⟩ rfl (by decide) (w_35 hst hNc hX hi hc hp1 hx1 hJ hj hj1 kn)
    · exact G_tblI (pc := 45) 2548 dL_law_45 hv ⟨by decide, by decide⟩ rfl (by decide) (w_36 (xs := xs) (L := L) hc hJ hj hj1 kn)
