/-! ===== shifts by 0 and 1; throws ===== -/
theorem zshl0 (y : Int) : zI y <<< (zI 0 &&& 31) = zI y := by rw [zI_0]; exact sb_shl0 _
theorem zshl1 (y : Int) : zI y <<< (zI 1 &&& 31) = zI (y + y) := by
  rw [← zI_add]
  apply Int32.toBitVec_inj.1
  apply BitVec.eq_of_toNat_eq
  rw [pk_shl _ _ 1 (by decide), Int32.toBitVec_add, BitVec.toNat_add]
  congr 1
  omega
/-- y shifted by s: 0 or 1 -/
def zsh (y s : Int) : Int := if s = 0 then y else y + y
theorem zH.kept {Δ : zDl} {ad : zK → Nat} {M : zMem} {H H1 : Heap} (h : zH Δ ad M H) (hq : ∀ q : Nat, q < H.size → H1[q]? = H[q]?) : zH Δ ad M H1 := ⟨fun k e hk => (h.1 k e hk).kept (hq _ (h.1 k e hk).lt), h.2⟩
def zNm : List String := ["java/lang/RuntimeException", "java/lang/Exception"]
/-- the words of a throw -/
def zTw (own : String) (ik ic : Nat) (cls : String) : Prop := Bundle.fit cls = true ∧ Cond.classLink own ik cls ∈ zAW ∧ Cond.initialized cls ∈ zAW ∧ (∀ w ∈ vx_atS own ic cls zNm, w ∈ zAW ∨ w ∈ zNW) ∧ (∀ w ∈ Cond.classLink own ik cls :: Cond.initialized cls :: vx_atS own ic cls zNm, vx_ot w = true)
section ZTHR
variable {Γ : zCx} {R : Room} {cc : ByteArray} {nL : Nat} {own : String} {ad : zK → Nat} {M : zMem} {nc ns pc : Nat} {lv : List (Nat × Value)} {st : List Value}
theorem G_ishl {y s : Int} (hd : decode cc pc = .ok (.ishl, 1)) (hs : s = 0 ∨ s = 1) (kk : G Γ R cc nL own ad M nc ns (pc + 1) lv (.int (zI (zsh y s)) :: st)) : G Γ R cc nL own ad M nc ns pc lv (.int (zI s) :: .int (zI y) :: st) := fun C H locs ls h1 h2 h3 h4 =>
  lv_ishl C.1 C.2.1 hd (by
    have e : zI y <<< (zI s &&& 31) = zI (zsh y s) := by
      rcases hs with rfl | rfl
      · exact zshl0 y
      · exact zshl1 y
    rw [e]
    exact kk C H locs ls h1 h2 h3 h4)
theorem zthrow_xc {px : zPx} {cls : String} {H : Heap} {locs : List Loc} (h1 : zH (z_d Γ) ad M H) (h2 : ∀ k, M k ≠ none → z_A Γ (ad k)) (h3 : va_S (z_A Γ) (z_s Γ).heap H locs) (hp : px cls ad M) : ∀ t : State, (z_s Γ).vm.Alike t.vm → H.size ≤ t.heap.size → (∀ q : Nat, q < H.size → t.heap[q]? = H[q]?) → zXc (z_d Γ) (z_A Γ) px cls (z_s Γ) t := fun t _ hz hq =>
  ⟨⟨ad, M, hp, h1.kept hq, h2⟩, Nat.le_trans h3.1 hz, fun q g1 g2 => (hq q (Nat.lt_of_lt_of_le g1 h3.1)).trans (h3.2.1 q g1 g2)⟩
theorem G_throwW {cls text : String} {ik is ic mc ms : Nat} {px : zPx} (hX : zFx Γ px mc ms) (hw : zTw own ik ic cls) (ho : own = "TailraceBroker") (hs : (is, text) ∈ zStr)
    (d0 : decode cc pc = .ok (.new ik, 3)) (d3 : decode cc (pc + 3) = .ok (.dup, 1)) (d4 : decode cc (pc + 4) = .ok (.ldc_w is, 3)) (d7 : decode cc (pc + 7) = .ok (.invokespecial ic, 3)) (d10 : decode cc (pc + 10) = .ok (.athrow, 1))
    (hR : (5 < R.frames ∧ (st.map fun v => v.category).sum + 82 ≤ R.locals) ∧ nc + 1 ≤ R.cells ∧ ns + 6 ≤ R.slots) (hb : nc + 1 ≤ mc ∧ ns + 6 ≤ ms) (hp : px cls ad M) : G Γ R cc nL own ad M nc ns pc lv st := by
  intro C H locs ls h1 h2 h3 h4
  obtain ⟨hexec, hbb, hml, hown, hts, hlk, hK, hG, hA⟩ := id C
  obtain ⟨hx, hl, Qc, hQ⟩ := hX
  obtain ⟨w1, w2, w3, w4, w5⟩ := hw
  obtain ⟨hU, hN, -, -, hSt, hNw, -⟩ := id hG
  subst ho
  obtain ⟨sa, hsa⟩ := hSt _ hs
  unfold zWW
  rw [hQ]
  exact vx_throwSW (names := zNm) hexec hbb hl hown w1 (by decide) (hts _ w2) (hts _ w3) hsa (fun w h => (w4 w h).elim (fun g => hts _ g) (fun g => va_Nw.use (zNW_tab g) (hNw w g))) w5 hU hN h3 (h4.1.trans hml.symm) d0 d3 d4 d7 d10 (fun x h => (hx x h).elim) hR.1.1 hR.1.2 hR.2.1 hR.2.2 hlk (zthrow_xc h1 h2 h3 hp) h3.2.2 hb.1 hb.2
theorem G_throw {cls text : String} {ik is ic mc ms : Nat} {px : zPx} (hX : zFx Γ px mc ms) (hw : zTw own ik ic cls) (ho : own = "TailraceBroker") (hs : (is, text) ∈ zStr)
    (d0 : decode cc pc = .ok (.new ik, 3)) (d3 : decode cc (pc + 3) = .ok (.dup, 1)) (d4 : decode cc (pc + 4) = .ok (.ldc is, 2)) (d6 : decode cc (pc + 6) = .ok (.invokespecial ic, 3)) (d9 : decode cc (pc + 9) = .ok (.athrow, 1))
    (hR : (5 < R.frames ∧ (st.map fun v => v.category).sum + 82 ≤ R.locals) ∧ nc + 1 ≤ R.cells ∧ ns + 6 ≤ R.slots) (hb : nc + 1 ≤ mc ∧ ns + 6 ≤ ms) (hp : px cls ad M) : G Γ R cc nL own ad M nc ns pc lv st := by
  intro C H locs ls h1 h2 h3 h4
  obtain ⟨hexec, hbb, hml, hown, hts, hlk, hK, hG, hA⟩ := id C
  obtain ⟨hx, hl, Qc, hQ⟩ := hX
  obtain ⟨w1, w2, w3, w4, w5⟩ := hw
  obtain ⟨hU, hN, -, -, hSt, hNw, -⟩ := id hG
  subst ho
  obtain ⟨sa, hsa⟩ := hSt _ hs
  unfold zWW
  rw [hQ]
  exact vx_throwS (names := zNm) hexec hbb hl hown w1 (by decide) (hts _ w2) (hts _ w3) hsa (fun w h => (w4 w h).elim (fun g => hts _ g) (fun g => va_Nw.use (zNW_tab g) (hNw w g))) w5 hU hN h3 (h4.1.trans hml.symm) d0 d3 d4 d6 d9 (fun x h => (hx x h).elim) hR.1.1 hR.1.2 hR.2.1 hR.2.2 hlk (zthrow_xc h1 h2 h3 hp) h3.2.2 hb.1 hb.2
end ZTHR
theorem tw_272 : zTw RX6 268 272 "java/lang/IndexOutOfBoundsException" := ⟨by decide, zAW_of 48 (by decide +kernel) (by decide +kernel), zAW_of 18 (by decide +kernel) (by decide +kernel), by decide +kernel, by decide +kernel⟩
theorem tw_54 : zTw RX6 50 54 "java/lang/IllegalArgumentException" := ⟨by decide, zAW_of 174 (by decide +kernel) (by decide +kernel), zAW_of 11 (by decide +kernel) (by decide +kernel), by decide +kernel, by decide +kernel⟩
theorem tw_65 : zTw RX6 61 65 "java/lang/IllegalStateException" := ⟨by decide, zAW_of 225 (by decide +kernel) (by decide +kernel), zAW_of 12 (by decide +kernel) (by decide +kernel), by decide +kernel, by decide +kernel⟩
