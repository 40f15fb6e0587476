/-! ===== the walk of the law from its entry ===== -/
set_option maxHeartbeats 4000000 in
set_option maxRecDepth 100000 in
/-- the walk of the law from its entry -/
theorem whole_start {p : Program} {e : Env} {s : State} {m : MethodId} {below : List Frame} {meth : Method} {c : Code} (l : Launch) (hflags : l.flags = flags0) {b L : Nat} {xs : Nat → Int32} (hL : L ≤ 260) (C0 : lw_At p s m meth c b L xs) : W p l e room_1 s m #[Value.ref b] below meth c s.heap [] 0 0 (lw_Z below #[Value.ref b] s) (entryFrame m ([Value.ref b] : List Value).toArray 21) := by
  obtain ⟨hx, hb, hr, hml, hown, hts, hX, hbl, hlocks, hgv⟩ := id C0
  have hst : l.stackTraces = false := by
    unfold Launch.stackTraces
    rw [hflags]
    decide
  have htA : ∀ w ∈ zAW, w.before #[Value.ref b] s = true := fun w hw => hts w (zAW_tbl hw)
  obtain ⟨z, hG⟩ := w_zGX hts hgv hX hbl
  have hNc := w_zNc hgv
  obtain ⟨c0, i0, k0⟩ := u_known (C := RJx4a65c) (T := TJx4a65c) (N := 3) (n := 3) htA in_Jx4a65c (hts (.instantiable RJx4a65c 3) (by decide +kernel))
  obtain ⟨c1, i1, k1⟩ := u_known (C := RX0) (T := TX0) (N := 2) (n := 2) htA in_X0 (hts (.instantiable RX0 2) (by decide +kernel))
  obtain ⟨c2, i2, k2⟩ := u_known (C := RX1) (T := TX1) (N := 2) (n := 2) htA in_X1 (hts (.instantiable RX1 2) (by decide +kernel))
  obtain ⟨c3, i3, k3⟩ := u_known (C := RX2) (T := TX2) (N := 6) (n := 6) htA in_X2 (hts (.instantiable RX2 6) (by decide +kernel))
  obtain ⟨c4, i4, k4⟩ := u_known (C := RX3) (T := TX3) (N := 2) (n := 2) htA in_X3 (hts (.instantiable RX3 2) (by decide +kernel))
  obtain ⟨c5, i5, k5⟩ := u_known (C := RX4) (T := TX4) (N := 7) (n := 7) htA in_X4 (hts (.instantiable RX4 7) (by decide +kernel))
  obtain ⟨c6, i6, k6⟩ := u_known (C := RX5) (T := TX5) (N := 4) (n := 4) htA in_X5 (hts (.instantiable RX5 4) (by decide +kernel))
  obtain ⟨c7, i7, k7⟩ := u_known (C := RX6) (T := TX6) (N := 9) (n := 9) htA in_X6 (hts (.instantiable RX6 9) (by decide +kernel))
  obtain ⟨c8, i8, k8⟩ := u_known (C := RX7) (T := TX7) (N := 22) (n := 22) htA in_X7 (hts (.instantiable RX7 22) (by decide +kernel))
  obtain ⟨dC, dI, hKc⟩ : ∃ (dC : Nat → ClassId) (dI : Nat → Nat → Nat), ∀ (k : Nat) (q : vw_C), vwCl[k]? = some q → u_Kn s q.1 q.2.1 q.2.2 (dC k) (dI k) := by
    refine ⟨fun k => if k = 0 then c0 else if k = 1 then c1 else if k = 2 then c2 else if k = 3 then c3 else if k = 4 then c4 else if k = 5 then c5 else if k = 6 then c6 else if k = 7 then c7 else c8, fun k => if k = 0 then i0 else if k = 1 then i1 else if k = 2 then i2 else if k = 3 then i3 else if k = 4 then i4 else if k = 5 then i5 else if k = 6 then i6 else if k = 7 then i7 else i8, ?_⟩
    intro k q hq
    match k, hq with
    | 0, hq => cases hq; exact k0
    | 1, hq => cases hq; exact k1
    | 2, hq => cases hq; exact k2
    | 3, hq => cases hq; exact k3
    | 4, hq => cases hq; exact k4
    | 5, hq => cases hq; exact k5
    | 6, hq => cases hq; exact k6
    | 7, hq => cases hq; exact k7
    | 8, hq => cases hq; exact k8
    | k + 9, hq => simp [vwCl] at hq
  obtain ⟨y0, g0⟩ := w_arrP (ty := .int) (hts (.arrayClass .int) (by decide +kernel)) (fun _ _ h => h)
  obtain ⟨y1, g1⟩ := w_arrP (ty := .boolean) (hts (.arrayClass .boolean) (by decide +kernel)) (fun _ _ h => h)
  obtain ⟨y2, g2⟩ := w_arrO (C := "TailraceBroker$Partition") (hts (.arrayOver (.object "TailraceBroker$Partition")) (by decide +kernel))
  obtain ⟨y3, g3⟩ := w_arrO (C := "TailraceBroker$Progress") (hts (.arrayOver (.object "TailraceBroker$Progress")) (by decide +kernel))
  obtain ⟨y4, g4⟩ := w_arrO (C := "java/lang/Object") (hts (.arrayOver (.object "java/lang/Object")) (by decide +kernel))
  obtain ⟨y5, g5⟩ := w_arrA (t := .int) (hts (.arrayOver (.array .int)) (by decide +kernel))
  obtain ⟨y6, g6⟩ := w_arrA (t := .array .int) (hts (.arrayOver (.array (.array .int))) (by decide +kernel))
  obtain ⟨y7, g7⟩ := w_arrA (t := .array (.array .int)) (hts (.arrayOver (.array (.array (.array .int)))) (by decide +kernel))
  obtain ⟨y8, g8⟩ := w_arrA (t := .boolean) (hts (.arrayOver (.array .boolean)) (by decide +kernel))
  obtain ⟨cy, hcy⟩ : ∃ cy : Nat → ClassId, ∀ (k : Nat) (q : ClassId × FieldType), (zT cy)[k]? = some q → ArrOfT s q.1 q.2 ∧ va_RA s q.1 q.2 := by
    refine ⟨fun k => if k = 0 then y0 else if k = 1 then y1 else if k = 2 then y2 else if k = 3 then y3 else if k = 4 then y4 else if k = 5 then y5 else if k = 6 then y6 else if k = 7 then y7 else y8, ?_⟩
    intro k q hq
    match k, hq with
    | 0, hq => cases hq; exact g0
    | 1, hq => cases hq; exact g1
    | 2, hq => cases hq; exact g2
    | 3, hq => cases hq; exact g3
    | 4, hq => cases hq; exact g4
    | 5, hq => cases hq; exact g5
    | 6, hq => cases hq; exact g6
    | 7, hq => cases hq; exact g7
    | 8, hq => cases hq; exact g8
    | k + 9, hq => simp [zT] at hq
  have hl := lv_entry ([.ref b]) (n := 21) (Nat.le_of_ble_eq_true rfl)
  rw [lg_entry_eq]
  generalize (lg_sl ([.ref b]) ++ List.replicate (21 - (lg_sl ([.ref b])).length) Slot.unset).toArray = ls at hl ⊢
  have hl : lv_has ls 21 [(0, .ref b)] := hl
  have key := law_body (Γ := ((l, ((dC, dI), cy, (z, (b, L, xs)))), (p, e, s, m, #[Value.ref b]), (below, meth, c, (fun q : Nat => s.heap.size ≤ q), lw_Z below #[Value.ref b] s))) hNc hst (by show L ≤ 3072; omega) (fun ad M nc ns lv h1 h2 => by
    intro C H locs ls' g1 g2 g3 g4
    refine W.widen h1 h2 ?_
    refine va_forget g3.2.2 ?_
    rw [show zI 1 = 1 from rfl]
    exact lw_ret (d0 := s.drawn) (Drawn.sameBut.refl s.drawn lw_cs) hx hb hr hlocks dL_law_1100) (fun _ => 0)
  exact key ⟨hx, hb, hml, hown, htA, hlocks, ⟨hKc, hcy⟩, hG, fun q h => h⟩ s.heap [] ls ⟨fun k e h => (by cases h), fun k k' h => absurd rfl h⟩ (fun k h => absurd rfl h) va_S.rf hl
