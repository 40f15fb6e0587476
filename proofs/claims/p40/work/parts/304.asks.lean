/-! ===== what a reader is given; the next time ===== -/
theorem zsN_in' {S : zS} {g c p a b : Int} : ∀ (n : Nat) (r s k : Int), ¬ zsN S g c p a b n r s k = -1 → zin S g (zsN S g c p a b n r s k) c := by
  intro n
  induction n with
  | zero => intro r s k h; exact absurd rfl h
  | succ n ih =>
    intro r s k h
    by_cases hz : zin S g r c
    · rw [zsN_in n hz rfl] at h ⊢
      generalize s + (if k < b then a + 1 else a) = s2 at h ⊢
      by_cases hp : p < s2
      · rw [if_pos hp]
        exact hz
      · rw [if_neg hp] at h ⊢
        exact ih _ _ _ h
    · rw [zsN_out n hz] at h ⊢
      exact ih _ _ _ h
theorem zsr_in {P : zP} {S : zS} {g p c : Int} (h : ¬ zsr P S g p c = -1) : zin S g (zsr P S g p c) c := by
  unfold zsr at h ⊢
  split at h
  · exact absurd rfl h
  · next h0 =>
    rw [if_neg h0]
    exact zsN_in' _ _ _ _ h
section RAK
variable {P : zP} {S M : zS}
theorem r_wn (hA : rA S M) (hC : rC P S M) (hF : rF P S M) (hG : rG P S M) (hH : rH P S M) (h1 : s1 P S) (h4 : s4 P S) (hV : zWM P M) (hW : zWS P S) (hP : zWP P) {g r : Int} (hg : inG P g) (hr : 0 ≤ r ∧ r < 6) : mwn P M g r = znp P S g r (S (0, 0, 0, 0) 6) := by
  have hq := hV.q
  have hT := hV.qg hg
  have hn := hV.qt hT
  have hgr := hG g r hg hr.1 hr.2
  have hgv := fun p hp => r_gv hA hC hF hH h1 hV hW hP (p := p) hg hp
  have hzl := fun p (hp : inQ P g p) => zno_le hP hW hg hp (x := S (0, 0, 0, 0) 6)
  have e0 : ∀ p, inQ P g p → (mgv P M g p = -1 ↔ zno P S g p (S (0, 0, 0, 0) 6) = -1) := fun p hp => by
    rw [hgv p hp]
    by_cases hz : zno P S g p (S (0, 0, 0, 0) 6) = -1
    · rw [if_pos hz]; exact ⟨fun _ => hz, fun _ => rfl⟩
    · rw [if_neg hz]
      have h9 := hzl p hp
      have hc := (hC (P 4 g 0) p (zno P S g p (S (0, 0, 0, 0) 6)) hT hp ⟨by omega, by omega⟩).1
      exact ⟨fun q => by omega, fun q => absurd q hz⟩
  have e1 : fi (mgq P M g r) 0 (P 1 (P 4 g 0) 0) = fi (fun p => S (18, g, p, 0) 4 = r ∧ ¬ zno P S g p (S (0, 0, 0, 0) 6) = -1) 0 (P 1 (P 4 g 0) 0) := by
    refine fi_congr (by omega) (fun p g1 g2 => ?_)
    show M (67, 0, 0, 0) (g * 4 + p) = r ∧ ¬ mgv P M g p = -1 ↔ _
    rw [(hF g p hg ⟨g1, g2⟩).2.2, e0 p ⟨g1, g2⟩]
  obtain ⟨f1, f2, f3, f4⟩ := fi_spec (Q := fun p => S (18, g, p, 0) 4 = r ∧ ¬ zno P S g p (S (0, 0, 0, 0) 6) = -1) _ 0 (P 1 (P 4 g 0) 0) (by omega) rfl
  unfold mwn mgt znp
  rw [e1, hgr.1]
  by_cases hc : fi (fun p => S (18, g, p, 0) 4 = r ∧ ¬ zno P S g p (S (0, 0, 0, 0) 6) = -1) 0 (P 1 (P 4 g 0) 0) < P 1 (P 4 g 0) 0
  · rw [if_pos hc, if_pos hc]
    generalize fi (fun p => S (18, g, p, 0) 4 = r ∧ ¬ zno P S g p (S (0, 0, 0, 0) 6) = -1) 0 (P 1 (P 4 g 0) 0) = p at f1 f2 f3 f4 hc ⊢
    obtain ⟨k1, k2⟩ := f4 hc
    have hp : inQ P g p := ⟨f1, hc⟩
    have hin : ¬ S (17, g, 0, 0) r = 0 := fun q => by
      have h5 := h4 g p hg hp
      have h6 := zsr_in (P := P) (S := S) (g := g) (p := p) (c := -1) (by rw [← h5, k1]; omega)
      rw [← h5, k1] at h6
      exact h6 (by rw [q, if_neg (by omega)])
    have h9 := hzl p hp
    obtain ⟨c1, c2, c3, -⟩ := hC (P 4 g 0) p (zno P S g p (S (0, 0, 0, 0) 6)) hT hp ⟨by omega, by omega⟩
    rw [if_neg hin, hgv p hp, if_neg k2, if_neg (by omega)]
    unfold mtd
    rw [c2, c3]
    omega
  · rw [if_neg hc, if_neg hc]
    split
    · rfl
    · rw [if_pos rfl]
theorem r_nn (hA : rA S M) (hC : rC P S M) (hF : rF P S M) (hH : rH P S M) (h1 : s1 P S) (hE : rE P M) (hV : zWM P M) (hW : zWS P S) {g : Int} (hg : inG P g) : mnn P M g = lp (zng P S g (S (0, 0, 0, 0) 6) (S (0, 0, 0, 0) 8)) 0 (P 1 (P 4 g 0) 0) (-1) := by
  have hT := hV.qg hg
  have hqt := hV.qt hT
  have hf1 := hV.f1
  have hf3 := hV.f3
  have hq := hV.q
  have ev : ∀ m, 0 ≤ mnv M g m := fun m => by
    have := hV.b71 (g * 80 + m)
    unfold mnv
    split <;> omega
  have a1 : mnn P M g = fo zer (-1) (fun m => if mnq P M g m then mnv M g m else -1) 0 (M (40, 0, 0, 0) 11) := by
    unfold mnn fo
    congr 1
    funext m b
    unfold mnt
    dsimp only
    by_cases hm : mnq P M g m
    · rw [if_pos hm, if_pos hm]
      unfold zer
      have := ev m
      by_cases hb : b = -1
      · rw [if_pos hb, if_pos hb]
      · rw [if_neg hb, if_neg hb, if_neg (by omega)]
    · rw [if_neg hm, if_neg hm, zcm_er.2.2]
  have a2 : lp (zng P S g (S (0, 0, 0, 0) 6) (S (0, 0, 0, 0) 8)) 0 (P 1 (P 4 g 0) 0) (-1) = fo zer (-1) (znt P S g (S (0, 0, 0, 0) 6) (S (0, 0, 0, 0) 8)) 0 (P 1 (P 4 g 0) 0) := rfl
  rw [a1, a2, hE zer (-1) zcm_er, fo3_t zcm_er hT (fun t' p o g1 g2 g3 g4 => ?_)]
  · refine fo_cg (fun p g1 g2 => ?_)
    have hp : inQ P g p := ⟨g1, g2⟩
    have h5 := hW.m hg hp
    have b1 : znt P S g (S (0, 0, 0, 0) 6) (S (0, 0, 0, 0) 8) p = fo zer (-1) (fun o => if S (19, g, p, 0) o = 2 then max (S (21, g, p, 0) o) (S (0, 0, 0, 0) 6) else if S (19, g, p, 0) o = 1 then max (S (21, g, p, 0) o + S (0, 0, 0, 0) 8) (S (0, 0, 0, 0) 6 + 1) else -1) (S (18, g, p, 0) 5) (P 2 (P 4 g 0) p) := by
      unfold znt fo
      congr 1
      funext o n
      unfold zntf
      dsimp only
      by_cases e2 : S (19, g, p, 0) o = 2
      · rw [if_pos e2, if_pos e2]
      · rw [if_neg e2, if_neg e2]
        by_cases e3 : S (19, g, p, 0) o = 1
        · rw [if_pos e3, if_pos e3]
        · rw [if_neg e3, if_neg e3, zcm_er.2.2]
    rw [b1, fo_drop zcm_er _ 0 (S (18, g, p, 0) 5) _ rfl (by omega) h5.1.2 (fun o k1 k2 => ?_)]
    · refine fo_cg (fun o k1 k2 => ?_)
      obtain ⟨c1, c2, c3, -⟩ := hC (P 4 g 0) p o hT hp ⟨by omega, k2⟩
      obtain ⟨d1, d2, d3⟩ := hH g p o hg hp ⟨by omega, k2⟩
      rw [if_neg (h1 g p o hg hp ⟨by omega, k2⟩)] at d1
      have hmq : mnq P M g (mi M (P 4 g 0) p o) ↔ (S (19, g, p, 0) o = 2 ∨ S (19, g, p, 0) o = 1) := by
        unfold mnq
        rw [c2, c3, d1, show (P 4 g 0 * 4 + p) % 4 = p by omega, (hF g p hg hp).1]
        exact ⟨fun q => q.2, fun q => ⟨⟨by omega, by omega⟩, q⟩⟩
      have hmv : mnv M g (mi M (P 4 g 0) p o) = if S (19, g, p, 0) o = 2 then max (S (0, 0, 0, 0) 6) (S (21, g, p, 0) o) else max (S (0, 0, 0, 0) 6 + 1) (S (21, g, p, 0) o + S (0, 0, 0, 0) 8) := by
        unfold mnv
        rw [d1, d3, hA.1, hA.2.2.1]
      show (if mnq P M g (mi M (P 4 g 0) p o) then mnv M g (mi M (P 4 g 0) p o) else -1) = _
      by_cases e2 : S (19, g, p, 0) o = 2
      · rw [if_pos (hmq.mpr (Or.inl e2)), hmv, if_pos e2, if_pos e2]
        omega
      · by_cases e3 : S (19, g, p, 0) o = 1
        · rw [if_pos (hmq.mpr (Or.inr e3)), hmv, if_neg e2, if_neg e2, if_pos e3]
          omega
        · rw [if_neg (fun q => (hmq.mp q).elim e2 e3), if_neg e2, if_neg e3]
    · obtain ⟨c1, c2, c3, -⟩ := hC (P 4 g 0) p o hT hp ⟨by omega, by omega⟩
      refine if_neg (fun q => ?_)
      have h9 := q.1.2
      rw [c2, c3, show (P 4 g 0 * 4 + p) % 4 = p by omega, (hF g p hg hp).1] at h9
      omega
  · obtain ⟨c1, c2, -⟩ := hC t' p o g1 g3 g4
    have hqt' := hV.qt g1
    refine if_neg (fun q => ?_)
    have h9 := q.1.1
    rw [c2] at h9
    omega
end RAK
