/-! ===== the model's questions answer as the class's ===== -/
section RRD
variable {P : zP} {S M : zS}
theorem r_se (hC : rC P S M) (hV : zWM P M) {t p : Int} (ht : inT P t) (hp : inP P t p) : mEn M (t * 4 + p) = zse P S t p := by
  unfold mEn zse
  rw [hV.en ht hp]
  refine fi_congr (hV.qm ht hp).1 (fun o h1 h2 => ?_)
  have h := (hC t p o ht hp ⟨h1, h2⟩).2.2.2.2.2.2.1
  show mS M (mi M t p o) = 2 ↔ S (14, t, p, o) 4 = 2
  rw [h]
theorem fo3_cg {op : Int → Int → Int} {e : Int} {f g : Int → Int → Int → Int} (h : ∀ t p o, inT P t → inP P t p → inM P t p o → f t p o = g t p o) : fo3 op e P f = fo3 op e P g := by
  unfold fo3
  refine fo_cg (fun t h1 h2 => fo_cg (fun p h3 h4 => fo_cg (fun o h5 h6 => h t p o ⟨h1, h2⟩ ⟨h3, h4⟩ ⟨h5, h6⟩)))
/-- one topic's messages alone count -/
theorem fo3_t {op : Int → Int → Int} {e : Int} (hm : zcm op e) {f : Int → Int → Int → Int} {t : Int} (ht : inT P t) (h : ∀ t' p o, inT P t' → ¬ t' = t → inP P t' p → inM P t' p o → f t' p o = e) : fo3 op e P f = fo op e (fun p => fo op e (f t p) 0 (P 2 t p)) 0 (P 1 t 0) := by
  unfold fo3
  refine fo_one (f := fun t => fo op e (fun p => fo op e (f t p) 0 (P 2 t p)) 0 (P 1 t 0)) hm _ _ _ rfl ht.1 ht.2 (fun t' h1 h2 h3 => ?_)
  exact fo_e hm _ _ _ rfl (fun p h4 h5 => fo_e hm _ _ _ rfl (fun o h6 h7 => h t' p o ⟨h1, h2⟩ h3 ⟨h4, h5⟩ ⟨h6, h7⟩))
theorem sm_E (hE : rE P M) {f : Int → Int} : sm f 0 (M (40, 0, 0, 0) 11) = fo3 (fun a b => a + b) 0 P (fun t p o => f (mi M t p o)) := by
  rw [sm_fo _ _ _ rfl]
  exact hE _ _ zcm_add f
theorem sm2_fo {f : Int → Int → Int} {n : Int} {N : Int → Int} : sm (fun p => sm (f p) 0 (N p)) 0 n = fo (fun a b => a + b) 0 (fun p => fo (fun a b => a + b) 0 (f p) 0 (N p)) 0 n := by
  rw [sm_fo _ _ _ rfl]
  exact fo_cg (fun p _ _ => sm_fo _ _ _ rfl)
theorem r_kn (hC : rC P S M) (hE : rE P M) (hV : zWM P M) {t : Int} (ht : inT P t) : mkn M t = sm (fun p => ztk P S t p) 0 (P 1 t 0) := by
  unfold mkn ztk
  rw [sm_E hE, sm2_fo]
  have hq := hV.q
  rw [fo3_t zcm_add ht (fun t' p o h1 h2 h3 h4 => ?_)]
  · refine fo_cg (fun p h1 h2 => fo_cg (fun o h3 h4 => ?_))
    obtain ⟨c1, c2, c3, c4, c5, c6, c7, c8⟩ := hC t p o ht ⟨h1, h2⟩ ⟨h3, h4⟩
    have hqt := hV.qt ht
    show (if mkq M t (mi M t p o) then (1 : Int) else 0) = if zkp S t p o then 1 else 0
    have : mkq M t (mi M t p o) ↔ zkp S t p o := by
      unfold mkq zkp
      rw [c2, c7, c8]
      exact ⟨fun h => h.2, fun h => ⟨by omega, h⟩⟩
    by_cases hz : zkp S t p o
    · rw [if_pos hz, if_pos (this.mpr hz)]
    · rw [if_neg hz, if_neg (fun q => hz (this.mp q))]
  · have c2 := (hC t' p o h1 h3 h4).2.1
    have hqt := hV.qt h1
    exact if_neg (fun q => h2 (by have := q.1; rw [c2] at this; omega))
/-- what a group counts -/
theorem r_co (hH : rH P S M) (h1 : s1 P S) (hI : rI P M) (hE : rE P M) (hV : zWM P M) {g x : Int} (hg : inG P g) (hx : ¬ x = 0) : mco M g x = sm (fun p => zco P S g x p) 0 (P 1 (P 4 g 0) 0) := by
  unfold mco zco
  rw [sm_E hE, sm2_fo, fo3_t zcm_add (hV.qg hg) (fun t' p o g1 g2 g3 g4 => ?_)]
  · refine fo_cg (fun p g1 g2 => fo_cg (fun o g3 g4 => ?_))
    have h := (hH g p o hg ⟨g1, g2⟩ ⟨g3, g4⟩).1
    rw [if_neg (h1 g p o hg ⟨g1, g2⟩ ⟨g3, g4⟩)] at h
    show (if M (69, 0, 0, 0) (g * 80 + mi M (P 4 g 0) p o) = x then (1 : Int) else 0) = _
    rw [h]
  · have h := hI g t' p o hg g1 g2 g3 g4
    show (if M (69, 0, 0, 0) (g * 80 + mi M t' p o) = x then (1 : Int) else 0) = 0
    rw [h]
    exact if_neg (fun q => hx q.symm)
theorem r_su (hH : rH P S M) (h1 : s1 P S) (hI : rI P M) (hE : rE P M) (hV : zWM P M) {g : Int} (hg : inG P g) : msu M g = sm (fun p => zsu P S g p) 0 (P 1 (P 4 g 0) 0) := by
  unfold msu zsu
  rw [sm_E hE, sm2_fo, fo3_t zcm_add (hV.qg hg) (fun t' p o g1 g2 g3 g4 => ?_)]
  · refine fo_cg (fun p g1 g2 => fo_cg (fun o g3 g4 => ?_))
    obtain ⟨a1, a2, -⟩ := hH g p o hg ⟨g1, g2⟩ ⟨g3, g4⟩
    rw [if_neg (h1 g p o hg ⟨g1, g2⟩ ⟨g3, g4⟩)] at a1 a2
    show (if M (69, 0, 0, 0) (g * 80 + mi M (P 4 g 0) p o) = 3 then M (70, 0, 0, 0) (g * 80 + mi M (P 4 g 0) p o) else 0) = _
    rw [a1, a2]
  · have h := hI g t' p o hg g1 g2 g3 g4
    show (if M (69, 0, 0, 0) (g * 80 + mi M t' p o) = 3 then M (70, 0, 0, 0) (g * 80 + mi M t' p o) else 0) = 0
    rw [h]
    rfl
theorem r_lg (hC : rC P S M) (hF : rF P S M) (hH : rH P S M) (h1 : s1 P S) (hV : zWM P M) {g p : Int} (hg : inG P g) (hp : inQ P g p) : mlg P M g p = sm (fun o => if zkp S (P 4 g 0) p o ∧ ¬ jt S g p o then 1 else 0) (S (18, g, p, 0) 5) (zse P S (P 4 g 0) p) := by
  unfold mlg
  have hG := hV.qg hg
  rw [r_se hC hV hG hp, (hF g p hg hp).1]
  have hb := hV.b65 (g * 4 + p)
  rw [(hF g p hg hp).1] at hb
  have hm := hV.qm hG hp
  have he : 0 ≤ zse P S (P 4 g 0) p ∧ zse P S (P 4 g 0) p ≤ P 2 (P 4 g 0) p := fi_le hm.1
  refine sm_congr _ _ _ rfl (fun o g1 g2 => ?_)
  obtain ⟨c1, c2, c3, c4, c5, c6, c7, c8⟩ := hC (P 4 g 0) p o hG hp ⟨by omega, by omega⟩
  have h := (hH g p o hg hp ⟨by omega, by omega⟩).1
  rw [if_neg (h1 g p o hg hp ⟨by omega, by omega⟩)] at h
  have : mlq P M g p o ↔ (zkp S (P 4 g 0) p o ∧ ¬ jt S g p o) := by
    show ((mS M (mi M (P 4 g 0) p o) = 0 ∧ M (58, 0, 0, 0) (mi M (P 4 g 0) p o) = 0) ∧ ¬ M (69, 0, 0, 0) (g * 80 + mi M (P 4 g 0) p o) = 3 ∧ ¬ M (69, 0, 0, 0) (g * 80 + mi M (P 4 g 0) p o) = 4) ↔ _
    rw [c7, c8, h]
    constructor
    · exact fun q => ⟨q.1, fun z => z.elim q.2.1 q.2.2⟩
    · exact fun q => ⟨q.1, fun z => q.2 (Or.inl z), fun z => q.2 (Or.inr z)⟩
  by_cases hz : zkp S (P 4 g 0) p o ∧ ¬ jt S g p o
  · rw [if_pos hz, if_pos (this.mpr hz)]
  · rw [if_neg hz, if_neg (fun q => hz (this.mp q))]
/-- what a partition gives -/
theorem r_gv (hA : rA S M) (hC : rC P S M) (hF : rF P S M) (hH : rH P S M) (h1 : s1 P S) (hV : zWM P M) (hW : zWS P S) (hP : zWP P) {g p : Int} (hg : inG P g) (hp : inQ P g p) : mgv P M g p = if zno P S g p (S (0, 0, 0, 0) 6) = -1 then -1 else mi M (P 4 g 0) p (zno P S g p (S (0, 0, 0, 0) 6)) := by
  have hG := hV.qg hg
  have hm := hV.qm hG hp
  have h5 := hW.m hg hp
  have he := zse_le hP (S := S) hG hp
  have e1 : fi (mg1 P M g p) (S (18, g, p, 0) 5) (P 2 (P 4 g 0) p) = fi (fun o => S (19, g, p, 0) o = 2 ∧ S (21, g, p, 0) o ≤ S (0, 0, 0, 0) 6) (S (18, g, p, 0) 5) (P 2 (P 4 g 0) p) := by
    refine fi_congr h5.1.2 (fun o g1 g2 => ?_)
    obtain ⟨a1, a2, a3⟩ := hH g p o hg hp ⟨by omega, by omega⟩
    rw [if_neg (h1 g p o hg hp ⟨by omega, by omega⟩)] at a1
    show M (69, 0, 0, 0) (g * 80 + mi M (P 4 g 0) p o) = 2 ∧ M (71, 0, 0, 0) (g * 80 + mi M (P 4 g 0) p o) ≤ M (40, 0, 0, 0) 1 ↔ _
    rw [a1, a3, hA.1]
  have e2 : fi (mg2 P M g p) (S (18, g, p, 0) 6) (zse P S (P 4 g 0) p) = fi (fun o => S (19, g, p, 0) o = 0 ∧ zkp S (P 4 g 0) p o) (S (18, g, p, 0) 6) (zse P S (P 4 g 0) p) := by
    by_cases hc : S (18, g, p, 0) 6 ≤ zse P S (P 4 g 0) p
    · refine fi_congr hc (fun o g1 g2 => ?_)
      obtain ⟨c1, c2, c3, c4, c5, c6, c7, c8⟩ := hC (P 4 g 0) p o hG hp ⟨by omega, by omega⟩
      obtain ⟨a1, -⟩ := hH g p o hg hp ⟨by omega, by omega⟩
      rw [if_neg (h1 g p o hg hp ⟨by omega, by omega⟩)] at a1
      show (mS M (mi M (P 4 g 0) p o) = 0 ∧ M (58, 0, 0, 0) (mi M (P 4 g 0) p o) = 0) ∧ M (69, 0, 0, 0) (g * 80 + mi M (P 4 g 0) p o) = 0 ↔ _
      rw [c7, c8, a1]
      exact ⟨fun q => ⟨q.2, q.1⟩, fun q => ⟨q.2, q.1⟩⟩
    · rw [fi_end (by omega), fi_end (by omega)]
  have f5 := (hF g p hg hp).1
  have f6 := (hF g p hg hp).2.1
  unfold mgv zno
  rw [f5, f6, r_se hC hV hG hp, e1, e2]
  have hle := fi_le (Q := fun o => S (19, g, p, 0) o = 2 ∧ S (21, g, p, 0) o ≤ S (0, 0, 0, 0) 6) h5.1.2
  by_cases hz : fi (fun o => S (19, g, p, 0) o = 2 ∧ S (21, g, p, 0) o ≤ S (0, 0, 0, 0) 6) (S (18, g, p, 0) 5) (P 2 (P 4 g 0) p) < P 2 (P 4 g 0) p
  · rw [if_pos hz, if_pos hz, if_neg (by omega)]
  · rw [if_neg hz, if_neg hz]
    by_cases hy : fi (fun o => S (19, g, p, 0) o = 0 ∧ zkp S (P 4 g 0) p o) (S (18, g, p, 0) 6) (zse P S (P 4 g 0) p) < zse P S (P 4 g 0) p
    · rw [if_pos hy, if_pos hy]
      have : 0 ≤ fi (fun o => S (19, g, p, 0) o = 0 ∧ zkp S (P 4 g 0) p o) (S (18, g, p, 0) 6) (zse P S (P 4 g 0) p) := by
        by_cases hc : S (18, g, p, 0) 6 ≤ zse P S (P 4 g 0) p
        · have := (fi_le (Q := fun o => S (19, g, p, 0) o = 0 ∧ zkp S (P 4 g 0) p o) hc).1
          omega
        · rw [fi_end (by omega)]
          omega
      rw [if_neg (by omega)]
    · rw [if_neg hy, if_neg hy, if_pos rfl]
end RRD
