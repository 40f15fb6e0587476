/-! ===== the Pier's acts: act ===== -/
section ZACT
variable {Q : zP} {V D : zS} {m : Int}
theorem zDr.X {Δ : zDl} {ad : zK → Nat} (h : zDr Q V D m) : mm Δ ad Q V z00 = mm Δ ad Q D z00 := (mm_cg (fun k f hk => h.2.2 k f (fun q => by rw [q] at hk; exact absurd hk (by show ¬ 200 < 80; decide)))).symm
theorem zAct_up {Δ : zDl} {ad ad' : zK → Nat} {n N : Int} {v : Option Value} {M' : zMem} (h : zDr Q V D m) (hn : n + m ≤ N) (ha : zAct Δ ad Q D n v ad' M') : zAct Δ ad Q V N v ad' M' := by
  obtain ⟨hJ, h2, h3⟩ := h
  obtain ⟨e, P', V', hA, hM, hJ', a1, a2, a3, a4, a5⟩ := ha
  rw [h3 (0, 0, 0, 0) 4 (by simp)] at a2
  rw [h3 (0, 0, 0, 0) 6 (by simp)] at a3
  rw [h3 (1, 0, 0, 0) 1 (by simp)] at a4
  exact ⟨e, P', V', hA, hM, hJ', by omega, a2, a3, a4, a5⟩
end ZACT
section ZGAC
variable {Γ : zCx} {R : Room} {cc : ByteArray} {nL : Nat} {ad : zK → Nat} {nc ns pc : Nat} {lv : List (Nat × Value)} {Q : zP} {V D : zS} {X : zMem} {n m : Int} {d mc ms idx maxL : Nat} {y : MethodName} {b : ByteArray}
theorem G_act (hw : zCV RX7 idx RX7 y b maxL (some .boolean) 0) (hd : decode cc pc = .ok (.invokevirtual idx, 3)) (h : zDr Q V D m) (hn : n + m ≤ 1020) (hm : zMn (z_l Γ) (z_d Γ) y b maxL (some .boolean) d mc ms [.ref (ad (200, 0, 0, 0))] ad (pm (z_d Γ) ad Q D X) (zAct (z_d Γ) ad Q D n)) (hR : zRo R d mc ms maxL nc ns)
    (kk : ∀ ad' M', zAct (z_d Γ) ad Q V 1020 (some (.int (zI 1))) ad' M' → G Γ R cc nL RX7 ad' M' (nc + mc) (ns + ms) (pc + 3) lv [.int (zI 1)]) : G Γ R cc nL RX7 ad (pm (z_d Γ) ad Q D X) nc ns pc lv [.ref (ad (200, 0, 0, 0))] := by
  refine G_callV (pc := pc) hw hd pg_200 rfl hm rfl rfl (Nat.le_of_ble_eq_true rfl) hR (fun v ad' M' ha => ?_)
  have e := ha.1
  subst e
  exact kk ad' M' (zAct_up h hn ha)
theorem G_actH (hNc : zNc (z_s Γ)) (hd : decode cc pc = .ok (.invokevirtual 224, 3)) (h : zDr Q V D m) (hn : 1000 + m ≤ 1020) (hX : X = mm (z_d Γ) ad Q D z00) (hL : (z_d Γ).2.2.2.2.1 ≤ 3072) (hD : D (200, 0, 0, 0) 2 ≤ 930000) (h0 : 1 ≤ Q 0 0 0) (hst : (z_l Γ).stackTraces = false) (hR : zRo R 11 4 260 11 nc ns)
    (kk : ∀ ad' M', zAct (z_d Γ) ad Q V 1020 (some (.int (zI 1))) ad' M' → G Γ R cc nL RX7 ad' M' (nc + 4) (ns + 260) (pc + 3) lv [.int (zI 1)]) : G Γ R cc nL RX7 ad (pm (z_d Γ) ad Q D X) nc ns pc lv [.ref (ad (200, 0, 0, 0))] := by
  refine G_callHV (pc := pc) hNc hk_X7_224 hd pg_200 rfl (c_X7_send h.1 hX hL hD h0 hst) rfl rfl (Nat.le_of_ble_eq_true rfl) hR (fun v ad' M' ha => ?_)
  have e := ha.1
  subst e
  exact kk ad' M' (zAct_up h hn ha)
end ZGAC
set_option maxHeartbeats 4000000 in
set_option maxRecDepth 100000 in
theorem c_X7_act {l : Launch} {Δ : zDl} {ad : zK → Nat} {Q : zP} {V : zS} {X : zMem} (hJ : zJ Q V) (hX : X = mm Δ ad Q V z00) (hL : Δ.2.2.2.2.1 ≤ 3072) (hD : V (200, 0, 0, 0) 2 ≤ 920000) (h4 : V (0, 0, 0, 0) 4 ≤ 190) (h6 : V (0, 0, 0, 0) 6 ≤ 9900) (h0 : 1 ≤ Q 0 0 0) (h3 : 1 ≤ Q 3 0 0) (hst : l.stackTraces = false) : zMc l Δ yX7_act cX7_act 1 (some .boolean) 12 3000 55000 [.ref (ad (200, 0, 0, 0))] ad (pm Δ ad Q V X) (zAct Δ ad Q V 1020) := by
  refine zMc_of (by decide) (Nat.le_of_ble_eq_true rfl) (fun Γ hl hΔ hF hNc => ?_)
  subst hl hΔ hX
  show G Γ _ _ _ RX7 _ _ _ _ _ [(0, .ref (ad (200, 0, 0, 0)))] []
  -- what each act needs, behind m draws
  have wd : ∀ {D : zS} {m : Int}, zDr Q V D m → m ≤ 10 → D (200, 0, 0, 0) 2 ≤ 930000 ∧ D (0, 0, 0, 0) 4 ≤ 190 ∧ D (0, 0, 0, 0) 6 ≤ 9900 := fun {D m} h hm => ⟨by have := h.2.1; omega, by rw [h.2.2 _ _ (by simp)]; exact h4, by rw [h.2.2 _ _ (by simp)]; exact h6⟩
  refine G_aload_n (pc := 0) 0 0 dX7_act_0 rfl rfl ?_
  refine G_bipush (pc := 1) dX7_act_1 (by decide) ?_
  refine G_drw (pc := 3) dX7_act_3 (zDr_0 hJ) (by omega) hL ⟨by omega, by omega⟩ (Nat.le_of_ble_eq_true rfl) ⟨⟨Nat.le_of_ble_eq_true rfl, Nat.le_of_ble_eq_true rfl⟩, Nat.le_of_ble_eq_true rfl, Nat.le_of_ble_eq_true rfl⟩ (fun a D hr h1 => ?_)
  have w1 := wd h1 (by omega)
  have t96 : G Γ (zRm 12 3000 55000) cX7_act 1 RX7 ad (pm (z_d Γ) ad Q D (mm (z_d Γ) ad Q V z00)) 0 0 96 [(0, .ref (ad (200, 0, 0, 0)))] [] := by
    refine G_aload_n (pc := 96) 0 0 dX7_act_96 rfl rfl ?_
    refine G_actH (pc := 97) hNc dX7_act_97 h1 (by omega) h1.X hL w1.1 h0 hst ⟨⟨Nat.le_of_ble_eq_true rfl, Nat.le_of_ble_eq_true rfl⟩, Nat.le_of_ble_eq_true rfl, Nat.le_of_ble_eq_true rfl⟩ (fun ad' M' ha => ?_)
    exact G_zret (pc := 100) hF dX7_act_100 ⟨Nat.le_of_ble_eq_true rfl, Nat.le_of_ble_eq_true rfl⟩ (Or.inr rfl) ha
  have t101 : G Γ (zRm 12 3000 55000) cX7_act 1 RX7 ad (pm (z_d Γ) ad Q D (mm (z_d Γ) ad Q V z00)) 0 0 101 [(0, .ref (ad (200, 0, 0, 0)))] [] := by
    refine G_aload_n (pc := 101) 0 0 dX7_act_101 rfl rfl ?_
    refine G_act (pc := 102) gk_X7_228 dX7_act_102 h1 (by omega) (c_X7_begin h1.1 h1.X hL w1.1 w1.2.1) ⟨⟨Nat.le_of_ble_eq_true rfl, Nat.le_of_ble_eq_true rfl⟩, Nat.le_of_ble_eq_true rfl, Nat.le_of_ble_eq_true rfl⟩ (fun ad' M' ha => ?_)
    exact G_zret (pc := 105) hF dX7_act_105 ⟨Nat.le_of_ble_eq_true rfl, Nat.le_of_ble_eq_true rfl⟩ (Or.inr rfl) ha
  have t106 : G Γ (zRm 12 3000 55000) cX7_act 1 RX7 ad (pm (z_d Γ) ad Q D (mm (z_d Γ) ad Q V z00)) 0 0 106 [(0, .ref (ad (200, 0, 0, 0)))] [] := by
    refine G_aload_n (pc := 106) 0 0 dX7_act_106 rfl rfl ?_
    refine G_iconst (pc := 107) dX7_act_107 ?_
    refine G_drw (pc := 108) dX7_act_108 h1 (by omega) hL ⟨by omega, by omega⟩ (Nat.le_of_ble_eq_true rfl) ⟨⟨Nat.le_of_ble_eq_true rfl, Nat.le_of_ble_eq_true rfl⟩, Nat.le_of_ble_eq_true rfl, Nat.le_of_ble_eq_true rfl⟩ (fun r D2 hr2 h2 => ?_)
    have w2 := wd h2 (by omega)
    refine G_if_ne (pc := 111) 121 dX7_act_111 (by decide) ⟨by omega, by omega⟩ (fun c => ?_) (fun c => ?_)
    · refine G_aload_n (pc := 121) 0 0 dX7_act_121 rfl rfl ?_
      refine G_actH (pc := 122) hNc dX7_act_122 h2 (by omega) h2.X hL w2.1 h0 hst ⟨⟨Nat.le_of_ble_eq_true rfl, Nat.le_of_ble_eq_true rfl⟩, Nat.le_of_ble_eq_true rfl, Nat.le_of_ble_eq_true rfl⟩ (fun ad' M' ha => ?_)
      exact G_zret (pc := 125) hF dX7_act_125 ⟨Nat.le_of_ble_eq_true rfl, Nat.le_of_ble_eq_true rfl⟩ (Or.inr rfl) ha
    · refine G_aload_n (pc := 114) 0 0 dX7_act_114 rfl rfl ?_
      refine G_act (pc := 115) gk_X7_230 dX7_act_115 h2 (by omega) (c_X7_clean_ h2.1 h2.X hL w2.1 w2.2.1 h0) ⟨⟨Nat.le_of_ble_eq_true rfl, Nat.le_of_ble_eq_true rfl⟩, Nat.le_of_ble_eq_true rfl, Nat.le_of_ble_eq_true rfl⟩ (fun ad' M' ha => ?_)
      refine G_goto (pc := 118) 125 dX7_act_118 (by decide) ?_
      exact G_zret (pc := 125) hF dX7_act_125 ⟨Nat.le_of_ble_eq_true rfl, Nat.le_of_ble_eq_true rfl⟩ (Or.inr rfl) ha
  have t126 : G Γ (zRm 12 3000 55000) cX7_act 1 RX7 ad (pm (z_d Γ) ad Q D (mm (z_d Γ) ad Q V z00)) 0 0 126 [(0, .ref (ad (200, 0, 0, 0)))] [] := by
    refine G_aload_n (pc := 126) 0 0 dX7_act_126 rfl rfl ?_
    refine G_iconst (pc := 127) dX7_act_127 ?_
    refine G_drw (pc := 128) dX7_act_128 h1 (by omega) hL ⟨by omega, by omega⟩ (Nat.le_of_ble_eq_true rfl) ⟨⟨Nat.le_of_ble_eq_true rfl, Nat.le_of_ble_eq_true rfl⟩, Nat.le_of_ble_eq_true rfl, Nat.le_of_ble_eq_true rfl⟩ (fun r D2 hr2 h2 => ?_)
    have w2 := wd h2 (by omega)
    refine G_if_ne (pc := 131) 141 dX7_act_131 (by decide) ⟨by omega, by omega⟩ (fun c => ?_) (fun c => ?_)
    · refine G_aload_n (pc := 141) 0 0 dX7_act_141 rfl rfl ?_
      refine G_act (pc := 142) gk_X7_234 dX7_act_142 h2 (by omega) (c_X7_setClock h2.1 h2.X hL w2.1 w2.2.1 w2.2.2) ⟨⟨Nat.le_of_ble_eq_true rfl, Nat.le_of_ble_eq_true rfl⟩, Nat.le_of_ble_eq_true rfl, Nat.le_of_ble_eq_true rfl⟩ (fun ad' M' ha => ?_)
      exact G_zret (pc := 145) hF dX7_act_145 ⟨Nat.le_of_ble_eq_true rfl, Nat.le_of_ble_eq_true rfl⟩ (Or.inr rfl) ha
    · refine G_aload_n (pc := 134) 0 0 dX7_act_134 rfl rfl ?_
      refine G_act (pc := 135) gk_X7_232 dX7_act_135 h2 (by omega) (c_X7_setKeep h2.1 h2.X hL w2.1 w2.2.1 h0) ⟨⟨Nat.le_of_ble_eq_true rfl, Nat.le_of_ble_eq_true rfl⟩, Nat.le_of_ble_eq_true rfl, Nat.le_of_ble_eq_true rfl⟩ (fun ad' M' ha => ?_)
      refine G_goto (pc := 138) 145 dX7_act_138 (by decide) ?_
      exact G_zret (pc := 145) hF dX7_act_145 ⟨Nat.le_of_ble_eq_true rfl, Nat.le_of_ble_eq_true rfl⟩ (Or.inr rfl) ha
  have t146 : G Γ (zRm 12 3000 55000) cX7_act 1 RX7 ad (pm (z_d Γ) ad Q D (mm (z_d Γ) ad Q V z00)) 0 0 146 [(0, .ref (ad (200, 0, 0, 0)))] [] := by
    refine G_aload_n (pc := 146) 0 0 dX7_act_146 rfl rfl ?_
    refine G_act (pc := 147) gk_X7_234 dX7_act_147 h1 (by omega) (c_X7_setClock h1.1 h1.X hL w1.1 w1.2.1 w1.2.2) ⟨⟨Nat.le_of_ble_eq_true rfl, Nat.le_of_ble_eq_true rfl⟩, Nat.le_of_ble_eq_true rfl, Nat.le_of_ble_eq_true rfl⟩ (fun ad' M' ha => ?_)
    exact G_zret (pc := 150) hF dX7_act_150 ⟨Nat.le_of_ble_eq_true rfl, Nat.le_of_ble_eq_true rfl⟩ (Or.inr rfl) ha
  have t151 : G Γ (zRm 12 3000 55000) cX7_act 1 RX7 ad (pm (z_d Γ) ad Q D (mm (z_d Γ) ad Q V z00)) 0 0 151 [(0, .ref (ad (200, 0, 0, 0)))] [] := by
    refine G_aload_n (pc := 151) 0 0 dX7_act_151 rfl rfl ?_
    refine G_act (pc := 152) gk_X7_226 dX7_act_152 h1 (by omega) (c_X7_join h1.1 h1.X hL w1.1 w1.2.1 h3) ⟨⟨Nat.le_of_ble_eq_true rfl, Nat.le_of_ble_eq_true rfl⟩, Nat.le_of_ble_eq_true rfl, Nat.le_of_ble_eq_true rfl⟩ (fun ad' M' ha => ?_)
    exact G_zret (pc := 155) hF dX7_act_155 ⟨Nat.le_of_ble_eq_true rfl, Nat.le_of_ble_eq_true rfl⟩ (Or.inr rfl) ha
  have t156 : G Γ (zRm 12 3000 55000) cX7_act 1 RX7 ad (pm (z_d Γ) ad Q D (mm (z_d Γ) ad Q V z00)) 0 0 156 [(0, .ref (ad (200, 0, 0, 0)))] [] := by
    refine G_aload_n (pc := 156) 0 0 dX7_act_156 rfl rfl ?_
    refine G_act (pc := 157) gk_X7_236 dX7_act_157 h1 (by omega) (c_X7_take h1.1 h1.X hL w1.1 w1.2.1 h3) ⟨⟨Nat.le_of_ble_eq_true rfl, Nat.le_of_ble_eq_true rfl⟩, Nat.le_of_ble_eq_true rfl, Nat.le_of_ble_eq_true rfl⟩ (fun ad' M' ha => ?_)
    exact G_zret (pc := 160) hF dX7_act_160 ⟨Nat.le_of_ble_eq_true rfl, Nat.le_of_ble_eq_true rfl⟩ (Or.inr rfl) ha
  have t161 : G Γ (zRm 12 3000 55000) cX7_act 1 RX7 ad (pm (z_d Γ) ad Q D (mm (z_d Γ) ad Q V z00)) 0 0 161 [(0, .ref (ad (200, 0, 0, 0)))] [] := by
    refine G_aload_n (pc := 161) 0 0 dX7_act_161 rfl rfl ?_
    refine G_act (pc := 162) gk_X7_238 dX7_act_162 h1 (by omega) (c_X7_answer h1.1 h1.X hL w1.1 w1.2.1 h3) ⟨⟨Nat.le_of_ble_eq_true rfl, Nat.le_of_ble_eq_true rfl⟩, Nat.le_of_ble_eq_true rfl, Nat.le_of_ble_eq_true rfl⟩ (fun ad' M' ha => ?_)
    exact G_zret (pc := 165) hF dX7_act_165 ⟨Nat.le_of_ble_eq_true rfl, Nat.le_of_ble_eq_true rfl⟩ (Or.inr rfl) ha
  have t166 : G Γ (zRm 12 3000 55000) cX7_act 1 RX7 ad (pm (z_d Γ) ad Q D (mm (z_d Γ) ad Q V z00)) 0 0 166 [(0, .ref (ad (200, 0, 0, 0)))] [] := by
    refine G_aload_n (pc := 166) 0 0 dX7_act_166 rfl rfl ?_
    refine G_iconst (pc := 167) dX7_act_167 ?_
    refine G_drw (pc := 168) dX7_act_168 h1 (by omega) hL ⟨by omega, by omega⟩ (Nat.le_of_ble_eq_true rfl) ⟨⟨Nat.le_of_ble_eq_true rfl, Nat.le_of_ble_eq_true rfl⟩, Nat.le_of_ble_eq_true rfl, Nat.le_of_ble_eq_true rfl⟩ (fun r D2 hr2 h2 => ?_)
    have w2 := wd h2 (by omega)
    refine G_if_ne (pc := 171) 181 dX7_act_171 (by decide) ⟨by omega, by omega⟩ (fun c => ?_) (fun c => ?_)
    · refine G_aload_n (pc := 181) 0 0 dX7_act_181 rfl rfl ?_
      refine G_iconst (pc := 182) dX7_act_182 ?_
      refine G_drw (pc := 183) dX7_act_183 h2 (by omega) hL ⟨by omega, by omega⟩ (Nat.le_of_ble_eq_true rfl) ⟨⟨Nat.le_of_ble_eq_true rfl, Nat.le_of_ble_eq_true rfl⟩, Nat.le_of_ble_eq_true rfl, Nat.le_of_ble_eq_true rfl⟩ (fun r D5 hr5 h5 => ?_)
      have w5 := wd h5 (by omega)
      refine G_if_ne (pc := 186) 196 dX7_act_186 (by decide) ⟨by omega, by omega⟩ (fun c => ?_) (fun c => ?_)
      · refine G_aload_n (pc := 196) 0 0 dX7_act_196 rfl rfl ?_
        refine G_act (pc := 197) gk_X7_236 dX7_act_197 h5 (by omega) (c_X7_take h5.1 h5.X hL w5.1 w5.2.1 h3) ⟨⟨Nat.le_of_ble_eq_true rfl, Nat.le_of_ble_eq_true rfl⟩, Nat.le_of_ble_eq_true rfl, Nat.le_of_ble_eq_true rfl⟩ (fun ad' M' ha => ?_)
        exact G_zret (pc := 200) hF dX7_act_200 ⟨Nat.le_of_ble_eq_true rfl, Nat.le_of_ble_eq_true rfl⟩ (Or.inr rfl) ha
      · refine G_aload_n (pc := 189) 0 0 dX7_act_189 rfl rfl ?_
        refine G_act (pc := 190) gk_X7_219 dX7_act_190 h5 (by omega) (c_X7_addGroup (Q1 := Q) h5.1 h5.X hL w5.1 w5.2.1 h0 (Int.le_refl _) ⟨by omega, by have := h5.1.wp.n; omega⟩) ⟨⟨Nat.le_of_ble_eq_true rfl, Nat.le_of_ble_eq_true rfl⟩, Nat.le_of_ble_eq_true rfl, Nat.le_of_ble_eq_true rfl⟩ (fun ad' M' ha => ?_)
        refine G_goto (pc := 193) 200 dX7_act_193 (by decide) ?_
        exact G_zret (pc := 200) hF dX7_act_200 ⟨Nat.le_of_ble_eq_true rfl, Nat.le_of_ble_eq_true rfl⟩ (Or.inr rfl) ha
    · refine G_aload_n (pc := 174) 0 0 dX7_act_174 rfl rfl ?_
      refine G_act (pc := 175) gk_X7_241 dX7_act_175 h2 (by omega) (c_X7_seek h2.1 h2.X hL w2.1 w2.2.1 h3) ⟨⟨Nat.le_of_ble_eq_true rfl, Nat.le_of_ble_eq_true rfl⟩, Nat.le_of_ble_eq_true rfl, Nat.le_of_ble_eq_true rfl⟩ (fun ad' M' ha => ?_)
      refine G_goto (pc := 178) 200 dX7_act_178 (by decide) ?_
      exact G_zret (pc := 200) hF dX7_act_200 ⟨Nat.le_of_ble_eq_true rfl, Nat.le_of_ble_eq_true rfl⟩ (Or.inr rfl) ha
  have hc : a = 0 ∨ a = 1 ∨ a = 2 ∨ a = 3 ∨ a = 4 ∨ a = 5 ∨ a = 6 ∨ a = 7 ∨ a = 8 ∨ a = 9 ∨ a = 10 ∨ a = 11 ∨ a = 12 ∨ a = 13 ∨ a = 14 ∨ a = 15 ∨ a = 16 ∨ a = 17 ∨ a = 18 ∨ a = 19 := by omega
  rcases hc with rfl | rfl | rfl | rfl | rfl | rfl | rfl | rfl | rfl | rfl | rfl | rfl | rfl | rfl | rfl | rfl | rfl | rfl | rfl | rfl
  · exact G_tabIn (pc := 6) 96 dX7_act_6 ⟨by omega, by omega⟩ ⟨by omega, by omega⟩ rfl (by decide) t96
  · exact G_tabIn (pc := 6) 96 dX7_act_6 ⟨by omega, by omega⟩ ⟨by omega, by omega⟩ rfl (by decide) t96
  · exact G_tabIn (pc := 6) 96 dX7_act_6 ⟨by omega, by omega⟩ ⟨by omega, by omega⟩ rfl (by decide) t96
  · exact G_tabIn (pc := 6) 96 dX7_act_6 ⟨by omega, by omega⟩ ⟨by omega, by omega⟩ rfl (by decide) t96
  · exact G_tabIn (pc := 6) 101 dX7_act_6 ⟨by omega, by omega⟩ ⟨by omega, by omega⟩ rfl (by decide) t101
  · exact G_tabIn (pc := 6) 106 dX7_act_6 ⟨by omega, by omega⟩ ⟨by omega, by omega⟩ rfl (by decide) t106
  · exact G_tabIn (pc := 6) 126 dX7_act_6 ⟨by omega, by omega⟩ ⟨by omega, by omega⟩ rfl (by decide) t126
  · exact G_tabIn (pc := 6) 146 dX7_act_6 ⟨by omega, by omega⟩ ⟨by omega, by omega⟩ rfl (by decide) t146
  · exact G_tabIn (pc := 6) 146 dX7_act_6 ⟨by omega, by omega⟩ ⟨by omega, by omega⟩ rfl (by decide) t146
  · exact G_tabIn (pc := 6) 151 dX7_act_6 ⟨by omega, by omega⟩ ⟨by omega, by omega⟩ rfl (by decide) t151
  · exact G_tabIn (pc := 6) 151 dX7_act_6 ⟨by omega, by omega⟩ ⟨by omega, by omega⟩ rfl (by decide) t151
  · exact G_tabIn (pc := 6) 156 dX7_act_6 ⟨by omega, by omega⟩ ⟨by omega, by omega⟩ rfl (by decide) t156
  · exact G_tabIn (pc := 6) 156 dX7_act_6 ⟨by omega, by omega⟩ ⟨by omega, by omega⟩ rfl (by decide) t156
  · exact G_tabIn (pc := 6) 156 dX7_act_6 ⟨by omega, by omega⟩ ⟨by omega, by omega⟩ rfl (by decide) t156
  · exact G_tabIn (pc := 6) 156 dX7_act_6 ⟨by omega, by omega⟩ ⟨by omega, by omega⟩ rfl (by decide) t156
  · exact G_tabIn (pc := 6) 156 dX7_act_6 ⟨by omega, by omega⟩ ⟨by omega, by omega⟩ rfl (by decide) t156
  · exact G_tabIn (pc := 6) 161 dX7_act_6 ⟨by omega, by omega⟩ ⟨by omega, by omega⟩ rfl (by decide) t161
  · exact G_tabIn (pc := 6) 161 dX7_act_6 ⟨by omega, by omega⟩ ⟨by omega, by omega⟩ rfl (by decide) t161
  · exact G_tabIn (pc := 6) 161 dX7_act_6 ⟨by omega, by omega⟩ ⟨by omega, by omega⟩ rfl (by decide) t161
  · exact G_tabOut (pc := 6) 166 dX7_act_6 ⟨by omega, by omega⟩ (by omega) (by decide) t166
