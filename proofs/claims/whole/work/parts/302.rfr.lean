/-! ===== each piece sees some kinds alone ===== -/
theorem rs_L {K : Nat → Bool} {S T : zS} (L : List Nat) (h : zfr K S T) (h0 : L.all (fun n => !K n) = true) : rs (fun n => L.contains n) T = rs (fun n => L.contains n) S := rs_fr h (fun n hn => by
  have h1 := List.all_eq_true.mp h0 n (List.contains_iff_mem.mp hn)
  cases hk : K n with
  | false => rfl
  | true => rw [hk] at h1; cases h1)
section RFR
variable {Kc Km : Nat → Bool} {P : zP} {S S' M M' : zS}
theorem rA_fr (hc : zfr Kc S S') (h0 : [0].all (fun n => !Kc n) = true) (hm : zfr Km M M') (h1 : [40].all (fun n => !Km n) = true) (h : rA S M) : rA S' M' := by
  show rA (rs (fun n => [0].contains n) S') (rs (fun n => [40].contains n) M')
  rw [rs_L [0] hc h0, rs_L [40] hm h1]
  exact h
theorem rL_fr (hc : zfr Kc S S') (h0 : [1, 2].all (fun n => !Kc n) = true) (hm : zfr Km M M') (h1 : [40, 73].all (fun n => !Km n) = true) (h : rL S M) : rL S' M' := by
  show rL (rs (fun n => [1, 2].contains n) S') (rs (fun n => [40, 73].contains n) M')
  rw [rs_L [1, 2] hc h0, rs_L [40, 73] hm h1]
  exact h
theorem rB_fr (hc : zfr Kc S S') (h0 : [8, 10, 11].all (fun n => !Kc n) = true) (hm : zfr Km M M') (h1 : [46, 47, 49, 50].all (fun n => !Km n) = true) (h : rB P S M) : rB P S' M' := by
  show rB P (rs (fun n => [8, 10, 11].contains n) S') (rs (fun n => [46, 47, 49, 50].contains n) M')
  rw [rs_L [8, 10, 11] hc h0, rs_L [46, 47, 49, 50] hm h1]
  exact h
theorem rC_fr (hc : zfr Kc S S') (h0 : [14].all (fun n => !Kc n) = true) (hm : zfr Km M M') (h1 : [40, 52, 53, 54, 55, 56, 57, 58, 59, 61].all (fun n => !Km n) = true) (h : rC P S M) : rC P S' M' := by
  show rC P (rs (fun n => [14].contains n) S') (rs (fun n => [40, 52, 53, 54, 55, 56, 57, 58, 59, 61].contains n) M')
  rw [rs_L [14] hc h0, rs_L [40, 52, 53, 54, 55, 56, 57, 58, 59, 61] hm h1]
  exact h
theorem rT_fr (hc : zfr Kc S S') (h0 : [14].all (fun n => !Kc n) = true) (hm : zfr Km M M') (h1 : [40, 57, 59, 62].all (fun n => !Km n) = true) (h : rT P S M) : rT P S' M' := by
  show rT P (rs (fun n => [14].contains n) S') (rs (fun n => [40, 57, 59, 62].contains n) M')
  rw [rs_L [14] hc h0, rs_L [40, 57, 59, 62] hm h1]
  exact h
theorem rD_fr (hc : zfr Kc S S') (h0 : [3].all (fun n => !Kc n) = true) (hm : zfr Km M M') (h1 : [40, 61, 62].all (fun n => !Km n) = true) (h : rD S M) : rD S' M' := by
  show rD (rs (fun n => [3].contains n) S') (rs (fun n => [40, 61, 62].contains n) M')
  rw [rs_L [3] hc h0, rs_L [40, 61, 62] hm h1]
  exact h
theorem rE_fr (hm : zfr Km M M') (h1 : [40, 59].all (fun n => !Km n) = true) (h : rE P M) : rE P M' := by
  show rE P (rs (fun n => [40, 59].contains n) M')
  rw [rs_L [40, 59] hm h1]
  exact h
theorem rF_fr (hc : zfr Kc S S') (h0 : [18].all (fun n => !Kc n) = true) (hm : zfr Km M M') (h1 : [65, 66, 67].all (fun n => !Km n) = true) (h : rF P S M) : rF P S' M' := by
  show rF P (rs (fun n => [18].contains n) S') (rs (fun n => [65, 66, 67].contains n) M')
  rw [rs_L [18] hc h0, rs_L [65, 66, 67] hm h1]
  exact h
theorem rG_fr (hc : zfr Kc S S') (h0 : [17].all (fun n => !Kc n) = true) (hm : zfr Km M M') (h1 : [68].all (fun n => !Km n) = true) (h : rG P S M) : rG P S' M' := by
  show rG P (rs (fun n => [17].contains n) S') (rs (fun n => [68].contains n) M')
  rw [rs_L [17] hc h0, rs_L [68] hm h1]
  exact h
theorem rH_fr (hc : zfr Kc S S') (h0 : [14, 19, 20, 21].all (fun n => !Kc n) = true) (hm : zfr Km M M') (h1 : [59, 69, 70, 71].all (fun n => !Km n) = true) (h : rH P S M) : rH P S' M' := by
  show rH P (rs (fun n => [14, 19, 20, 21].contains n) S') (rs (fun n => [59, 69, 70, 71].contains n) M')
  rw [rs_L [14, 19, 20, 21] hc h0, rs_L [59, 69, 70, 71] hm h1]
  exact h
theorem rI_fr (hm : zfr Km M M') (h1 : [59, 69].all (fun n => !Km n) = true) (h : rI P M) : rI P M' := by
  show rI P (rs (fun n => [59, 69].contains n) M')
  rw [rs_L [59, 69] hm h1]
  exact h
theorem rJ_fr (hm : zfr Km M M') (h1 : [40, 46, 47, 48, 49, 68, 69, 70, 71].all (fun n => !Km n) = true) (h : rJ P M) : rJ P M' := by
  show rJ P (rs (fun n => [40, 46, 47, 48, 49, 68, 69, 70, 71].contains n) M')
  rw [rs_L [40, 46, 47, 48, 49, 68, 69, 70, 71] hm h1]
  exact h
theorem rK_fr (hc : zfr Kc S S') (h0 : [19, 20, 21].all (fun n => !Kc n) = true) (h : rK P S) : rK P S' := by
  show rK P (rs (fun n => [19, 20, 21].contains n) S')
  rw [rs_L [19, 20, 21] hc h0]
  exact h
theorem s1_fr (hc : zfr Kc S S') (h0 : [14, 19].all (fun n => !Kc n) = true) (h : s1 P S) : s1 P S' := by
  show s1 P (rs (fun n => [14, 19].contains n) S')
  rw [rs_L [14, 19] hc h0]
  exact h
theorem s2_fr (hc : zfr Kc S S') (h0 : [14, 18, 19].all (fun n => !Kc n) = true) (h : s2 P S) : s2 P S' := by
  show s2 P (rs (fun n => [14, 18, 19].contains n) S')
  rw [rs_L [14, 18, 19] hc h0]
  exact h
theorem s3_fr (hc : zfr Kc S S') (h0 : [18].all (fun n => !Kc n) = true) (h : s3 P S) : s3 P S' := by
  show s3 P (rs (fun n => [18].contains n) S')
  rw [rs_L [18] hc h0]
  exact h
theorem s4_fr (hc : zfr Kc S S') (h0 : [17, 18].all (fun n => !Kc n) = true) (h : s4 P S) : s4 P S' := by
  show s4 P (rs (fun n => [17, 18].contains n) S')
  rw [rs_L [17, 18] hc h0]
  exact h
theorem s5_fr (hc : zfr Kc S S') (h0 : [19, 20].all (fun n => !Kc n) = true) (h : s5 P S) : s5 P S' := by
  show s5 P (rs (fun n => [19, 20].contains n) S')
  rw [rs_L [19, 20] hc h0]
  exact h
theorem s6_fr (hc : zfr Kc S S') (h0 : [0, 10].all (fun n => !Kc n) = true) (h : s6 P S) : s6 P S' := by
  show s6 P (rs (fun n => [0, 10].contains n) S')
  rw [rs_L [0, 10] hc h0]
  exact h
end RFR
