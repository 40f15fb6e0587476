/-! ===== the law: the readers of a group ===== -/
set_option maxHeartbeats 4000000 in
set_option maxRecDepth 100000 in
theorem l_r {Γ : zCx} {ad : zK → Nat} {P : zP} {V : zS} {nc ns b : Nat} {tm rows stp : Int} {w : Int64} {n all out : Int} {F : Int → Int} (hJ : zJ P V) (hR : nc ≤ 600086 ∧ ns ≤ 7301442) (hg : inG P n) (hF : ∀ r, 0 ≤ r → r < 6 → F r = sm (zpc1 V n r) 0 (P 1 (P 4 n 0) 0)) (kk : G Γ zRW cL_law 21 RL ad (mm (z_d Γ) ad P V (pm (z_d Γ) ad P V (zA6 (z_d Γ) F))) nc ns 734 [(14, .int (zI out)), (10, .int (zI all)), (9, .int (zI (P 4 n 0))), (8, .int (zI n)), (6, .long w), (5, .int (zI stp)), (4, .int (zI rows)), (3, .ref (ad (0, 0, 0, 0))), (2, .ref (ad (200, 0, 0, 0))), (1, .int (zI tm)), (0, .ref b)] []) :
    ∀ (m : Nat) (r : Int), (0 ≤ r ∧ r ≤ 6) → (6 - r).toNat < m → G Γ zRW cL_law 21 RL ad (mm (z_d Γ) ad P V (pm (z_d Γ) ad P V (zA6 (z_d Γ) F))) nc ns 581 [(15, .int (zI r)), (14, .int (zI out)), (13, .int (zI (znin V n))), (12, .int (zI (P 1 (P 4 n 0) 0))), (11, .ref (ad (230, 0, 0, 0))), (10, .int (zI all)), (9, .int (zI (P 4 n 0))), (8, .int (zI n)), (6, .long w), (5, .int (zI stp)), (4, .int (zI rows)), (3, .ref (ad (0, 0, 0, 0))), (2, .ref (ad (200, 0, 0, 0))), (1, .int (zI tm)), (0, .ref b)] [] := by
  have hP := hJ.wp
  have hW := hJ.wv.W
  have ht : inT P (P 4 n 0) := hP.g hg
  have hN := hP.n
  have hT := hP.t ht
  have hg1 := hg.1
  have hg2 := hg.2
  have ht1 := ht.1
  have ht2 := ht.2
  have hni := znin_R (g := n) hJ
  intro m
  induction m with
  | zero => intro r _ h; omega
  | succ m ih =>
    intro r hrb hm
    refine G_iload (pc := 581) 0 dL_law_581 rfl ?_
    refine G_bipush (pc := 583) dL_law_583 (by decide) ?_
    refine G_icmp_ge (pc := 585) 734 dL_law_585 (by decide) ⟨by omega, by omega⟩ ⟨by omega, by omega⟩ (fun c585 => ?_) (fun c585 => ?_)
    · refine G_perm (lv' := [(14, .int (zI out)), (10, .int (zI all)), (9, .int (zI (P 4 n 0))), (8, .int (zI n)), (6, .long w), (5, .int (zI stp)), (4, .int (zI rows)), (3, .ref (ad (0, 0, 0, 0))), (2, .ref (ad (200, 0, 0, 0))), (1, .int (zI tm)), (0, .ref b)]) [1, 5, 6, 7, 8, 9, 10, 11, 12, 13, 14] rfl ?_
      exact kk
    · have hr : 0 ≤ r ∧ r < 6 := ⟨hrb.1, by omega⟩
      obtain ⟨s1, s2, -⟩ := zC_share hJ hg hr
      have hi := hJ.wv.in2 n r
      rw [← hF r hr.1 hr.2] at s1 s2
      have hcb := sm_bound (f := zpc1 V n r) (m := 1) (by omega) _ 0 (P 1 (P 4 n 0) 0) (by omega) rfl (fun q _ _ => by unfold zpc1; split <;> omega)
      rw [← hF r hr.1 hr.2] at hcb
      have d1 : 0 ≤ (P 1 (P 4 n 0) 0) / (znin V n) ∧ (P 1 (P 4 n 0) 0) / (znin V n) ≤ (P 1 (P 4 n 0) 0) := ⟨Int.ediv_nonneg (by omega) (by omega), Int.ediv_le_self _ (by omega)⟩
      have d2 : 0 ≤ (((P 1 (P 4 n 0) 0) + (znin V n)) - 1) / (znin V n) ∧ (((P 1 (P 4 n 0) 0) + (znin V n)) - 1) / (znin V n) ≤ ((P 1 (P 4 n 0) 0) + (znin V n)) - 1 := ⟨Int.ediv_nonneg (by omega) (by omega), Int.ediv_le_self _ (by omega)⟩
      have t655 : G Γ zRW cL_law 21 RL ad (mm (z_d Γ) ad P V (pm (z_d Γ) ad P V (zA6 (z_d Γ) F))) nc ns 655 [(15, .int (zI r)), (14, .int (zI out)), (13, .int (zI (znin V n))), (12, .int (zI (P 1 (P 4 n 0) 0))), (11, .ref (ad (230, 0, 0, 0))), (10, .int (zI all)), (9, .int (zI (P 4 n 0))), (8, .int (zI n)), (6, .long w), (5, .int (zI stp)), (4, .int (zI rows)), (3, .ref (ad (0, 0, 0, 0))), (2, .ref (ad (200, 0, 0, 0))), (1, .int (zI tm)), (0, .ref b)] [] := by
        refine G_aload_n (pc := 655) 3 11 dL_law_655 rfl rfl ?_
        refine G_iload (pc := 656) 7 dL_law_656 rfl ?_
        refine G_iload (pc := 658) 0 dL_law_658 rfl ?_
        refine G_q (pc := 660) (x := (znp P V n r (V (0, 0, 0, 0) 6))) gk_L_84 dL_law_660 (c_X6_wouldTake hP hg hW hr) rfl rfl (Nat.le_of_ble_eq_true rfl) (Nat.le_of_ble_eq_true rfl) hR ?_
        have hxr := znp_R hP hW hg (r := r) (x := V (0, 0, 0, 0) 6)
        refine G_istore_e (pc := 663) (fun x => [(16, .int (zI x)), (15, .int (zI r)), (14, .int (zI out)), (13, .int (zI (znin V n))), (12, .int (zI (P 1 (P 4 n 0) 0))), (11, .ref (ad (230, 0, 0, 0))), (10, .int (zI all)), (9, .int (zI (P 4 n 0))), (8, .int (zI n)), (6, .long w), (5, .int (zI stp)), (4, .int (zI rows)), (3, .ref (ad (0, 0, 0, 0))), (2, .ref (ad (200, 0, 0, 0))), (1, .int (zI tm)), (0, .ref b)]) dL_law_663 (by decide) (fun _ => rfl) (fun x hx => ?_)
        rw [← hx] at hxr
        have t728 : G Γ zRW cL_law 21 RL ad (mm (z_d Γ) ad P V (pm (z_d Γ) ad P V (zA6 (z_d Γ) F))) nc ns 728 [(16, .int (zI x)), (15, .int (zI r)), (14, .int (zI out)), (13, .int (zI (znin V n))), (12, .int (zI (P 1 (P 4 n 0) 0))), (11, .ref (ad (230, 0, 0, 0))), (10, .int (zI all)), (9, .int (zI (P 4 n 0))), (8, .int (zI n)), (6, .long w), (5, .int (zI stp)), (4, .int (zI rows)), (3, .ref (ad (0, 0, 0, 0))), (2, .ref (ad (200, 0, 0, 0))), (1, .int (zI tm)), (0, .ref b)] [] := by
          refine G_iinc (pc := 728) 1 [(15, .int (zI (r + 1))), (16, .int (zI x)), (14, .int (zI out)), (13, .int (zI (znin V n))), (12, .int (zI (P 1 (P 4 n 0) 0))), (11, .ref (ad (230, 0, 0, 0))), (10, .int (zI all)), (9, .int (zI (P 4 n 0))), (8, .int (zI n)), (6, .long w), (5, .int (zI stp)), (4, .int (zI rows)), (3, .ref (ad (0, 0, 0, 0))), (2, .ref (ad (200, 0, 0, 0))), (1, .int (zI tm)), (0, .ref b)] dL_law_728 rfl (by decide) rfl ?_
          refine G_goto (pc := 731) 581 dL_law_731 (by decide) ?_
          refine G_perm (lv' := [(15, .int (zI (r + 1))), (14, .int (zI out)), (13, .int (zI (znin V n))), (12, .int (zI (P 1 (P 4 n 0) 0))), (11, .ref (ad (230, 0, 0, 0))), (10, .int (zI all)), (9, .int (zI (P 4 n 0))), (8, .int (zI n)), (6, .long w), (5, .int (zI stp)), (4, .int (zI rows)), (3, .ref (ad (0, 0, 0, 0))), (2, .ref (ad (200, 0, 0, 0))), (1, .int (zI tm)), (0, .ref b)]) [0, 2, 3, 4, 5, 6, 7, 8, 9, 10, 11, 12, 13, 14, 15] rfl ?_
          exact ih (r + 1) ⟨by omega, by omega⟩ (by omega)
        refine G_iload (pc := 665) 0 dL_law_665 rfl ?_
        refine G_if_lt (pc := 667) 728 dL_law_667 (by decide) ⟨by omega, by omega⟩ (fun c667 => ?_) (fun c667 => ?_)
        · exact t728
        · obtain ⟨hp, ho, -, q4, q5, q6, -⟩ := zC_would hJ hg hx (by omega)
          have q7 := hJ.wv.st4 n (x / 100) (x % 100)
          refine G_aload_n (pc := 670) 3 12 dL_law_670 rfl rfl ?_
          refine G_iload (pc := 671) 8 dL_law_671 rfl ?_
          refine G_iload (pc := 673) 0 dL_law_673 rfl ?_
          refine G_bipush (pc := 675) dL_law_675 (by decide) ?_
          refine G_idiv (pc := 677) dL_law_677 ⟨by omega, by omega, by omega⟩ ⟨by omega, by omega, by omega⟩ ?_
          refine G_q (pc := 678) (x := (V (18, n, (x / 100), 0) 4)) gk_L_81 dL_law_678 (c_X6_reader hP hg hp hW) rfl rfl (Nat.le_of_ble_eq_true rfl) (Nat.le_of_ble_eq_true rfl) hR ?_
          refine G_iload (pc := 681) 1 dL_law_681 rfl ?_
          refine G_icmp_ne (pc := 683) 726 dL_law_683 (by decide) ⟨by omega, by omega⟩ ⟨by omega, by omega⟩ (fun c683 => absurd c683 (by omega)) (fun c683 => ?_)
          refine G_aload_n (pc := 686) 3 12 dL_law_686 rfl rfl ?_
          refine G_iload (pc := 687) 8 dL_law_687 rfl ?_
          refine G_iload (pc := 689) 0 dL_law_689 rfl ?_
          refine G_bipush (pc := 691) dL_law_691 (by decide) ?_
          refine G_idiv (pc := 693) dL_law_693 ⟨by omega, by omega, by omega⟩ ⟨by omega, by omega, by omega⟩ ?_
          refine G_iload (pc := 694) 0 dL_law_694 rfl ?_
          refine G_bipush (pc := 696) dL_law_696 (by decide) ?_
          refine G_irem (pc := 698) dL_law_698 ⟨by omega, by omega, by omega⟩ ⟨by omega, by omega, by omega⟩ ?_
          refine G_q (pc := 699) (x := (V (19, n, (x / 100), 0) (x % 100))) gk_L_67 dL_law_699 (c_X6_state hP hg hp ho hW) rfl rfl (Nat.le_of_ble_eq_true rfl) (Nat.le_of_ble_eq_true rfl) hR ?_
          refine G_iconst (pc := 702) dL_law_702 ?_
          refine G_icmp_eq (pc := 703) 726 dL_law_703 (by decide) ⟨by omega, by omega⟩ ⟨by omega, by omega⟩ (fun c703 => absurd c703 (by omega)) (fun c703 => ?_)
          refine G_aload_n (pc := 706) 3 12 dL_law_706 rfl rfl ?_
          refine G_iload (pc := 707) 8 dL_law_707 rfl ?_
          refine G_iload (pc := 709) 0 dL_law_709 rfl ?_
          refine G_bipush (pc := 711) dL_law_711 (by decide) ?_
          refine G_idiv (pc := 713) dL_law_713 ⟨by omega, by omega, by omega⟩ ⟨by omega, by omega, by omega⟩ ?_
          refine G_iload (pc := 714) 0 dL_law_714 rfl ?_
          refine G_bipush (pc := 716) dL_law_716 (by decide) ?_
          refine G_irem (pc := 718) dL_law_718 ⟨by omega, by omega, by omega⟩ ⟨by omega, by omega, by omega⟩ ?_
          refine G_q (pc := 719) (x := (V (19, n, (x / 100), 0) (x % 100))) gk_L_67 dL_law_719 (c_X6_state hP hg hp ho hW) rfl rfl (Nat.le_of_ble_eq_true rfl) (Nat.le_of_ble_eq_true rfl) hR ?_
          refine G_iconst (pc := 722) dL_law_722 ?_
          refine G_icmp_le (pc := 723) 728 dL_law_723 (by decide) ⟨by omega, by omega⟩ ⟨by omega, by omega⟩ (fun c723 => ?_) (fun c723 => absurd c723 (by omega))
          exact t728
      refine G_aload_n (pc := 588) 2 12 dL_law_588 rfl rfl ?_
      refine G_getf (pc := 589) fl_L_43 dL_law_589 (wq rfl pg_200) rfl ?_
      refine G_iload (pc := 592) 7 dL_law_592 rfl ?_
      refine G_aldA (pc := 594) (t := 8) rfl dL_law_594 (wq rfl pg_220) ⟨by omega, by omega, by omega, by omega⟩ rfl ?_
      refine G_iload (pc := 595) 0 dL_law_595 rfl ?_
      refine G_zaldV (pc := 597) (V (17, n, 0, 0) r) dL_law_597 (wq rfl (pg_221 (by omega))) ⟨by omega, by omega, by omega, by omega⟩ rfl ?_
      refine G_if_eq (pc := 598) 632 dL_law_598 (by decide) ⟨by omega, by omega⟩ (fun c598 => ?_) (fun c598 => ?_)
      · refine G_aload_n (pc := 632) 2 12 dL_law_632 rfl rfl ?_
        refine G_getf (pc := 633) fl_L_43 dL_law_633 (wq rfl pg_200) rfl ?_
        refine G_iload (pc := 636) 7 dL_law_636 rfl ?_
        refine G_aldA (pc := 638) (t := 8) rfl dL_law_638 (wq rfl pg_220) ⟨by omega, by omega, by omega, by omega⟩ rfl ?_
        refine G_iload (pc := 639) 0 dL_law_639 rfl ?_
        refine G_zaldV (pc := 641) (V (17, n, 0, 0) r) dL_law_641 (wq rfl (pg_221 (by omega))) ⟨by omega, by omega, by omega, by omega⟩ rfl ?_
        refine G_if_ne (pc := 642) 655 dL_law_642 (by decide) ⟨by omega, by omega⟩ (fun c642 => absurd c642 (by omega)) (fun c642 => ?_)
        refine G_aload (pc := 645) 4 dL_law_645 rfl ?_
        refine G_iload (pc := 647) 0 dL_law_647 rfl ?_
        refine G_iald (pc := 649) dL_law_649 zA6_g ⟨by omega, by omega, by omega, by omega⟩ ?_
        refine G_if_le (pc := 650) 655 dL_law_650 (by decide) ⟨by omega, by omega⟩ (fun c650 => ?_) (fun c650 => absurd c650 (by omega))
        exact t655
      · obtain ⟨g0, g1, g2⟩ := s1 (by omega)
        refine G_aload (pc := 601) 4 dL_law_601 rfl ?_
        refine G_iload (pc := 603) 0 dL_law_603 rfl ?_
        refine G_iald (pc := 605) dL_law_605 zA6_g ⟨by omega, by omega, by omega, by omega⟩ ?_
        refine G_iload (pc := 606) 3 dL_law_606 rfl ?_
        refine G_iload (pc := 608) 2 dL_law_608 rfl ?_
        refine G_idiv (pc := 610) dL_law_610 ⟨by omega, by omega, by omega⟩ ⟨by omega, by omega, by omega⟩ ?_
        refine G_icmp_lt (pc := 611) 653 dL_law_611 (by decide) ⟨by omega, by omega⟩ ⟨by omega, by omega⟩ (fun c611 => absurd c611 (by omega)) (fun c611 => ?_)
        refine G_aload (pc := 614) 4 dL_law_614 rfl ?_
        refine G_iload (pc := 616) 0 dL_law_616 rfl ?_
        refine G_iald (pc := 618) dL_law_618 zA6_g ⟨by omega, by omega, by omega, by omega⟩ ?_
        refine G_iload (pc := 619) 3 dL_law_619 rfl ?_
        refine G_iload (pc := 621) 2 dL_law_621 rfl ?_
        refine G_iadd (pc := 623) dL_law_623 ?_
        refine G_iconst (pc := 624) dL_law_624 ?_
        refine G_isub (pc := 625) dL_law_625 ?_
        refine G_iload (pc := 626) 2 dL_law_626 rfl ?_
        refine G_idiv (pc := 628) dL_law_628 ⟨by omega, by omega, by omega⟩ ⟨by omega, by omega, by omega⟩ ?_
        refine G_icmp_gt (pc := 629) 653 dL_law_629 (by decide) ⟨by omega, by omega⟩ ⟨by omega, by omega⟩ (fun c629 => absurd c629 (by omega)) (fun c629 => ?_)
        refine G_aload_n (pc := 632) 2 12 dL_law_632 rfl rfl ?_
        refine G_getf (pc := 633) fl_L_43 dL_law_633 (wq rfl pg_200) rfl ?_
        refine G_iload (pc := 636) 7 dL_law_636 rfl ?_
        refine G_aldA (pc := 638) (t := 8) rfl dL_law_638 (wq rfl pg_220) ⟨by omega, by omega, by omega, by omega⟩ rfl ?_
        refine G_iload (pc := 639) 0 dL_law_639 rfl ?_
        refine G_zaldV (pc := 641) (V (17, n, 0, 0) r) dL_law_641 (wq rfl (pg_221 (by omega))) ⟨by omega, by omega, by omega, by omega⟩ rfl ?_
        refine G_if_ne (pc := 642) 655 dL_law_642 (by decide) ⟨by omega, by omega⟩ (fun c642 => ?_) (fun c642 => absurd c642 (by omega))
        exact t655
