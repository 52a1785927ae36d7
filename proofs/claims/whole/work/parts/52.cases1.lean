theorem case_price {K : Cx} {I : ClassId × ClassId × ClassId × ClassId × ClassId} {g h : Nat → Nat} {b L kc ns : Nat} {xs : Nat → Int32} {k : Nat} {X M : St} (C : NC K 4 cL_law RL room_1 (tyG (g, I))) (S : SC K b L xs) (hcs : kc ≤ room_1.cells ∧ ns ≤ room_1.slots) (hR : Rel k X M) (hk : k < 512) (hi : 6 * k + 6 ≤ L) (hL : L ≤ 3072) (fin : ∀ X1 M1 : St, Rel (k + 1) X1 M1 → WN K 4 kc ns (xw (g, I) X1 ++ mw (h, I) M1) 1185 [(0, .ref b), (1, .ref (g 0)), (2, .ref (h 0)), (3, .int (nI (6 * k)))] []) : WN K 4 kc ns (xw (g, I) X ++ mw (h, I) M) 588 [(0, .ref b), (1, .ref (g 0)), (2, .ref (h 0)), (3, .int (nI (6 * k)))] [] := by
  obtain ⟨PX, PM, hX, hM, hf⟩ := law_price hR (xs (6 * k + 1)) (g, I) (h, I)
  refine n_aload_n C (pc := 588) dL_law_588 1 rfl rfl ?_
  refine n_arg C S (pc := 589) (j := 1) (by decide) (by omega) hL dL_law_589 dL_law_590 dL_law_591 dL_law_592 dL_law_593 ?_
  refine n_callVi C (pc := 594) (wf := xw (g, I)) (xw_adr _) [.int (xs (6 * k + 1))] hX (xe_0 (g, I) X) rfl ml_L_65 co_X8_price im_X8_price se_X8_price in_X8 hy_X8_price (Nat.le_of_ble_eq_true rfl) (Nat.le_of_ble_eq_true rfl) (Nat.le_of_ble_eq_true rfl) hcs dL_law_594 rfl (fun r X1 p1 => ?_)
  refine n_swap ?_
  refine n_aload_n C (pc := 597) dL_law_597 2 rfl rfl ?_
  refine n_arg C S (pc := 598) (j := 1) (by decide) (by omega) hL dL_law_598 dL_law_599 dL_law_600 dL_law_601 dL_law_602 ?_
  refine n_callVi C (pc := 603) (wf := mw (h, I)) (mw_adr _) [.int (xs (6 * k + 1))] hM (me_0 (h, I) M) rfl ml_L_68 co_X9_price im_X9_price se_X9_price in_X9 hy_X9_price (Nat.le_of_ble_eq_true rfl) (Nat.le_of_ble_eq_true rfl) (Nat.le_of_ble_eq_true rfl) hcs dL_law_603 rfl (fun r2 M1 p2 => ?_)
  refine n_swap ?_
  obtain ⟨e, hR1⟩ := hf r X1 r2 M1 p1 p2
  exact n_icmp_eq C (pc := 606) (tgt := 1185) dL_law_606 (by decide) (fun _ => fin X1 M1 hR1) (fun q => absurd e q)
theorem case_meet {K : Cx} {I : ClassId × ClassId × ClassId × ClassId × ClassId} {g h : Nat → Nat} {b L kc ns : Nat} {xs : Nat → Int32} {k : Nat} {X M : St} (C : NC K 4 cL_law RL room_1 (tyG (g, I))) (S : SC K b L xs) (hcs : kc ≤ room_1.cells ∧ ns ≤ room_1.slots) (hR : Rel k X M) (hk : k < 512) (hi : 6 * k + 6 ≤ L) (hL : L ≤ 3072) (fin : ∀ X1 M1 : St, Rel (k + 1) X1 M1 → WN K 4 kc ns (xw (g, I) X1 ++ mw (h, I) M1) 1185 [(0, .ref b), (1, .ref (g 0)), (2, .ref (h 0)), (3, .int (nI (6 * k)))] []) : WN K 4 kc ns (xw (g, I) X ++ mw (h, I) M) 611 [(0, .ref b), (1, .ref (g 0)), (2, .ref (h 0)), (3, .int (nI (6 * k)))] [] := by
  obtain ⟨PX, PM, hX, hM, hf⟩ := law_meet hR (xs (6 * k + 1)) (g, I) (h, I)
  refine n_aload_n C (pc := 611) dL_law_611 1 rfl rfl ?_
  refine n_arg C S (pc := 612) (j := 1) (by decide) (by omega) hL dL_law_612 dL_law_613 dL_law_614 dL_law_615 dL_law_616 ?_
  refine n_callVi C (pc := 617) (wf := xw (g, I)) (xw_adr _) [.int (xs (6 * k + 1))] hX (xe_0 (g, I) X) rfl ml_L_69 co_X8_meet im_X8_meet se_X8_meet in_X8 hy_X8_meet (Nat.le_of_ble_eq_true rfl) (Nat.le_of_ble_eq_true rfl) (Nat.le_of_ble_eq_true rfl) hcs dL_law_617 rfl (fun r X1 p1 => ?_)
  refine n_swap ?_
  refine n_aload_n C (pc := 620) dL_law_620 2 rfl rfl ?_
  refine n_arg C S (pc := 621) (j := 1) (by decide) (by omega) hL dL_law_621 dL_law_622 dL_law_623 dL_law_624 dL_law_625 ?_
  refine n_callVi C (pc := 626) (wf := mw (h, I)) (mw_adr _) [.int (xs (6 * k + 1))] hM (me_0 (h, I) M) rfl ml_L_72 co_X9_meet im_X9_meet se_X9_meet in_X9 hy_X9_meet (Nat.le_of_ble_eq_true rfl) (Nat.le_of_ble_eq_true rfl) (Nat.le_of_ble_eq_true rfl) hcs dL_law_626 rfl (fun r2 M1 p2 => ?_)
  refine n_swap ?_
  obtain ⟨e, hR1⟩ := hf r X1 r2 M1 p1 p2
  exact n_icmp_eq C (pc := 629) (tgt := 1185) dL_law_629 (by decide) (fun _ => fin X1 M1 hR1) (fun q => absurd e q)
theorem case_absent {K : Cx} {I : ClassId × ClassId × ClassId × ClassId × ClassId} {g h : Nat → Nat} {b L kc ns : Nat} {xs : Nat → Int32} {k : Nat} {X M : St} (C : NC K 4 cL_law RL room_1 (tyG (g, I))) (S : SC K b L xs) (hcs : kc ≤ room_1.cells ∧ ns ≤ room_1.slots) (hR : Rel k X M) (hk : k < 512) (hi : 6 * k + 6 ≤ L) (hL : L ≤ 3072) (fin : ∀ X1 M1 : St, Rel (k + 1) X1 M1 → WN K 4 kc ns (xw (g, I) X1 ++ mw (h, I) M1) 1185 [(0, .ref b), (1, .ref (g 0)), (2, .ref (h 0)), (3, .int (nI (6 * k)))] []) : WN K 4 kc ns (xw (g, I) X ++ mw (h, I) M) 634 [(0, .ref b), (1, .ref (g 0)), (2, .ref (h 0)), (3, .int (nI (6 * k)))] [] := by
  obtain ⟨PX, PM, hX, hM, hf⟩ := law_absent hR (xs (6 * k + 1)) (if xs (6 * k + 2) = 0 then 0 else 1) (g, I) (h, I)
  refine n_aload_n C (pc := 634) dL_law_634 1 rfl rfl ?_
  refine n_arg C S (pc := 635) (j := 1) (by decide) (by omega) hL dL_law_635 dL_law_636 dL_law_637 dL_law_638 dL_law_639 ?_
  refine n_arg C S (pc := 640) (j := 2) (by decide) (by omega) hL dL_law_640 dL_law_641 dL_law_642 dL_law_643 dL_law_644 ?_
  refine n_bool C (pc := 645) dL_law_645 dL_law_648 dL_law_649 dL_law_652 ?_
  refine n_callVi C (pc := 653) (wf := xw (g, I)) (xw_adr _) [.int (xs (6 * k + 1)), .int (if xs (6 * k + 2) = 0 then 0 else 1)] hX (xe_0 (g, I) X) rfl ml_L_73 co_X8_absent im_X8_absent se_X8_absent in_X8 hy_X8_absent (Nat.le_of_ble_eq_true rfl) (Nat.le_of_ble_eq_true rfl) (Nat.le_of_ble_eq_true rfl) hcs dL_law_653 rfl (fun r X1 p1 => ?_)
  refine n_swap ?_
  refine n_aload_n C (pc := 656) dL_law_656 2 rfl rfl ?_
  refine n_arg C S (pc := 657) (j := 1) (by decide) (by omega) hL dL_law_657 dL_law_658 dL_law_659 dL_law_660 dL_law_661 ?_
  refine n_arg C S (pc := 662) (j := 2) (by decide) (by omega) hL dL_law_662 dL_law_663 dL_law_664 dL_law_665 dL_law_666 ?_
  refine n_bool C (pc := 667) dL_law_667 dL_law_670 dL_law_671 dL_law_674 ?_
  refine n_callVi C (pc := 675) (wf := mw (h, I)) (mw_adr _) [.int (xs (6 * k + 1)), .int (if xs (6 * k + 2) = 0 then 0 else 1)] hM (me_0 (h, I) M) rfl ml_L_77 co_X9_absent im_X9_absent se_X9_absent in_X9 hy_X9_absent (Nat.le_of_ble_eq_true rfl) (Nat.le_of_ble_eq_true rfl) (Nat.le_of_ble_eq_true rfl) hcs dL_law_675 rfl (fun r2 M1 p2 => ?_)
  refine n_swap ?_
  obtain ⟨e, hR1⟩ := hf r X1 r2 M1 p1 p2
  exact n_icmp_eq C (pc := 678) (tgt := 1185) dL_law_678 (by decide) (fun _ => fin X1 M1 hR1) (fun q => absurd e q)
theorem case_barred {K : Cx} {I : ClassId × ClassId × ClassId × ClassId × ClassId} {g h : Nat → Nat} {b L kc ns : Nat} {xs : Nat → Int32} {k : Nat} {X M : St} (C : NC K 4 cL_law RL room_1 (tyG (g, I))) (S : SC K b L xs) (hcs : kc ≤ room_1.cells ∧ ns ≤ room_1.slots) (hR : Rel k X M) (hk : k < 512) (hi : 6 * k + 6 ≤ L) (hL : L ≤ 3072) (fin : ∀ X1 M1 : St, Rel (k + 1) X1 M1 → WN K 4 kc ns (xw (g, I) X1 ++ mw (h, I) M1) 1185 [(0, .ref b), (1, .ref (g 0)), (2, .ref (h 0)), (3, .int (nI (6 * k)))] []) : WN K 4 kc ns (xw (g, I) X ++ mw (h, I) M) 683 [(0, .ref b), (1, .ref (g 0)), (2, .ref (h 0)), (3, .int (nI (6 * k)))] [] := by
  obtain ⟨PX, PM, hX, hM, hf⟩ := law_barred hR (xs (6 * k + 1)) (xs (6 * k + 2)) (g, I) (h, I)
  refine n_aload_n C (pc := 683) dL_law_683 1 rfl rfl ?_
  refine n_arg C S (pc := 684) (j := 1) (by decide) (by omega) hL dL_law_684 dL_law_685 dL_law_686 dL_law_687 dL_law_688 ?_
  refine n_arg C S (pc := 689) (j := 2) (by decide) (by omega) hL dL_law_689 dL_law_690 dL_law_691 dL_law_692 dL_law_693 ?_
  refine n_callVi C (pc := 694) (wf := xw (g, I)) (xw_adr _) [.int (xs (6 * k + 1)), .int (xs (6 * k + 2))] hX (xe_0 (g, I) X) rfl ml_L_78 co_X8_barred im_X8_barred se_X8_barred in_X8 hy_X8_barred (Nat.le_of_ble_eq_true rfl) (Nat.le_of_ble_eq_true rfl) (Nat.le_of_ble_eq_true rfl) hcs dL_law_694 rfl (fun r X1 p1 => ?_)
  refine n_swap ?_
  refine n_aload_n C (pc := 697) dL_law_697 2 rfl rfl ?_
  refine n_arg C S (pc := 698) (j := 1) (by decide) (by omega) hL dL_law_698 dL_law_699 dL_law_700 dL_law_701 dL_law_702 ?_
  refine n_arg C S (pc := 703) (j := 2) (by decide) (by omega) hL dL_law_703 dL_law_704 dL_law_705 dL_law_706 dL_law_707 ?_
  refine n_callVi C (pc := 708) (wf := mw (h, I)) (mw_adr _) [.int (xs (6 * k + 1)), .int (xs (6 * k + 2))] hM (me_0 (h, I) M) rfl ml_L_81 co_X9_barred im_X9_barred se_X9_barred in_X9 hy_X9_barred (Nat.le_of_ble_eq_true rfl) (Nat.le_of_ble_eq_true rfl) (Nat.le_of_ble_eq_true rfl) hcs dL_law_708 rfl (fun r2 M1 p2 => ?_)
  refine n_swap ?_
  obtain ⟨e, hR1⟩ := hf r X1 r2 M1 p1 p2
  exact n_icmp_eq C (pc := 711) (tgt := 1185) dL_law_711 (by decide) (fun _ => fin X1 M1 hR1) (fun q => absurd e q)
theorem case_draw {K : Cx} {I : ClassId × ClassId × ClassId × ClassId × ClassId} {g h : Nat → Nat} {b L kc ns : Nat} {xs : Nat → Int32} {k : Nat} {X M : St} (C : NC K 4 cL_law RL room_1 (tyG (g, I))) (S : SC K b L xs) (hcs : kc ≤ room_1.cells ∧ ns ≤ room_1.slots) (hR : Rel k X M) (hk : k < 512) (hi : 6 * k + 6 ≤ L) (hL : L ≤ 3072) (fin : ∀ X1 M1 : St, Rel (k + 1) X1 M1 → WN K 4 kc ns (xw (g, I) X1 ++ mw (h, I) M1) 1185 [(0, .ref b), (1, .ref (g 0)), (2, .ref (h 0)), (3, .int (nI (6 * k)))] []) : WN K 4 kc ns (xw (g, I) X ++ mw (h, I) M) 716 [(0, .ref b), (1, .ref (g 0)), (2, .ref (h 0)), (3, .int (nI (6 * k)))] [] := by
  obtain ⟨PX, PM, hX, hM, hf⟩ := law_draw hR hk (g, I) (h, I)
  refine n_aload_n C (pc := 716) dL_law_716 1 rfl rfl ?_
  refine n_callVi C (pc := 717) (wf := xw (g, I)) (xw_adr _) [] hX (xe_0 (g, I) X) rfl ml_L_82 co_X8_draw im_X8_draw se_X8_draw in_X8 hy_X8_draw (Nat.le_of_ble_eq_true rfl) (Nat.le_of_ble_eq_true rfl) (Nat.le_of_ble_eq_true rfl) hcs dL_law_717 rfl (fun r X1 p1 => ?_)
  refine n_swap ?_
  refine n_aload_n C (pc := 720) dL_law_720 2 rfl rfl ?_
  refine n_callVi C (pc := 721) (wf := mw (h, I)) (mw_adr _) [] hM (me_0 (h, I) M) rfl ml_L_86 co_X9_draw im_X9_draw se_X9_draw in_X9 hy_X9_draw (Nat.le_of_ble_eq_true rfl) (Nat.le_of_ble_eq_true rfl) (Nat.le_of_ble_eq_true rfl) hcs dL_law_721 rfl (fun r2 M1 p2 => ?_)
  refine n_swap ?_
  obtain ⟨e, hR1⟩ := hf r X1 r2 M1 p1 p2
  exact n_icmp_eq C (pc := 724) (tgt := 1185) dL_law_724 (by decide) (fun _ => fin X1 M1 hR1) (fun q => absurd e q)
theorem case_cost {K : Cx} {I : ClassId × ClassId × ClassId × ClassId × ClassId} {g h : Nat → Nat} {b L kc ns : Nat} {xs : Nat → Int32} {k : Nat} {X M : St} (C : NC K 4 cL_law RL room_1 (tyG (g, I))) (S : SC K b L xs) (hcs : kc ≤ room_1.cells ∧ ns ≤ room_1.slots) (hR : Rel k X M) (hk : k < 512) (hi : 6 * k + 6 ≤ L) (hL : L ≤ 3072) (fin : ∀ X1 M1 : St, Rel (k + 1) X1 M1 → WN K 4 kc ns (xw (g, I) X1 ++ mw (h, I) M1) 1185 [(0, .ref b), (1, .ref (g 0)), (2, .ref (h 0)), (3, .int (nI (6 * k)))] []) : WN K 4 kc ns (xw (g, I) X ++ mw (h, I) M) 729 [(0, .ref b), (1, .ref (g 0)), (2, .ref (h 0)), (3, .int (nI (6 * k)))] [] := by
  obtain ⟨PX, PM, hX, hM, hf⟩ := law_cost hR (g, I) (h, I)
  refine n_aload_n C (pc := 729) dL_law_729 1 rfl rfl ?_
  refine n_callVi C (pc := 730) (wf := xw (g, I)) (xw_adr _) [] hX (xe_0 (g, I) X) rfl ml_L_87 co_X8_cost im_X8_cost se_X8_cost in_X8 hy_X8_cost (Nat.le_of_ble_eq_true rfl) (Nat.le_of_ble_eq_true rfl) (Nat.le_of_ble_eq_true rfl) hcs dL_law_730 rfl (fun r X1 p1 => ?_)
  refine n_swap ?_
  refine n_aload_n C (pc := 733) dL_law_733 2 rfl rfl ?_
  refine n_callVi C (pc := 734) (wf := mw (h, I)) (mw_adr _) [] hM (me_0 (h, I) M) rfl ml_L_90 co_X9_cost im_X9_cost se_X9_cost in_X9 hy_X9_cost (Nat.le_of_ble_eq_true rfl) (Nat.le_of_ble_eq_true rfl) (Nat.le_of_ble_eq_true rfl) hcs dL_law_734 rfl (fun r2 M1 p2 => ?_)
  refine n_swap ?_
  obtain ⟨e, hR1⟩ := hf r X1 r2 M1 p1 p2
  exact n_icmp_eq C (pc := 737) (tgt := 1185) dL_law_737 (by decide) (fun _ => fin X1 M1 hR1) (fun q => absurd e q)
theorem case_result {K : Cx} {I : ClassId × ClassId × ClassId × ClassId × ClassId} {g h : Nat → Nat} {b L kc ns : Nat} {xs : Nat → Int32} {k : Nat} {X M : St} (C : NC K 4 cL_law RL room_1 (tyG (g, I))) (S : SC K b L xs) (hcs : kc ≤ room_1.cells ∧ ns ≤ room_1.slots) (hR : Rel k X M) (hk : k < 512) (hi : 6 * k + 6 ≤ L) (hL : L ≤ 3072) (fin : ∀ X1 M1 : St, Rel (k + 1) X1 M1 → WN K 4 kc ns (xw (g, I) X1 ++ mw (h, I) M1) 1185 [(0, .ref b), (1, .ref (g 0)), (2, .ref (h 0)), (3, .int (nI (6 * k)))] []) : WN K 4 kc ns (xw (g, I) X ++ mw (h, I) M) 742 [(0, .ref b), (1, .ref (g 0)), (2, .ref (h 0)), (3, .int (nI (6 * k)))] [] := by
  obtain ⟨PX, PM, hX, hM, hf⟩ := law_result hR (xs (6 * k + 1)) (if xs (6 * k + 2) = 0 then 0 else 1) (g, I) (h, I)
  refine n_aload_n C (pc := 742) dL_law_742 1 rfl rfl ?_
  refine n_arg C S (pc := 743) (j := 1) (by decide) (by omega) hL dL_law_743 dL_law_744 dL_law_745 dL_law_746 dL_law_747 ?_
  refine n_arg C S (pc := 748) (j := 2) (by decide) (by omega) hL dL_law_748 dL_law_749 dL_law_750 dL_law_751 dL_law_752 ?_
  refine n_bool C (pc := 753) dL_law_753 dL_law_756 dL_law_757 dL_law_760 ?_
  refine n_callVi C (pc := 761) (wf := xw (g, I)) (xw_adr _) [.int (xs (6 * k + 1)), .int (if xs (6 * k + 2) = 0 then 0 else 1)] hX (xe_0 (g, I) X) rfl ml_L_91 co_X8_result im_X8_result se_X8_result in_X8 hy_X8_result (Nat.le_of_ble_eq_true rfl) (Nat.le_of_ble_eq_true rfl) (Nat.le_of_ble_eq_true rfl) hcs dL_law_761 rfl (fun r X1 p1 => ?_)
  refine n_swap ?_
  refine n_aload_n C (pc := 764) dL_law_764 2 rfl rfl ?_
  refine n_arg C S (pc := 765) (j := 1) (by decide) (by omega) hL dL_law_765 dL_law_766 dL_law_767 dL_law_768 dL_law_769 ?_
  refine n_arg C S (pc := 770) (j := 2) (by decide) (by omega) hL dL_law_770 dL_law_771 dL_law_772 dL_law_773 dL_law_774 ?_
  refine n_bool C (pc := 775) dL_law_775 dL_law_778 dL_law_779 dL_law_782 ?_
  refine n_callVi C (pc := 783) (wf := mw (h, I)) (mw_adr _) [.int (xs (6 * k + 1)), .int (if xs (6 * k + 2) = 0 then 0 else 1)] hM (me_0 (h, I) M) rfl ml_L_94 co_X9_result im_X9_result se_X9_result in_X9 hy_X9_result (Nat.le_of_ble_eq_true rfl) (Nat.le_of_ble_eq_true rfl) (Nat.le_of_ble_eq_true rfl) hcs dL_law_783 rfl (fun r2 M1 p2 => ?_)
  refine n_swap ?_
  obtain ⟨e, hR1⟩ := hf r X1 r2 M1 p1 p2
  exact n_icmp_eq C (pc := 786) (tgt := 1185) dL_law_786 (by decide) (fun _ => fin X1 M1 hR1) (fun q => absurd e q)
theorem case_bout {K : Cx} {I : ClassId × ClassId × ClassId × ClassId × ClassId} {g h : Nat → Nat} {b L kc ns : Nat} {xs : Nat → Int32} {k : Nat} {X M : St} (C : NC K 4 cL_law RL room_1 (tyG (g, I))) (S : SC K b L xs) (hcs : kc ≤ room_1.cells ∧ ns ≤ room_1.slots) (hR : Rel k X M) (hk : k < 512) (hi : 6 * k + 6 ≤ L) (hL : L ≤ 3072) (fin : ∀ X1 M1 : St, Rel (k + 1) X1 M1 → WN K 4 kc ns (xw (g, I) X1 ++ mw (h, I) M1) 1185 [(0, .ref b), (1, .ref (g 0)), (2, .ref (h 0)), (3, .int (nI (6 * k)))] []) : WN K 4 kc ns (xw (g, I) X ++ mw (h, I) M) 791 [(0, .ref b), (1, .ref (g 0)), (2, .ref (h 0)), (3, .int (nI (6 * k)))] [] := by
  obtain ⟨PX, PM, hX, hM, hf⟩ := law_bout hR (xs (6 * k + 1)) (xs (6 * k + 2)) (g, I) (h, I)
  refine n_aload_n C (pc := 791) dL_law_791 1 rfl rfl ?_
  refine n_arg C S (pc := 792) (j := 1) (by decide) (by omega) hL dL_law_792 dL_law_793 dL_law_794 dL_law_795 dL_law_796 ?_
  refine n_arg C S (pc := 797) (j := 2) (by decide) (by omega) hL dL_law_797 dL_law_798 dL_law_799 dL_law_800 dL_law_801 ?_
  refine n_callVi C (pc := 802) (wf := xw (g, I)) (xw_adr _) [.int (xs (6 * k + 1)), .int (xs (6 * k + 2))] hX (xe_0 (g, I) X) rfl ml_L_95 co_X8_bout im_X8_bout se_X8_bout in_X8 hy_X8_bout (Nat.le_of_ble_eq_true rfl) (Nat.le_of_ble_eq_true rfl) (Nat.le_of_ble_eq_true rfl) hcs dL_law_802 rfl (fun r X1 p1 => ?_)
  refine n_swap ?_
  refine n_aload_n C (pc := 805) dL_law_805 2 rfl rfl ?_
  refine n_arg C S (pc := 806) (j := 1) (by decide) (by omega) hL dL_law_806 dL_law_807 dL_law_808 dL_law_809 dL_law_810 ?_
  refine n_arg C S (pc := 811) (j := 2) (by decide) (by omega) hL dL_law_811 dL_law_812 dL_law_813 dL_law_814 dL_law_815 ?_
  refine n_callVi C (pc := 816) (wf := mw (h, I)) (mw_adr _) [.int (xs (6 * k + 1)), .int (xs (6 * k + 2))] hM (me_0 (h, I) M) rfl ml_L_98 co_X9_bout im_X9_bout se_X9_bout in_X9 hy_X9_bout (Nat.le_of_ble_eq_true rfl) (Nat.le_of_ble_eq_true rfl) (Nat.le_of_ble_eq_true rfl) hcs dL_law_816 rfl (fun r2 M1 p2 => ?_)
  refine n_swap ?_
  obtain ⟨e, hR1⟩ := hf r X1 r2 M1 p1 p2
  exact n_icmp_eq C (pc := 819) (tgt := 1185) dL_law_819 (by decide) (fun _ => fin X1 M1 hR1) (fun q => absurd e q)
theorem case_sat {K : Cx} {I : ClassId × ClassId × ClassId × ClassId × ClassId} {g h : Nat → Nat} {b L kc ns : Nat} {xs : Nat → Int32} {k : Nat} {X M : St} (C : NC K 4 cL_law RL room_1 (tyG (g, I))) (S : SC K b L xs) (hcs : kc ≤ room_1.cells ∧ ns ≤ room_1.slots) (hR : Rel k X M) (hk : k < 512) (hi : 6 * k + 6 ≤ L) (hL : L ≤ 3072) (fin : ∀ X1 M1 : St, Rel (k + 1) X1 M1 → WN K 4 kc ns (xw (g, I) X1 ++ mw (h, I) M1) 1185 [(0, .ref b), (1, .ref (g 0)), (2, .ref (h 0)), (3, .int (nI (6 * k)))] []) : WN K 4 kc ns (xw (g, I) X ++ mw (h, I) M) 824 [(0, .ref b), (1, .ref (g 0)), (2, .ref (h 0)), (3, .int (nI (6 * k)))] [] := by
  obtain ⟨PX, PM, hX, hM, hf⟩ := law_sat hR (g, I) (h, I)
  refine n_aload_n C (pc := 824) dL_law_824 1 rfl rfl ?_
  refine n_callVi C (pc := 825) (wf := xw (g, I)) (xw_adr _) [] hX (xe_0 (g, I) X) rfl ml_L_99 co_X8_sat im_X8_sat se_X8_sat in_X8 hy_X8_sat (Nat.le_of_ble_eq_true rfl) (Nat.le_of_ble_eq_true rfl) (Nat.le_of_ble_eq_true rfl) hcs dL_law_825 rfl (fun r X1 p1 => ?_)
  refine n_swap ?_
  refine n_aload_n C (pc := 828) dL_law_828 2 rfl rfl ?_
  refine n_callVi C (pc := 829) (wf := mw (h, I)) (mw_adr _) [] hM (me_0 (h, I) M) rfl ml_L_102 co_X9_sat im_X9_sat se_X9_sat in_X9 hy_X9_sat (Nat.le_of_ble_eq_true rfl) (Nat.le_of_ble_eq_true rfl) (Nat.le_of_ble_eq_true rfl) hcs dL_law_829 rfl (fun r2 M1 p2 => ?_)
  refine n_swap ?_
  obtain ⟨e, hR1⟩ := hf r X1 r2 M1 p1 p2
  exact n_icmp_eq C (pc := 832) (tgt := 1185) dL_law_832 (by decide) (fun _ => fin X1 M1 hR1) (fun q => absurd e q)
theorem case_line {K : Cx} {I : ClassId × ClassId × ClassId × ClassId × ClassId} {g h : Nat → Nat} {b L kc ns : Nat} {xs : Nat → Int32} {k : Nat} {X M : St} (C : NC K 4 cL_law RL room_1 (tyG (g, I))) (S : SC K b L xs) (hcs : kc ≤ room_1.cells ∧ ns ≤ room_1.slots) (hR : Rel k X M) (hk : k < 512) (hi : 6 * k + 6 ≤ L) (hL : L ≤ 3072) (fin : ∀ X1 M1 : St, Rel (k + 1) X1 M1 → WN K 4 kc ns (xw (g, I) X1 ++ mw (h, I) M1) 1185 [(0, .ref b), (1, .ref (g 0)), (2, .ref (h 0)), (3, .int (nI (6 * k)))] []) : WN K 4 kc ns (xw (g, I) X ++ mw (h, I) M) 837 [(0, .ref b), (1, .ref (g 0)), (2, .ref (h 0)), (3, .int (nI (6 * k)))] [] := by
  obtain ⟨PX, PM, hX, hM, hf⟩ := law_line hR (xs (6 * k + 1)) (xs (6 * k + 2)) (xs (6 * k + 3)) (g, I) (h, I)
  refine n_aload_n C (pc := 837) dL_law_837 1 rfl rfl ?_
  refine n_arg C S (pc := 838) (j := 1) (by decide) (by omega) hL dL_law_838 dL_law_839 dL_law_840 dL_law_841 dL_law_842 ?_
  refine n_arg C S (pc := 843) (j := 2) (by decide) (by omega) hL dL_law_843 dL_law_844 dL_law_845 dL_law_846 dL_law_847 ?_
  refine n_arg C S (pc := 848) (j := 3) (by decide) (by omega) hL dL_law_848 dL_law_849 dL_law_850 dL_law_851 dL_law_852 ?_
  refine n_callVi C (pc := 853) (wf := xw (g, I)) (xw_adr _) [.int (xs (6 * k + 1)), .int (xs (6 * k + 2)), .int (xs (6 * k + 3))] hX (xe_0 (g, I) X) rfl ml_L_103 co_X8_line im_X8_line se_X8_line in_X8 hy_X8_line (Nat.le_of_ble_eq_true rfl) (Nat.le_of_ble_eq_true rfl) (Nat.le_of_ble_eq_true rfl) hcs dL_law_853 rfl (fun r X1 p1 => ?_)
  refine n_swap ?_
  refine n_aload_n C (pc := 856) dL_law_856 2 rfl rfl ?_
  refine n_arg C S (pc := 857) (j := 1) (by decide) (by omega) hL dL_law_857 dL_law_858 dL_law_859 dL_law_860 dL_law_861 ?_
  refine n_arg C S (pc := 862) (j := 2) (by decide) (by omega) hL dL_law_862 dL_law_863 dL_law_864 dL_law_865 dL_law_866 ?_
  refine n_arg C S (pc := 867) (j := 3) (by decide) (by omega) hL dL_law_867 dL_law_868 dL_law_869 dL_law_870 dL_law_871 ?_
  refine n_callVi C (pc := 872) (wf := mw (h, I)) (mw_adr _) [.int (xs (6 * k + 1)), .int (xs (6 * k + 2)), .int (xs (6 * k + 3))] hM (me_0 (h, I) M) rfl ml_L_106 co_X9_line im_X9_line se_X9_line in_X9 hy_X9_line (Nat.le_of_ble_eq_true rfl) (Nat.le_of_ble_eq_true rfl) (Nat.le_of_ble_eq_true rfl) hcs dL_law_872 rfl (fun r2 M1 p2 => ?_)
  refine n_swap ?_
  obtain ⟨e, hR1⟩ := hf r X1 r2 M1 p1 p2
  exact n_icmp_eq C (pc := 875) (tgt := 1185) dL_law_875 (by decide) (fun _ => fin X1 M1 hR1) (fun q => absurd e q)
theorem case_anew {K : Cx} {I : ClassId × ClassId × ClassId × ClassId × ClassId} {g h : Nat → Nat} {b L kc ns : Nat} {xs : Nat → Int32} {k : Nat} {X M : St} (C : NC K 4 cL_law RL room_1 (tyG (g, I))) (S : SC K b L xs) (hcs : kc ≤ room_1.cells ∧ ns ≤ room_1.slots) (hR : Rel k X M) (hk : k < 512) (hi : 6 * k + 6 ≤ L) (hL : L ≤ 3072) (fin : ∀ X1 M1 : St, Rel (k + 1) X1 M1 → WN K 4 kc ns (xw (g, I) X1 ++ mw (h, I) M1) 1185 [(0, .ref b), (1, .ref (g 0)), (2, .ref (h 0)), (3, .int (nI (6 * k)))] []) : WN K 4 kc ns (xw (g, I) X ++ mw (h, I) M) 880 [(0, .ref b), (1, .ref (g 0)), (2, .ref (h 0)), (3, .int (nI (6 * k)))] [] := by
  obtain ⟨PX, PM, hX, hM, hf⟩ := law_anew hR (g, I) (h, I)
  refine n_aload_n C (pc := 880) dL_law_880 1 rfl rfl ?_
  refine n_callVi C (pc := 881) (wf := xw (g, I)) (xw_adr _) [] hX (xe_0 (g, I) X) rfl ml_L_107 co_X8_anew im_X8_anew se_X8_anew in_X8 hy_X8_anew (Nat.le_of_ble_eq_true rfl) (Nat.le_of_ble_eq_true rfl) (Nat.le_of_ble_eq_true rfl) hcs dL_law_881 rfl (fun r X1 p1 => ?_)
  refine n_swap ?_
  refine n_aload_n C (pc := 884) dL_law_884 2 rfl rfl ?_
  refine n_callVi C (pc := 885) (wf := mw (h, I)) (mw_adr _) [] hM (me_0 (h, I) M) rfl ml_L_110 co_X9_anew im_X9_anew se_X9_anew in_X9 hy_X9_anew (Nat.le_of_ble_eq_true rfl) (Nat.le_of_ble_eq_true rfl) (Nat.le_of_ble_eq_true rfl) hcs dL_law_885 rfl (fun r2 M1 p2 => ?_)
  refine n_swap ?_
  obtain ⟨e, hR1⟩ := hf r X1 r2 M1 p1 p2
  exact n_icmp_eq C (pc := 888) (tgt := 1185) dL_law_888 (by decide) (fun _ => fin X1 M1 hR1) (fun q => absurd e q)
theorem case_why {K : Cx} {I : ClassId × ClassId × ClassId × ClassId × ClassId} {g h : Nat → Nat} {b L kc ns : Nat} {xs : Nat → Int32} {k : Nat} {X M : St} (C : NC K 4 cL_law RL room_1 (tyG (g, I))) (S : SC K b L xs) (hcs : kc ≤ room_1.cells ∧ ns ≤ room_1.slots) (hR : Rel k X M) (hk : k < 512) (hi : 6 * k + 6 ≤ L) (hL : L ≤ 3072) (fin : ∀ X1 M1 : St, Rel (k + 1) X1 M1 → WN K 4 kc ns (xw (g, I) X1 ++ mw (h, I) M1) 1185 [(0, .ref b), (1, .ref (g 0)), (2, .ref (h 0)), (3, .int (nI (6 * k)))] []) : WN K 4 kc ns (xw (g, I) X ++ mw (h, I) M) 893 [(0, .ref b), (1, .ref (g 0)), (2, .ref (h 0)), (3, .int (nI (6 * k)))] [] := by
  obtain ⟨PX, PM, hX, hM, hf⟩ := law_why hR (xs (6 * k + 1)) (g, I) (h, I)
  refine n_aload_n C (pc := 893) dL_law_893 1 rfl rfl ?_
  refine n_arg C S (pc := 894) (j := 1) (by decide) (by omega) hL dL_law_894 dL_law_895 dL_law_896 dL_law_897 dL_law_898 ?_
  refine n_callVi C (pc := 899) (wf := xw (g, I)) (xw_adr _) [.int (xs (6 * k + 1))] hX (xe_0 (g, I) X) rfl ml_L_111 co_X8_why im_X8_why se_X8_why in_X8 hy_X8_why (Nat.le_of_ble_eq_true rfl) (Nat.le_of_ble_eq_true rfl) (Nat.le_of_ble_eq_true rfl) hcs dL_law_899 rfl (fun r X1 p1 => ?_)
  refine n_swap ?_
  refine n_aload_n C (pc := 902) dL_law_902 2 rfl rfl ?_
  refine n_arg C S (pc := 903) (j := 1) (by decide) (by omega) hL dL_law_903 dL_law_904 dL_law_905 dL_law_906 dL_law_907 ?_
  refine n_callVi C (pc := 908) (wf := mw (h, I)) (mw_adr _) [.int (xs (6 * k + 1))] hM (me_0 (h, I) M) rfl ml_L_114 co_X9_why im_X9_why se_X9_why in_X9 hy_X9_why (Nat.le_of_ble_eq_true rfl) (Nat.le_of_ble_eq_true rfl) (Nat.le_of_ble_eq_true rfl) hcs dL_law_908 rfl (fun r2 M1 p2 => ?_)
  refine n_swap ?_
  obtain ⟨e, hR1⟩ := hf r X1 r2 M1 p1 p2
  exact n_icmp_eq C (pc := 911) (tgt := 1185) dL_law_911 (by decide) (fun _ => fin X1 M1 hR1) (fun q => absurd e q)
