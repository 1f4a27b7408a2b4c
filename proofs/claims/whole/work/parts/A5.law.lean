theorem lc_13 {b L X j : Nat} {xs : Nat → Int32} {S : TS} {h : Hp} (hj : 6 * j + 6 ≤ L) (hL : L ≤ 3072) (hI : SInv S) (hC : CRep h X S) (hM : MRep h (X + 126) S) (kk : ∀ (S1 : TS) (h1 : Hp), SInv S1 → CRep h1 X S1 → MRep h1 (X + 126) S1 → AW mL_law (gL b L xs) 1102 [some (.ref b), some (.ref X), some (.ref (X + 126)), some (.int (nI (6 * j)))] [] (158 + 10 * (j + 1)) (28596 + 1010 * (j + 1)) (cn X S1) h1) : AW mL_law (gL b L xs) 611 [some (.ref b), some (.ref X), some (.ref (X + 126)), some (.int (nI (6 * j)))] [] (158 + 10 * j) (28596 + 1010 * j) (cn X S) h := by
  refine aw_aload_n (i := 1) dL_law_611 rfl rfl ?_
  refine aw_aload_n (i := 0) dL_law_612 rfl rfl ?_
  refine aw_iload_n (i := 3) dL_law_613 rfl rfl ?_
  refine aw_iconst (v := 1) dL_law_614 (by decide +kernel) ?_
  refine aw_iadd dL_law_615 ?_
  refine aw_sld dL_law_616 (vin (k := 1) hj hL (by decide) rfl) ?_
  refine aw_aload_n (i := 0) dL_law_617 rfl rfl ?_
  refine aw_iload_n (i := 3) dL_law_618 rfl rfl ?_
  refine aw_iconst (v := 2) dL_law_619 (by decide +kernel) ?_
  refine aw_iadd dL_law_620 ?_
  refine aw_sld dL_law_621 (vin (k := 2) hj hL (by decide) rfl) ?_
  refine aw_aload_n (i := 0) dL_law_622 rfl rfl ?_
  refine aw_iload_n (i := 3) dL_law_623 rfl rfl ?_
  refine aw_iconst (v := 3) dL_law_624 (by decide +kernel) ?_
  refine aw_iadd dL_law_625 ?_
  refine aw_sld dL_law_626 (vin (k := 3) hj hL (by decide) rfl) ?_
  refine aw_aload_n (i := 0) dL_law_627 rfl rfl ?_
  refine aw_iload_n (i := 3) dL_law_628 rfl rfl ?_
  refine aw_iconst (v := 4) dL_law_629 (by decide +kernel) ?_
  refine aw_iadd dL_law_630 ?_
  refine aw_sld dL_law_631 (vin (k := 4) hj hL (by decide) rfl) ?_
  refine aw_invokevirtual kL_70 dL_law_632 hC.at (ck_bound h X S _ _ _ _ hC hI) rfl rfl (Nat.le_of_ble_eq_true rfl) ⟨Nat.le_of_ble_eq_true rfl, Nat.le_of_ble_eq_true rfl⟩ ⟨by show _ ≤ 600000; omega, by show _ ≤ 7302249; omega⟩ ?_
  rintro _ _ h1 ⟨rfl, rfl, hC1, hf1⟩
  have hM1 := hf1.mr hM
  refine aw_aload_n (i := 2) dL_law_635 rfl rfl ?_
  refine aw_aload_n (i := 0) dL_law_636 rfl rfl ?_
  refine aw_iload_n (i := 3) dL_law_637 rfl rfl ?_
  refine aw_iconst (v := 1) dL_law_638 (by decide +kernel) ?_
  refine aw_iadd dL_law_639 ?_
  refine aw_sld dL_law_640 (vin (k := 1) hj hL (by decide) rfl) ?_
  refine aw_aload_n (i := 0) dL_law_641 rfl rfl ?_
  refine aw_iload_n (i := 3) dL_law_642 rfl rfl ?_
  refine aw_iconst (v := 2) dL_law_643 (by decide +kernel) ?_
  refine aw_iadd dL_law_644 ?_
  refine aw_sld dL_law_645 (vin (k := 2) hj hL (by decide) rfl) ?_
  refine aw_aload_n (i := 0) dL_law_646 rfl rfl ?_
  refine aw_iload_n (i := 3) dL_law_647 rfl rfl ?_
  refine aw_iconst (v := 3) dL_law_648 (by decide +kernel) ?_
  refine aw_iadd dL_law_649 ?_
  refine aw_sld dL_law_650 (vin (k := 3) hj hL (by decide) rfl) ?_
  refine aw_aload_n (i := 0) dL_law_651 rfl rfl ?_
  refine aw_iload_n (i := 3) dL_law_652 rfl rfl ?_
  refine aw_iconst (v := 4) dL_law_653 (by decide +kernel) ?_
  refine aw_iadd dL_law_654 ?_
  refine aw_sld dL_law_655 (vin (k := 4) hj hL (by decide) rfl) ?_
  refine aw_invokevirtual kL_73 dL_law_656 hM1.at (mt_bound _ h1 (X + 126) S _ _ _ _ hM1 hI) rfl rfl (Nat.le_of_ble_eq_true rfl) ⟨Nat.le_of_ble_eq_true rfl, Nat.le_of_ble_eq_true rfl⟩ ⟨by show _ ≤ 600000; omega, by show _ ≤ 7302249; omega⟩ ?_
  rintro _ _ h2 ⟨rfl, rfl, hM2, hf2⟩
  refine aw_icmp_eq (tgt := 1102) dL_law_659 (by decide) (fun _ => ?_) (fun c => (c rfl).elim)
  exact AW.widen (by omega) (by omega) (kk _ h2 (iv_bound hI _ _ _ _) (hf2.cr hC1) hM2)
theorem lc_14 {b L X j : Nat} {xs : Nat → Int32} {S : TS} {h : Hp} (hj : 6 * j + 6 ≤ L) (hL : L ≤ 3072) (hI : SInv S) (hC : CRep h X S) (hM : MRep h (X + 126) S) (kk : ∀ (S1 : TS) (h1 : Hp), SInv S1 → CRep h1 X S1 → MRep h1 (X + 126) S1 → AW mL_law (gL b L xs) 1102 [some (.ref b), some (.ref X), some (.ref (X + 126)), some (.int (nI (6 * j)))] [] (158 + 10 * (j + 1)) (28596 + 1010 * (j + 1)) (cn X S1) h1) : AW mL_law (gL b L xs) 664 [some (.ref b), some (.ref X), some (.ref (X + 126)), some (.int (nI (6 * j)))] [] (158 + 10 * j) (28596 + 1010 * j) (cn X S) h := by
  refine aw_aload_n (i := 1) dL_law_664 rfl rfl ?_
  refine aw_invokevirtual kL_74 dL_law_665 hC.at (ck_base h X S  hC) rfl rfl (Nat.le_of_ble_eq_true rfl) ⟨Nat.le_of_ble_eq_true rfl, Nat.le_of_ble_eq_true rfl⟩ ⟨by show _ ≤ 600000; omega, by show _ ≤ 7302249; omega⟩ ?_
  rintro _ _ h1 ⟨rfl, rfl, hC1, hf1⟩
  have hM1 := hf1.mr hM
  refine aw_aload_n (i := 2) dL_law_668 rfl rfl ?_
  refine aw_invokevirtual kL_77 dL_law_669 hM1.at (mt_base _ h1 (X + 126) S  hM1) rfl rfl (Nat.le_of_ble_eq_true rfl) ⟨Nat.le_of_ble_eq_true rfl, Nat.le_of_ble_eq_true rfl⟩ ⟨by show _ ≤ 600000; omega, by show _ ≤ 7302249; omega⟩ ?_
  rintro _ _ h2 ⟨rfl, rfl, hM2, hf2⟩
  refine aw_icmp_eq (tgt := 1102) dL_law_672 (by decide) (fun _ => ?_) (fun c => (c rfl).elim)
  exact AW.widen (by omega) (by omega) (kk _ h2 (iv_base hI ) (hf2.cr hC1) hM2)
theorem lc_15 {b L X j : Nat} {xs : Nat → Int32} {S : TS} {h : Hp} (hj : 6 * j + 6 ≤ L) (hL : L ≤ 3072) (hI : SInv S) (hC : CRep h X S) (hM : MRep h (X + 126) S) (kk : ∀ (S1 : TS) (h1 : Hp), SInv S1 → CRep h1 X S1 → MRep h1 (X + 126) S1 → AW mL_law (gL b L xs) 1102 [some (.ref b), some (.ref X), some (.ref (X + 126)), some (.int (nI (6 * j)))] [] (158 + 10 * (j + 1)) (28596 + 1010 * (j + 1)) (cn X S1) h1) : AW mL_law (gL b L xs) 677 [some (.ref b), some (.ref X), some (.ref (X + 126)), some (.int (nI (6 * j)))] [] (158 + 10 * j) (28596 + 1010 * j) (cn X S) h := by
  refine aw_aload_n (i := 1) dL_law_677 rfl rfl ?_
  refine aw_aload_n (i := 0) dL_law_678 rfl rfl ?_
  refine aw_iload_n (i := 3) dL_law_679 rfl rfl ?_
  refine aw_iconst (v := 1) dL_law_680 (by decide +kernel) ?_
  refine aw_iadd dL_law_681 ?_
  refine aw_sld dL_law_682 (vin (k := 1) hj hL (by decide) rfl) ?_
  refine aw_aload_n (i := 0) dL_law_683 rfl rfl ?_
  refine aw_iload_n (i := 3) dL_law_684 rfl rfl ?_
  refine aw_iconst (v := 2) dL_law_685 (by decide +kernel) ?_
  refine aw_iadd dL_law_686 ?_
  refine aw_sld dL_law_687 (vin (k := 2) hj hL (by decide) rfl) ?_
  refine aw_aload_n (i := 0) dL_law_688 rfl rfl ?_
  refine aw_iload_n (i := 3) dL_law_689 rfl rfl ?_
  refine aw_iconst (v := 3) dL_law_690 (by decide +kernel) ?_
  refine aw_iadd dL_law_691 ?_
  refine aw_sld dL_law_692 (vin (k := 3) hj hL (by decide) rfl) ?_
  refine aw_aload_n (i := 0) dL_law_693 rfl rfl ?_
  refine aw_iload_n (i := 3) dL_law_694 rfl rfl ?_
  refine aw_iconst (v := 4) dL_law_695 (by decide +kernel) ?_
  refine aw_iadd dL_law_696 ?_
  refine aw_sld dL_law_697 (vin (k := 4) hj hL (by decide) rfl) ?_
  refine aw_invokevirtual kL_78 dL_law_698 hC.at (ck_work h X S _ _ _ _ hC hI) rfl rfl (Nat.le_of_ble_eq_true rfl) ⟨Nat.le_of_ble_eq_true rfl, Nat.le_of_ble_eq_true rfl⟩ ⟨by show _ ≤ 600000; omega, by show _ ≤ 7302249; omega⟩ ?_
  rintro _ _ h1 ⟨rfl, rfl, hC1, hf1⟩
  have hM1 := hf1.mr hM
  refine aw_aload_n (i := 2) dL_law_701 rfl rfl ?_
  refine aw_aload_n (i := 0) dL_law_702 rfl rfl ?_
  refine aw_iload_n (i := 3) dL_law_703 rfl rfl ?_
  refine aw_iconst (v := 1) dL_law_704 (by decide +kernel) ?_
  refine aw_iadd dL_law_705 ?_
  refine aw_sld dL_law_706 (vin (k := 1) hj hL (by decide) rfl) ?_
  refine aw_aload_n (i := 0) dL_law_707 rfl rfl ?_
  refine aw_iload_n (i := 3) dL_law_708 rfl rfl ?_
  refine aw_iconst (v := 2) dL_law_709 (by decide +kernel) ?_
  refine aw_iadd dL_law_710 ?_
  refine aw_sld dL_law_711 (vin (k := 2) hj hL (by decide) rfl) ?_
  refine aw_aload_n (i := 0) dL_law_712 rfl rfl ?_
  refine aw_iload_n (i := 3) dL_law_713 rfl rfl ?_
  refine aw_iconst (v := 3) dL_law_714 (by decide +kernel) ?_
  refine aw_iadd dL_law_715 ?_
  refine aw_sld dL_law_716 (vin (k := 3) hj hL (by decide) rfl) ?_
  refine aw_aload_n (i := 0) dL_law_717 rfl rfl ?_
  refine aw_iload_n (i := 3) dL_law_718 rfl rfl ?_
  refine aw_iconst (v := 4) dL_law_719 (by decide +kernel) ?_
  refine aw_iadd dL_law_720 ?_
  refine aw_sld dL_law_721 (vin (k := 4) hj hL (by decide) rfl) ?_
  refine aw_invokevirtual kL_81 dL_law_722 hM1.at (mt_work _ h1 (X + 126) S _ _ _ _ hM1 hI) rfl rfl (Nat.le_of_ble_eq_true rfl) ⟨Nat.le_of_ble_eq_true rfl, Nat.le_of_ble_eq_true rfl⟩ ⟨by show _ ≤ 600000; omega, by show _ ≤ 7302249; omega⟩ ?_
  rintro _ _ h2 ⟨rfl, rfl, hM2, hf2⟩
  refine aw_icmp_eq (tgt := 1102) dL_law_725 (by decide) (fun _ => ?_) (fun c => (c rfl).elim)
  exact AW.widen (by omega) (by omega) (kk _ h2 (iv_work hI _ _ _ _) (hf2.cr hC1) hM2)
theorem lc_16 {b L X j : Nat} {xs : Nat → Int32} {S : TS} {h : Hp} (hj : 6 * j + 6 ≤ L) (hL : L ≤ 3072) (hI : SInv S) (hC : CRep h X S) (hM : MRep h (X + 126) S) (kk : ∀ (S1 : TS) (h1 : Hp), SInv S1 → CRep h1 X S1 → MRep h1 (X + 126) S1 → AW mL_law (gL b L xs) 1102 [some (.ref b), some (.ref X), some (.ref (X + 126)), some (.int (nI (6 * j)))] [] (158 + 10 * (j + 1)) (28596 + 1010 * (j + 1)) (cn X S1) h1) : AW mL_law (gL b L xs) 730 [some (.ref b), some (.ref X), some (.ref (X + 126)), some (.int (nI (6 * j)))] [] (158 + 10 * j) (28596 + 1010 * j) (cn X S) h := by
  refine aw_aload_n (i := 1) dL_law_730 rfl rfl ?_
  refine aw_aload_n (i := 0) dL_law_731 rfl rfl ?_
  refine aw_iload_n (i := 3) dL_law_732 rfl rfl ?_
  refine aw_iconst (v := 1) dL_law_733 (by decide +kernel) ?_
  refine aw_iadd dL_law_734 ?_
  refine aw_sld dL_law_735 (vin (k := 1) hj hL (by decide) rfl) ?_
  refine aw_aload_n (i := 0) dL_law_736 rfl rfl ?_
  refine aw_iload_n (i := 3) dL_law_737 rfl rfl ?_
  refine aw_iconst (v := 2) dL_law_738 (by decide +kernel) ?_
  refine aw_iadd dL_law_739 ?_
  refine aw_sld dL_law_740 (vin (k := 2) hj hL (by decide) rfl) ?_
  refine aw_invokevirtual kL_82 dL_law_741 hC.at (ck_order h X S _ _ hC) rfl rfl (Nat.le_of_ble_eq_true rfl) ⟨Nat.le_of_ble_eq_true rfl, Nat.le_of_ble_eq_true rfl⟩ ⟨by show _ ≤ 600000; omega, by show _ ≤ 7302249; omega⟩ ?_
  rintro _ _ h1 ⟨rfl, rfl, hC1, hf1⟩
  have hM1 := hf1.mr hM
  refine aw_aload_n (i := 2) dL_law_744 rfl rfl ?_
  refine aw_aload_n (i := 0) dL_law_745 rfl rfl ?_
  refine aw_iload_n (i := 3) dL_law_746 rfl rfl ?_
  refine aw_iconst (v := 1) dL_law_747 (by decide +kernel) ?_
  refine aw_iadd dL_law_748 ?_
  refine aw_sld dL_law_749 (vin (k := 1) hj hL (by decide) rfl) ?_
  refine aw_aload_n (i := 0) dL_law_750 rfl rfl ?_
  refine aw_iload_n (i := 3) dL_law_751 rfl rfl ?_
  refine aw_iconst (v := 2) dL_law_752 (by decide +kernel) ?_
  refine aw_iadd dL_law_753 ?_
  refine aw_sld dL_law_754 (vin (k := 2) hj hL (by decide) rfl) ?_
  refine aw_invokevirtual kL_85 dL_law_755 hM1.at (mt_order _ h1 (X + 126) S _ _ hM1 hI) rfl rfl (Nat.le_of_ble_eq_true rfl) ⟨Nat.le_of_ble_eq_true rfl, Nat.le_of_ble_eq_true rfl⟩ ⟨by show _ ≤ 600000; omega, by show _ ≤ 7302249; omega⟩ ?_
  rintro _ _ h2 ⟨rfl, rfl, hM2, hf2⟩
  refine aw_icmp_eq (tgt := 1102) dL_law_758 (by decide) (fun _ => ?_) (fun c => (c rfl).elim)
  exact AW.widen (by omega) (by omega) (kk _ h2 (iv_order hI _ _) (hf2.cr hC1) hM2)
theorem lc_17 {b L X j : Nat} {xs : Nat → Int32} {S : TS} {h : Hp} (hj : 6 * j + 6 ≤ L) (hL : L ≤ 3072) (hI : SInv S) (hC : CRep h X S) (hM : MRep h (X + 126) S) (kk : ∀ (S1 : TS) (h1 : Hp), SInv S1 → CRep h1 X S1 → MRep h1 (X + 126) S1 → AW mL_law (gL b L xs) 1102 [some (.ref b), some (.ref X), some (.ref (X + 126)), some (.int (nI (6 * j)))] [] (158 + 10 * (j + 1)) (28596 + 1010 * (j + 1)) (cn X S1) h1) : AW mL_law (gL b L xs) 763 [some (.ref b), some (.ref X), some (.ref (X + 126)), some (.int (nI (6 * j)))] [] (158 + 10 * j) (28596 + 1010 * j) (cn X S) h := by
  refine aw_aload_n (i := 1) dL_law_763 rfl rfl ?_
  refine aw_aload_n (i := 0) dL_law_764 rfl rfl ?_
  refine aw_iload_n (i := 3) dL_law_765 rfl rfl ?_
  refine aw_iconst (v := 1) dL_law_766 (by decide +kernel) ?_
  refine aw_iadd dL_law_767 ?_
  refine aw_sld dL_law_768 (vin (k := 1) hj hL (by decide) rfl) ?_
  refine aw_aload_n (i := 0) dL_law_769 rfl rfl ?_
  refine aw_iload_n (i := 3) dL_law_770 rfl rfl ?_
  refine aw_iconst (v := 2) dL_law_771 (by decide +kernel) ?_
  refine aw_iadd dL_law_772 ?_
  refine aw_sld dL_law_773 (vin (k := 2) hj hL (by decide) rfl) ?_
  refine aw_invokevirtual kL_86 dL_law_774 hC.at (ck_limbs h X S _ _ hC) rfl rfl (Nat.le_of_ble_eq_true rfl) ⟨Nat.le_of_ble_eq_true rfl, Nat.le_of_ble_eq_true rfl⟩ ⟨by show _ ≤ 600000; omega, by show _ ≤ 7302249; omega⟩ ?_
  rintro _ _ h1 ⟨rfl, rfl, hC1, hf1⟩
  have hM1 := hf1.mr hM
  refine aw_aload_n (i := 2) dL_law_777 rfl rfl ?_
  refine aw_aload_n (i := 0) dL_law_778 rfl rfl ?_
  refine aw_iload_n (i := 3) dL_law_779 rfl rfl ?_
  refine aw_iconst (v := 1) dL_law_780 (by decide +kernel) ?_
  refine aw_iadd dL_law_781 ?_
  refine aw_sld dL_law_782 (vin (k := 1) hj hL (by decide) rfl) ?_
  refine aw_aload_n (i := 0) dL_law_783 rfl rfl ?_
  refine aw_iload_n (i := 3) dL_law_784 rfl rfl ?_
  refine aw_iconst (v := 2) dL_law_785 (by decide +kernel) ?_
  refine aw_iadd dL_law_786 ?_
  refine aw_sld dL_law_787 (vin (k := 2) hj hL (by decide) rfl) ?_
  refine aw_invokevirtual kL_89 dL_law_788 hM1.at (mt_limbs _ h1 (X + 126) S _ _ hM1 hI) rfl rfl (Nat.le_of_ble_eq_true rfl) ⟨Nat.le_of_ble_eq_true rfl, Nat.le_of_ble_eq_true rfl⟩ ⟨by show _ ≤ 600000; omega, by show _ ≤ 7302249; omega⟩ ?_
  rintro _ _ h2 ⟨rfl, rfl, hM2, hf2⟩
  refine aw_icmp_eq (tgt := 1102) dL_law_791 (by decide) (fun _ => ?_) (fun c => (c rfl).elim)
  exact AW.widen (by omega) (by omega) (kk _ h2 (iv_limbs hI _ _) (hf2.cr hC1) hM2)
theorem lc_18 {b L X j : Nat} {xs : Nat → Int32} {S : TS} {h : Hp} (hj : 6 * j + 6 ≤ L) (hL : L ≤ 3072) (hI : SInv S) (hC : CRep h X S) (hM : MRep h (X + 126) S) (kk : ∀ (S1 : TS) (h1 : Hp), SInv S1 → CRep h1 X S1 → MRep h1 (X + 126) S1 → AW mL_law (gL b L xs) 1102 [some (.ref b), some (.ref X), some (.ref (X + 126)), some (.int (nI (6 * j)))] [] (158 + 10 * (j + 1)) (28596 + 1010 * (j + 1)) (cn X S1) h1) : AW mL_law (gL b L xs) 796 [some (.ref b), some (.ref X), some (.ref (X + 126)), some (.int (nI (6 * j)))] [] (158 + 10 * j) (28596 + 1010 * j) (cn X S) h := by
  refine aw_aload_n (i := 1) dL_law_796 rfl rfl ?_
  refine aw_aload_n (i := 0) dL_law_797 rfl rfl ?_
  refine aw_iload_n (i := 3) dL_law_798 rfl rfl ?_
  refine aw_iconst (v := 1) dL_law_799 (by decide +kernel) ?_
  refine aw_iadd dL_law_800 ?_
  refine aw_sld dL_law_801 (vin (k := 1) hj hL (by decide) rfl) ?_
  refine aw_aload_n (i := 0) dL_law_802 rfl rfl ?_
  refine aw_iload_n (i := 3) dL_law_803 rfl rfl ?_
  refine aw_iconst (v := 2) dL_law_804 (by decide +kernel) ?_
  refine aw_iadd dL_law_805 ?_
  refine aw_sld dL_law_806 (vin (k := 2) hj hL (by decide) rfl) ?_
  refine aw_aload_n (i := 0) dL_law_807 rfl rfl ?_
  refine aw_iload_n (i := 3) dL_law_808 rfl rfl ?_
  refine aw_iconst (v := 3) dL_law_809 (by decide +kernel) ?_
  refine aw_iadd dL_law_810 ?_
  refine aw_sld dL_law_811 (vin (k := 3) hj hL (by decide) rfl) ?_
  refine aw_invokevirtual kL_90 dL_law_812 hC.at (ck_limb h X S _ _ _ hC) rfl rfl (Nat.le_of_ble_eq_true rfl) ⟨Nat.le_of_ble_eq_true rfl, Nat.le_of_ble_eq_true rfl⟩ ⟨by show _ ≤ 600000; omega, by show _ ≤ 7302249; omega⟩ ?_
  rintro _ _ h1 ⟨rfl, rfl, hC1, hf1⟩
  have hM1 := hf1.mr hM
  refine aw_aload_n (i := 2) dL_law_815 rfl rfl ?_
  refine aw_aload_n (i := 0) dL_law_816 rfl rfl ?_
  refine aw_iload_n (i := 3) dL_law_817 rfl rfl ?_
  refine aw_iconst (v := 1) dL_law_818 (by decide +kernel) ?_
  refine aw_iadd dL_law_819 ?_
  refine aw_sld dL_law_820 (vin (k := 1) hj hL (by decide) rfl) ?_
  refine aw_aload_n (i := 0) dL_law_821 rfl rfl ?_
  refine aw_iload_n (i := 3) dL_law_822 rfl rfl ?_
  refine aw_iconst (v := 2) dL_law_823 (by decide +kernel) ?_
  refine aw_iadd dL_law_824 ?_
  refine aw_sld dL_law_825 (vin (k := 2) hj hL (by decide) rfl) ?_
  refine aw_aload_n (i := 0) dL_law_826 rfl rfl ?_
  refine aw_iload_n (i := 3) dL_law_827 rfl rfl ?_
  refine aw_iconst (v := 3) dL_law_828 (by decide +kernel) ?_
  refine aw_iadd dL_law_829 ?_
  refine aw_sld dL_law_830 (vin (k := 3) hj hL (by decide) rfl) ?_
  refine aw_invokevirtual kL_94 dL_law_831 hM1.at (mt_limb _ h1 (X + 126) S _ _ _ hM1 hI) rfl rfl (Nat.le_of_ble_eq_true rfl) ⟨Nat.le_of_ble_eq_true rfl, Nat.le_of_ble_eq_true rfl⟩ ⟨by show _ ≤ 600000; omega, by show _ ≤ 7302249; omega⟩ ?_
  rintro _ _ h2 ⟨rfl, rfl, hM2, hf2⟩
  refine aw_lcmp dL_law_834 ?_
  refine aw_if_eq (tgt := 1102) dL_law_835 (by decide) (fun _ => ?_) (fun c => (c (lcmp_self _)).elim)
  exact AW.widen (by omega) (by omega) (kk _ h2 (iv_limb hI _ _ _) (hf2.cr hC1) hM2)
theorem lc_19 {b L X j : Nat} {xs : Nat → Int32} {S : TS} {h : Hp} (hj : 6 * j + 6 ≤ L) (hL : L ≤ 3072) (hI : SInv S) (hC : CRep h X S) (hM : MRep h (X + 126) S) (kk : ∀ (S1 : TS) (h1 : Hp), SInv S1 → CRep h1 X S1 → MRep h1 (X + 126) S1 → AW mL_law (gL b L xs) 1102 [some (.ref b), some (.ref X), some (.ref (X + 126)), some (.int (nI (6 * j)))] [] (158 + 10 * (j + 1)) (28596 + 1010 * (j + 1)) (cn X S1) h1) : AW mL_law (gL b L xs) 840 [some (.ref b), some (.ref X), some (.ref (X + 126)), some (.int (nI (6 * j)))] [] (158 + 10 * j) (28596 + 1010 * j) (cn X S) h := by
  refine aw_aload_n (i := 1) dL_law_840 rfl rfl ?_
  refine aw_aload_n (i := 0) dL_law_841 rfl rfl ?_
  refine aw_iload_n (i := 3) dL_law_842 rfl rfl ?_
  refine aw_iconst (v := 1) dL_law_843 (by decide +kernel) ?_
  refine aw_iadd dL_law_844 ?_
  refine aw_sld dL_law_845 (vin (k := 1) hj hL (by decide) rfl) ?_
  refine aw_aload_n (i := 0) dL_law_846 rfl rfl ?_
  refine aw_iload_n (i := 3) dL_law_847 rfl rfl ?_
  refine aw_iconst (v := 2) dL_law_848 (by decide +kernel) ?_
  refine aw_iadd dL_law_849 ?_
  refine aw_sld dL_law_850 (vin (k := 2) hj hL (by decide) rfl) ?_
  refine aw_invokevirtual kL_95 dL_law_851 hC.at (ck_digits h X S _ _ hC hI) rfl rfl (Nat.le_of_ble_eq_true rfl) ⟨Nat.le_of_ble_eq_true rfl, Nat.le_of_ble_eq_true rfl⟩ ⟨by show _ ≤ 600000; omega, by show _ ≤ 7302249; omega⟩ ?_
  rintro _ _ h1 ⟨rfl, rfl, hC1, hf1⟩
  have hM1 := hf1.mr hM
  refine aw_aload_n (i := 2) dL_law_854 rfl rfl ?_
  refine aw_aload_n (i := 0) dL_law_855 rfl rfl ?_
  refine aw_iload_n (i := 3) dL_law_856 rfl rfl ?_
  refine aw_iconst (v := 1) dL_law_857 (by decide +kernel) ?_
  refine aw_iadd dL_law_858 ?_
  refine aw_sld dL_law_859 (vin (k := 1) hj hL (by decide) rfl) ?_
  refine aw_aload_n (i := 0) dL_law_860 rfl rfl ?_
  refine aw_iload_n (i := 3) dL_law_861 rfl rfl ?_
  refine aw_iconst (v := 2) dL_law_862 (by decide +kernel) ?_
  refine aw_iadd dL_law_863 ?_
  refine aw_sld dL_law_864 (vin (k := 2) hj hL (by decide) rfl) ?_
  refine aw_invokevirtual kL_99 dL_law_865 hM1.at (mt_digits _ h1 (X + 126) S _ _ hM1 hI) rfl rfl (Nat.le_of_ble_eq_true rfl) ⟨Nat.le_of_ble_eq_true rfl, Nat.le_of_ble_eq_true rfl⟩ ⟨by show _ ≤ 600000; omega, by show _ ≤ 7302249; omega⟩ ?_
  rintro _ _ h2 ⟨rfl, rfl, hM2, hf2⟩
  refine aw_lcmp dL_law_868 ?_
  refine aw_if_eq (tgt := 1102) dL_law_869 (by decide) (fun _ => ?_) (fun c => (c (lcmp_self _)).elim)
  exact AW.widen (by omega) (by omega) (kk _ h2 (iv_digits hI _ _) (hf2.cr hC1) hM2)
theorem lc_20 {b L X j : Nat} {xs : Nat → Int32} {S : TS} {h : Hp} (hj : 6 * j + 6 ≤ L) (hL : L ≤ 3072) (hI : SInv S) (hC : CRep h X S) (hM : MRep h (X + 126) S) (kk : ∀ (S1 : TS) (h1 : Hp), SInv S1 → CRep h1 X S1 → MRep h1 (X + 126) S1 → AW mL_law (gL b L xs) 1102 [some (.ref b), some (.ref X), some (.ref (X + 126)), some (.int (nI (6 * j)))] [] (158 + 10 * (j + 1)) (28596 + 1010 * (j + 1)) (cn X S1) h1) : AW mL_law (gL b L xs) 874 [some (.ref b), some (.ref X), some (.ref (X + 126)), some (.int (nI (6 * j)))] [] (158 + 10 * j) (28596 + 1010 * j) (cn X S) h := by
  refine aw_aload_n (i := 1) dL_law_874 rfl rfl ?_
  refine aw_aload_n (i := 0) dL_law_875 rfl rfl ?_
  refine aw_iload_n (i := 3) dL_law_876 rfl rfl ?_
  refine aw_iconst (v := 1) dL_law_877 (by decide +kernel) ?_
  refine aw_iadd dL_law_878 ?_
  refine aw_sld dL_law_879 (vin (k := 1) hj hL (by decide) rfl) ?_
  refine aw_invokevirtual kL_100 dL_law_880 hC.at (ck_free h X S _ hC) rfl rfl (Nat.le_of_ble_eq_true rfl) ⟨Nat.le_of_ble_eq_true rfl, Nat.le_of_ble_eq_true rfl⟩ ⟨by show _ ≤ 600000; omega, by show _ ≤ 7302249; omega⟩ ?_
  rintro _ _ h1 ⟨rfl, rfl, hC1, hf1⟩
  have hM1 := hf1.mr hM
  refine aw_aload_n (i := 2) dL_law_883 rfl rfl ?_
  refine aw_aload_n (i := 0) dL_law_884 rfl rfl ?_
  refine aw_iload_n (i := 3) dL_law_885 rfl rfl ?_
  refine aw_iconst (v := 1) dL_law_886 (by decide +kernel) ?_
  refine aw_iadd dL_law_887 ?_
  refine aw_sld dL_law_888 (vin (k := 1) hj hL (by decide) rfl) ?_
  refine aw_invokevirtual kL_103 dL_law_889 hM1.at (mt_free _ h1 (X + 126) S _ hM1) rfl rfl (Nat.le_of_ble_eq_true rfl) ⟨Nat.le_of_ble_eq_true rfl, Nat.le_of_ble_eq_true rfl⟩ ⟨by show _ ≤ 600000; omega, by show _ ≤ 7302249; omega⟩ ?_
  rintro _ _ h2 ⟨rfl, rfl, hM2, hf2⟩
  refine aw_icmp_eq (tgt := 1102) dL_law_892 (by decide) (fun _ => ?_) (fun c => (c rfl).elim)
  exact AW.widen (by omega) (by omega) (kk _ h2 (iv_free hI _) (hf2.cr hC1) hM2)
theorem lc_21 {b L X j : Nat} {xs : Nat → Int32} {S : TS} {h : Hp} (hj : 6 * j + 6 ≤ L) (hL : L ≤ 3072) (hI : SInv S) (hC : CRep h X S) (hM : MRep h (X + 126) S) (kk : ∀ (S1 : TS) (h1 : Hp), SInv S1 → CRep h1 X S1 → MRep h1 (X + 126) S1 → AW mL_law (gL b L xs) 1102 [some (.ref b), some (.ref X), some (.ref (X + 126)), some (.int (nI (6 * j)))] [] (158 + 10 * (j + 1)) (28596 + 1010 * (j + 1)) (cn X S1) h1) : AW mL_law (gL b L xs) 897 [some (.ref b), some (.ref X), some (.ref (X + 126)), some (.int (nI (6 * j)))] [] (158 + 10 * j) (28596 + 1010 * j) (cn X S) h := by
  refine aw_aload_n (i := 1) dL_law_897 rfl rfl ?_
  refine aw_aload_n (i := 0) dL_law_898 rfl rfl ?_
  refine aw_iload_n (i := 3) dL_law_899 rfl rfl ?_
  refine aw_iconst (v := 1) dL_law_900 (by decide +kernel) ?_
  refine aw_iadd dL_law_901 ?_
  refine aw_sld dL_law_902 (vin (k := 1) hj hL (by decide) rfl) ?_
  refine aw_aload_n (i := 0) dL_law_903 rfl rfl ?_
  refine aw_iload_n (i := 3) dL_law_904 rfl rfl ?_
  refine aw_iconst (v := 2) dL_law_905 (by decide +kernel) ?_
  refine aw_iadd dL_law_906 ?_
  refine aw_sld dL_law_907 (vin (k := 2) hj hL (by decide) rfl) ?_
  refine aw_invokevirtual kL_104 dL_law_908 hC.at (ck_coin h X S _ _ hC) rfl rfl (Nat.le_of_ble_eq_true rfl) ⟨Nat.le_of_ble_eq_true rfl, Nat.le_of_ble_eq_true rfl⟩ ⟨by show _ ≤ 600000; omega, by show _ ≤ 7302249; omega⟩ ?_
  rintro _ _ h1 ⟨rfl, rfl, hC1, hf1⟩
  have hM1 := hf1.mr hM
  refine aw_aload_n (i := 2) dL_law_911 rfl rfl ?_
  refine aw_aload_n (i := 0) dL_law_912 rfl rfl ?_
  refine aw_iload_n (i := 3) dL_law_913 rfl rfl ?_
  refine aw_iconst (v := 1) dL_law_914 (by decide +kernel) ?_
  refine aw_iadd dL_law_915 ?_
  refine aw_sld dL_law_916 (vin (k := 1) hj hL (by decide) rfl) ?_
  refine aw_aload_n (i := 0) dL_law_917 rfl rfl ?_
  refine aw_iload_n (i := 3) dL_law_918 rfl rfl ?_
  refine aw_iconst (v := 2) dL_law_919 (by decide +kernel) ?_
  refine aw_iadd dL_law_920 ?_
  refine aw_sld dL_law_921 (vin (k := 2) hj hL (by decide) rfl) ?_
  refine aw_invokevirtual kL_107 dL_law_922 hM1.at (mt_coin _ h1 (X + 126) S _ _ hM1) rfl rfl (Nat.le_of_ble_eq_true rfl) ⟨Nat.le_of_ble_eq_true rfl, Nat.le_of_ble_eq_true rfl⟩ ⟨by show _ ≤ 600000; omega, by show _ ≤ 7302249; omega⟩ ?_
  rintro _ _ h2 ⟨rfl, rfl, hM2, hf2⟩
  refine aw_icmp_eq (tgt := 1102) dL_law_925 (by decide) (fun _ => ?_) (fun c => (c rfl).elim)
  exact AW.widen (by omega) (by omega) (kk _ h2 (iv_coin hI _ _) (hf2.cr hC1) hM2)
theorem lc_22 {b L X j : Nat} {xs : Nat → Int32} {S : TS} {h : Hp} (hj : 6 * j + 6 ≤ L) (hL : L ≤ 3072) (hI : SInv S) (hC : CRep h X S) (hM : MRep h (X + 126) S) (kk : ∀ (S1 : TS) (h1 : Hp), SInv S1 → CRep h1 X S1 → MRep h1 (X + 126) S1 → AW mL_law (gL b L xs) 1102 [some (.ref b), some (.ref X), some (.ref (X + 126)), some (.int (nI (6 * j)))] [] (158 + 10 * (j + 1)) (28596 + 1010 * (j + 1)) (cn X S1) h1) : AW mL_law (gL b L xs) 930 [some (.ref b), some (.ref X), some (.ref (X + 126)), some (.int (nI (6 * j)))] [] (158 + 10 * j) (28596 + 1010 * j) (cn X S) h := by
  refine aw_aload_n (i := 1) dL_law_930 rfl rfl ?_
  refine aw_aload_n (i := 0) dL_law_931 rfl rfl ?_
  refine aw_iload_n (i := 3) dL_law_932 rfl rfl ?_
  refine aw_iconst (v := 1) dL_law_933 (by decide +kernel) ?_
  refine aw_iadd dL_law_934 ?_
  refine aw_sld dL_law_935 (vin (k := 1) hj hL (by decide) rfl) ?_
  refine aw_aload_n (i := 0) dL_law_936 rfl rfl ?_
  refine aw_iload_n (i := 3) dL_law_937 rfl rfl ?_
  refine aw_iconst (v := 2) dL_law_938 (by decide +kernel) ?_
  refine aw_iadd dL_law_939 ?_
  refine aw_sld dL_law_940 (vin (k := 2) hj hL (by decide) rfl) ?_
  refine aw_aload_n (i := 0) dL_law_941 rfl rfl ?_
  refine aw_iload_n (i := 3) dL_law_942 rfl rfl ?_
  refine aw_iconst (v := 3) dL_law_943 (by decide +kernel) ?_
  refine aw_iadd dL_law_944 ?_
  refine aw_sld dL_law_945 (vin (k := 3) hj hL (by decide) rfl) ?_
  refine aw_aload_n (i := 0) dL_law_946 rfl rfl ?_
  refine aw_iload_n (i := 3) dL_law_947 rfl rfl ?_
  refine aw_iconst (v := 4) dL_law_948 (by decide +kernel) ?_
  refine aw_iadd dL_law_949 ?_
  refine aw_sld dL_law_950 (vin (k := 4) hj hL (by decide) rfl) ?_
  refine aw_aload_n (i := 0) dL_law_951 rfl rfl ?_
  refine aw_iload_n (i := 3) dL_law_952 rfl rfl ?_
  refine aw_iconst (v := 5) dL_law_953 (by decide +kernel) ?_
  refine aw_iadd dL_law_954 ?_
  refine aw_sld dL_law_955 (vin (k := 5) hj hL (by decide) rfl) ?_
  refine aw_invokevirtual kL_108 dL_law_956 hC.at (ck_needed h X S _ _ _ _ _ hC hI) rfl rfl (Nat.le_of_ble_eq_true rfl) ⟨Nat.le_of_ble_eq_true rfl, Nat.le_of_ble_eq_true rfl⟩ ⟨by show _ ≤ 600000; omega, by show _ ≤ 7302249; omega⟩ ?_
  rintro _ _ h1 ⟨rfl, rfl, hC1, hf1⟩
  have hM1 := hf1.mr hM
  refine aw_aload_n (i := 2) dL_law_959 rfl rfl ?_
  refine aw_aload_n (i := 0) dL_law_960 rfl rfl ?_
  refine aw_iload_n (i := 3) dL_law_961 rfl rfl ?_
  refine aw_iconst (v := 1) dL_law_962 (by decide +kernel) ?_
  refine aw_iadd dL_law_963 ?_
  refine aw_sld dL_law_964 (vin (k := 1) hj hL (by decide) rfl) ?_
  refine aw_aload_n (i := 0) dL_law_965 rfl rfl ?_
  refine aw_iload_n (i := 3) dL_law_966 rfl rfl ?_
  refine aw_iconst (v := 2) dL_law_967 (by decide +kernel) ?_
  refine aw_iadd dL_law_968 ?_
  refine aw_sld dL_law_969 (vin (k := 2) hj hL (by decide) rfl) ?_
  refine aw_aload_n (i := 0) dL_law_970 rfl rfl ?_
  refine aw_iload_n (i := 3) dL_law_971 rfl rfl ?_
  refine aw_iconst (v := 3) dL_law_972 (by decide +kernel) ?_
  refine aw_iadd dL_law_973 ?_
  refine aw_sld dL_law_974 (vin (k := 3) hj hL (by decide) rfl) ?_
  refine aw_aload_n (i := 0) dL_law_975 rfl rfl ?_
  refine aw_iload_n (i := 3) dL_law_976 rfl rfl ?_
  refine aw_iconst (v := 4) dL_law_977 (by decide +kernel) ?_
  refine aw_iadd dL_law_978 ?_
  refine aw_sld dL_law_979 (vin (k := 4) hj hL (by decide) rfl) ?_
  refine aw_aload_n (i := 0) dL_law_980 rfl rfl ?_
  refine aw_iload_n (i := 3) dL_law_981 rfl rfl ?_
  refine aw_iconst (v := 5) dL_law_982 (by decide +kernel) ?_
  refine aw_iadd dL_law_983 ?_
  refine aw_sld dL_law_984 (vin (k := 5) hj hL (by decide) rfl) ?_
  refine aw_invokevirtual kL_112 dL_law_985 hM1.at (mt_needed _ h1 (X + 126) S _ _ _ _ _ hM1 hI) rfl rfl (Nat.le_of_ble_eq_true rfl) ⟨Nat.le_of_ble_eq_true rfl, Nat.le_of_ble_eq_true rfl⟩ ⟨by show _ ≤ 600000; omega, by show _ ≤ 7302249; omega⟩ ?_
  rintro _ _ h2 ⟨rfl, rfl, hM2, hf2⟩
  refine aw_icmp_eq (tgt := 1102) dL_law_988 (by decide) (fun _ => ?_) (fun c => (c rfl).elim)
  exact AW.widen (by omega) (by omega) (kk _ h2 (iv_needed hI _ _ _ _ _) (hf2.cr hC1) hM2)
theorem lc_23 {b L X j : Nat} {xs : Nat → Int32} {S : TS} {h : Hp} (hj : 6 * j + 6 ≤ L) (hL : L ≤ 3072) (hI : SInv S) (hC : CRep h X S) (hM : MRep h (X + 126) S) (kk : ∀ (S1 : TS) (h1 : Hp), SInv S1 → CRep h1 X S1 → MRep h1 (X + 126) S1 → AW mL_law (gL b L xs) 1102 [some (.ref b), some (.ref X), some (.ref (X + 126)), some (.int (nI (6 * j)))] [] (158 + 10 * (j + 1)) (28596 + 1010 * (j + 1)) (cn X S1) h1) : AW mL_law (gL b L xs) 993 [some (.ref b), some (.ref X), some (.ref (X + 126)), some (.int (nI (6 * j)))] [] (158 + 10 * j) (28596 + 1010 * j) (cn X S) h := by
  refine aw_aload_n (i := 1) dL_law_993 rfl rfl ?_
  refine aw_aload_n (i := 0) dL_law_994 rfl rfl ?_
  refine aw_iload_n (i := 3) dL_law_995 rfl rfl ?_
  refine aw_iconst (v := 1) dL_law_996 (by decide +kernel) ?_
  refine aw_iadd dL_law_997 ?_
  refine aw_sld dL_law_998 (vin (k := 1) hj hL (by decide) rfl) ?_
  refine aw_aload_n (i := 0) dL_law_999 rfl rfl ?_
  refine aw_iload_n (i := 3) dL_law_1000 rfl rfl ?_
  refine aw_iconst (v := 2) dL_law_1001 (by decide +kernel) ?_
  refine aw_iadd dL_law_1002 ?_
  refine aw_sld dL_law_1003 (vin (k := 2) hj hL (by decide) rfl) ?_
  refine aw_aload_n (i := 0) dL_law_1004 rfl rfl ?_
  refine aw_iload_n (i := 3) dL_law_1005 rfl rfl ?_
  refine aw_iconst (v := 3) dL_law_1006 (by decide +kernel) ?_
  refine aw_iadd dL_law_1007 ?_
  refine aw_sld dL_law_1008 (vin (k := 3) hj hL (by decide) rfl) ?_
  refine aw_invokevirtual kL_113 dL_law_1009 hC.at (ck_line h X S _ _ _ hC) rfl rfl (Nat.le_of_ble_eq_true rfl) ⟨Nat.le_of_ble_eq_true rfl, Nat.le_of_ble_eq_true rfl⟩ ⟨by show _ ≤ 600000; omega, by show _ ≤ 7302249; omega⟩ ?_
  rintro _ _ h1 ⟨rfl, rfl, hC1, hf1⟩
  have hM1 := hf1.mr hM
  refine aw_aload_n (i := 2) dL_law_1012 rfl rfl ?_
  refine aw_aload_n (i := 0) dL_law_1013 rfl rfl ?_
  refine aw_iload_n (i := 3) dL_law_1014 rfl rfl ?_
  refine aw_iconst (v := 1) dL_law_1015 (by decide +kernel) ?_
  refine aw_iadd dL_law_1016 ?_
  refine aw_sld dL_law_1017 (vin (k := 1) hj hL (by decide) rfl) ?_
  refine aw_aload_n (i := 0) dL_law_1018 rfl rfl ?_
  refine aw_iload_n (i := 3) dL_law_1019 rfl rfl ?_
  refine aw_iconst (v := 2) dL_law_1020 (by decide +kernel) ?_
  refine aw_iadd dL_law_1021 ?_
  refine aw_sld dL_law_1022 (vin (k := 2) hj hL (by decide) rfl) ?_
  refine aw_aload_n (i := 0) dL_law_1023 rfl rfl ?_
  refine aw_iload_n (i := 3) dL_law_1024 rfl rfl ?_
  refine aw_iconst (v := 3) dL_law_1025 (by decide +kernel) ?_
  refine aw_iadd dL_law_1026 ?_
  refine aw_sld dL_law_1027 (vin (k := 3) hj hL (by decide) rfl) ?_
  refine aw_invokevirtual kL_116 dL_law_1028 hM1.at (mt_line _ h1 (X + 126) S _ _ _ hM1) rfl rfl (Nat.le_of_ble_eq_true rfl) ⟨Nat.le_of_ble_eq_true rfl, Nat.le_of_ble_eq_true rfl⟩ ⟨by show _ ≤ 600000; omega, by show _ ≤ 7302249; omega⟩ ?_
  rintro _ _ h2 ⟨rfl, rfl, hM2, hf2⟩
  refine aw_icmp_eq (tgt := 1102) dL_law_1031 (by decide) (fun _ => ?_) (fun c => (c rfl).elim)
  exact AW.widen (by omega) (by omega) (kk _ h2 (iv_line hI _ _ _) (hf2.cr hC1) hM2)
theorem lc_24 {b L X j : Nat} {xs : Nat → Int32} {S : TS} {h : Hp} (hj : 6 * j + 6 ≤ L) (hL : L ≤ 3072) (hI : SInv S) (hC : CRep h X S) (hM : MRep h (X + 126) S) (kk : ∀ (S1 : TS) (h1 : Hp), SInv S1 → CRep h1 X S1 → MRep h1 (X + 126) S1 → AW mL_law (gL b L xs) 1102 [some (.ref b), some (.ref X), some (.ref (X + 126)), some (.int (nI (6 * j)))] [] (158 + 10 * (j + 1)) (28596 + 1010 * (j + 1)) (cn X S1) h1) : AW mL_law (gL b L xs) 1036 [some (.ref b), some (.ref X), some (.ref (X + 126)), some (.int (nI (6 * j)))] [] (158 + 10 * j) (28596 + 1010 * j) (cn X S) h := by
  refine aw_aload_n (i := 1) dL_law_1036 rfl rfl ?_
  refine aw_aload_n (i := 0) dL_law_1037 rfl rfl ?_
  refine aw_iload_n (i := 3) dL_law_1038 rfl rfl ?_
  refine aw_iconst (v := 1) dL_law_1039 (by decide +kernel) ?_
  refine aw_iadd dL_law_1040 ?_
  refine aw_sld dL_law_1041 (vin (k := 1) hj hL (by decide) rfl) ?_
  refine aw_aload_n (i := 0) dL_law_1042 rfl rfl ?_
  refine aw_iload_n (i := 3) dL_law_1043 rfl rfl ?_
  refine aw_iconst (v := 2) dL_law_1044 (by decide +kernel) ?_
  refine aw_iadd dL_law_1045 ?_
  refine aw_sld dL_law_1046 (vin (k := 2) hj hL (by decide) rfl) ?_
  refine aw_aload_n (i := 0) dL_law_1047 rfl rfl ?_
  refine aw_iload_n (i := 3) dL_law_1048 rfl rfl ?_
  refine aw_iconst (v := 3) dL_law_1049 (by decide +kernel) ?_
  refine aw_iadd dL_law_1050 ?_
  refine aw_sld dL_law_1051 (vin (k := 3) hj hL (by decide) rfl) ?_
  refine aw_invokevirtual kL_117 dL_law_1052 hC.at (ck_crossed h X S _ _ _ hC hI) rfl rfl (Nat.le_of_ble_eq_true rfl) ⟨Nat.le_of_ble_eq_true rfl, Nat.le_of_ble_eq_true rfl⟩ ⟨by show _ ≤ 600000; omega, by show _ ≤ 7302249; omega⟩ ?_
  rintro _ _ h1 ⟨rfl, rfl, hC1, hf1⟩
  have hM1 := hf1.mr hM
  refine aw_aload_n (i := 2) dL_law_1055 rfl rfl ?_
  refine aw_aload_n (i := 0) dL_law_1056 rfl rfl ?_
  refine aw_iload_n (i := 3) dL_law_1057 rfl rfl ?_
  refine aw_iconst (v := 1) dL_law_1058 (by decide +kernel) ?_
  refine aw_iadd dL_law_1059 ?_
  refine aw_sld dL_law_1060 (vin (k := 1) hj hL (by decide) rfl) ?_
  refine aw_aload_n (i := 0) dL_law_1061 rfl rfl ?_
  refine aw_iload_n (i := 3) dL_law_1062 rfl rfl ?_
  refine aw_iconst (v := 2) dL_law_1063 (by decide +kernel) ?_
  refine aw_iadd dL_law_1064 ?_
  refine aw_sld dL_law_1065 (vin (k := 2) hj hL (by decide) rfl) ?_
  refine aw_aload_n (i := 0) dL_law_1066 rfl rfl ?_
  refine aw_iload_n (i := 3) dL_law_1067 rfl rfl ?_
  refine aw_iconst (v := 3) dL_law_1068 (by decide +kernel) ?_
  refine aw_iadd dL_law_1069 ?_
  refine aw_sld dL_law_1070 (vin (k := 3) hj hL (by decide) rfl) ?_
  refine aw_invokevirtual kL_120 dL_law_1071 hM1.at (mt_crossed _ h1 (X + 126) S _ _ _ hM1 hI) rfl rfl (Nat.le_of_ble_eq_true rfl) ⟨Nat.le_of_ble_eq_true rfl, Nat.le_of_ble_eq_true rfl⟩ ⟨by show _ ≤ 600000; omega, by show _ ≤ 7302249; omega⟩ ?_
  rintro _ _ h2 ⟨rfl, rfl, hM2, hf2⟩
  refine aw_icmp_eq (tgt := 1102) dL_law_1074 (by decide) (fun _ => ?_) (fun c => (c rfl).elim)
  exact AW.widen (by omega) (by omega) (kk _ h2 (iv_crossed hI _ _ _) (hf2.cr hC1) hM2)
theorem lc_25 {b L X j : Nat} {xs : Nat → Int32} {S : TS} {h : Hp} (hj : 6 * j + 6 ≤ L) (hL : L ≤ 3072) (hI : SInv S) (hC : CRep h X S) (hM : MRep h (X + 126) S) (kk : ∀ (S1 : TS) (h1 : Hp), SInv S1 → CRep h1 X S1 → MRep h1 (X + 126) S1 → AW mL_law (gL b L xs) 1102 [some (.ref b), some (.ref X), some (.ref (X + 126)), some (.int (nI (6 * j)))] [] (158 + 10 * (j + 1)) (28596 + 1010 * (j + 1)) (cn X S1) h1) : AW mL_law (gL b L xs) 1079 [some (.ref b), some (.ref X), some (.ref (X + 126)), some (.int (nI (6 * j)))] [] (158 + 10 * j) (28596 + 1010 * j) (cn X S) h := by
  refine aw_aload_n (i := 1) dL_law_1079 rfl rfl ?_
  refine aw_aload_n (i := 0) dL_law_1080 rfl rfl ?_
  refine aw_iload_n (i := 3) dL_law_1081 rfl rfl ?_
  refine aw_iconst (v := 1) dL_law_1082 (by decide +kernel) ?_
  refine aw_iadd dL_law_1083 ?_
  refine aw_sld dL_law_1084 (vin (k := 1) hj hL (by decide) rfl) ?_
  refine aw_invokevirtual kL_121 dL_law_1085 hC.at (ck_count h X S _ hC) rfl rfl (Nat.le_of_ble_eq_true rfl) ⟨Nat.le_of_ble_eq_true rfl, Nat.le_of_ble_eq_true rfl⟩ ⟨by show _ ≤ 600000; omega, by show _ ≤ 7302249; omega⟩ ?_
  rintro _ _ h1 ⟨rfl, rfl, hC1, hf1⟩
  have hM1 := hf1.mr hM
  refine aw_aload_n (i := 2) dL_law_1088 rfl rfl ?_
  refine aw_aload_n (i := 0) dL_law_1089 rfl rfl ?_
  refine aw_iload_n (i := 3) dL_law_1090 rfl rfl ?_
  refine aw_iconst (v := 1) dL_law_1091 (by decide +kernel) ?_
  refine aw_iadd dL_law_1092 ?_
  refine aw_sld dL_law_1093 (vin (k := 1) hj hL (by decide) rfl) ?_
  refine aw_invokevirtual kL_124 dL_law_1094 hM1.at (mt_count _ h1 (X + 126) S _ hM1 hI) rfl rfl (Nat.le_of_ble_eq_true rfl) ⟨Nat.le_of_ble_eq_true rfl, Nat.le_of_ble_eq_true rfl⟩ ⟨by show _ ≤ 600000; omega, by show _ ≤ 7302249; omega⟩ ?_
  rintro _ _ h2 ⟨rfl, rfl, hM2, hf2⟩
  refine aw_icmp_eq (tgt := 1102) dL_law_1097 (by decide) (fun _ => ?_) (fun c => (c rfl).elim)
  exact AW.widen (by omega) (by omega) (kk _ h2 (iv_count hI _) (hf2.cr hC1) hM2)
