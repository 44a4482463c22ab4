section LAWOPS
variable {G : zG} {Γ : zT}
theorem lw_op_tell {b L : Nat} {xs : Nat → Int32} {i k n : Nat} (hX : va_X b L xs Γ.2.2.1.1 Γ.2.2.1.1.heap) (hb : b < Γ.2.2.1.1.heap.size) (hL : L ≤ 3584) (hi : i + 7 ≤ L) (hk : Lk k n) (h : lwS G Γ b i (k + 162) (n + 810) 1376) : lwS G Γ b i k n 598 := by
  intro P a a' q N R Q D E O T U V F M hA
  obtain ⟨hp1, hp2, hv, hA2⟩ := op_tell hA (xs (i + 1)) (xs (i + 2)) (xs (i + 3))
  refine z_aload_n dL_598 rfl ?_
  refine L_arg hX hb hL hi 1 (by decide) (by decide) rfl rfl dL_599 dL_600 dL_601 dL_602 dL_603 ?_
  refine L_arg hX hb hL hi 2 (by decide) (by decide) rfl rfl dL_604 dL_605 dL_606 dL_607 dL_608 ?_
  refine L_arg hX hb hL hi 3 (by decide) (by decide) rfl rfl dL_609 dL_610 dL_611 dL_612 dL_613 ?_
  refine L_xw (fun sz => c_X6_tell G P a sz N R _ _ _ hp1) (pm_nr _ _ _ _ _ _ _ _ _ _ _) rfl rfl zc_X6_tell zv_X6_tell tw_m_RL_58 (L_room rfl hk) rfl (Nat.zero_le _) dL_614 (L_k1 hk rfl) (L_k2 hk rfl) ?_
  refine L_perm (pm_nr _ _ _ _ _ _ _ _ _ _ _).symm ?_
  refine z_aload_n dL_617 rfl ?_
  refine L_arg hX hb hL hi 1 (by decide) (by decide) rfl rfl dL_618 dL_619 dL_620 dL_621 dL_622 ?_
  refine L_arg hX hb hL hi 2 (by decide) (by decide) rfl rfl dL_623 dL_624 dL_625 dL_626 dL_627 ?_
  refine L_arg hX hb hL hi 3 (by decide) (by decide) rfl rfl dL_628 dL_629 dL_630 dL_631 dL_632 ?_
  refine L_xw (fun sz => c_X7_tell G a' (gX_ok G P) sz M _ _ _ hp2) (pm_m _ _ _ _ _ _ _ _ _ _ _) rfl rfl zc_X7_tell zv_X7_tell tw_m_RL_61 (L_room7 rfl hk) rfl (Nat.le_of_ble_eq_true rfl) dL_633 (Nat.le_refl _) (Nat.le_refl _) ?_
  refine L_perm (pm_m _ _ _ _ _ _ _ _ _ _ _).symm ?_
  refine z_icmp_eq dL_636 (tgt := 1376) (by decide) (fun _ => ?_) (fun hne => absurd hv hne)
  exact h _ _ _ _ _ _ _ _ _ _ _ _ _ _ _ hA2
theorem lw_op_comerOf {b L : Nat} {xs : Nat → Int32} {i k n : Nat} (hX : va_X b L xs Γ.2.2.1.1 Γ.2.2.1.1.heap) (hb : b < Γ.2.2.1.1.heap.size) (hL : L ≤ 3584) (hi : i + 7 ≤ L) (hk : Lk k n) (h : lwS G Γ b i (k + 162) (n + 810) 1376) : lwS G Γ b i k n 641 := by
  intro P a a' q N R Q D E O T U V F M hA
  obtain ⟨hp1, hp2, hv, hA2⟩ := op_comerOf hA (xs (i + 1)) (xs (i + 2))
  refine z_aload_n dL_641 rfl ?_
  refine L_arg hX hb hL hi 1 (by decide) (by decide) rfl rfl dL_642 dL_643 dL_644 dL_645 dL_646 ?_
  refine L_arg hX hb hL hi 2 (by decide) (by decide) rfl rfl dL_647 dL_648 dL_649 dL_650 dL_651 ?_
  refine L_xw (fun sz => c_X6_comerOf G P a sz N R _ _ hp1) (pm_nr _ _ _ _ _ _ _ _ _ _ _) rfl rfl zc_X6_comerOf zv_X6_comerOf tw_m_RL_62 (L_room rfl hk) rfl (Nat.zero_le _) dL_652 (L_k1 hk rfl) (L_k2 hk rfl) ?_
  refine L_perm (pm_nr _ _ _ _ _ _ _ _ _ _ _).symm ?_
  refine z_aload_n dL_655 rfl ?_
  refine L_arg hX hb hL hi 1 (by decide) (by decide) rfl rfl dL_656 dL_657 dL_658 dL_659 dL_660 ?_
  refine L_arg hX hb hL hi 2 (by decide) (by decide) rfl rfl dL_661 dL_662 dL_663 dL_664 dL_665 ?_
  refine L_xw (fun sz => c_X7_comerOf G a' (gX_ok G P) sz M _ _ hp2) (pm_m _ _ _ _ _ _ _ _ _ _ _) rfl rfl zc_X7_comerOf zv_X7_comerOf tw_m_RL_65 (L_room7 rfl hk) rfl (Nat.le_of_ble_eq_true rfl) dL_666 (Nat.le_refl _) (Nat.le_refl _) ?_
  refine L_perm (pm_m _ _ _ _ _ _ _ _ _ _ _).symm ?_
  refine z_icmp_eq dL_669 (tgt := 1376) (by decide) (fun _ => ?_) (fun hne => absurd hv hne)
  exact h _ _ _ _ _ _ _ _ _ _ _ _ _ _ _ hA2
theorem lw_op_road {b L : Nat} {xs : Nat → Int32} {i k n : Nat} (hX : va_X b L xs Γ.2.2.1.1 Γ.2.2.1.1.heap) (hb : b < Γ.2.2.1.1.heap.size) (hL : L ≤ 3584) (hi : i + 7 ≤ L) (hk : Lk k n) (h : lwS G Γ b i (k + 162) (n + 810) 1376) : lwS G Γ b i k n 674 := by
  intro P a a' q N R Q D E O T U V F M hA
  obtain ⟨hp1, hres⟩ := op_road hA a q D E (xs (i + 1))
  refine z_aload_n dL_674 rfl ?_
  refine L_arg hX hb hL hi 1 (by decide) (by decide) rfl rfl dL_675 dL_676 dL_677 dL_678 dL_679 ?_
  refine L_xg (gg := fun res : Int32 × nT × rT × rT × e2T × Nat × LL => g_X6_road P a q N R D E F (xs (i + 1)) res) (pr := fun res => res.1) (pw := fun res => maW G a res.2.1 ++ rdW G (sh a 10) res.2.2.1 ++ rdW G (sh a 20) res.2.2.2.1 ++ re2W G (sh a 50) res.2.2.2.2.2.1 res.2.2.2.2.1 ++ faW G a F) (pl := fun res => res.2.2.2.2.2.2) (fun sz => c_X6_road G P a q sz N R D E F _ hp1) (pm_nrdef _ _ _ _ _ _ _ _ _ _ _) rfl rfl zc_X6_road zv_X6_road tw_m_RL_66 (L_room rfl hk) rfl (Nat.zero_le _) dL_680 (L_k1 hk rfl) (L_k2 hk rfl) (fun res hg hf => ?_)
  refine L_perm (pm_nrdef _ _ _ _ _ _ _ _ _ _ _).symm ?_
  obtain ⟨hp2, hv, hA2⟩ := hres res hg hf
  refine z_aload_n dL_683 rfl ?_
  refine L_arg hX hb hL hi 1 (by decide) (by decide) rfl rfl dL_684 dL_685 dL_686 dL_687 dL_688 ?_
  refine L_xw (fun sz => c_X7_road G a' (gX_ok G (pAdd P (res.2.2.2.2.2.2))) sz M _ hp2) (pm_m _ _ _ _ _ _ _ _ _ _ _) rfl rfl zc_X7_road zv_X7_road tw_m_RL_69 (L_room7 rfl hk) rfl (Nat.le_of_ble_eq_true rfl) dL_689 (Nat.le_refl _) (Nat.le_refl _) ?_
  refine L_perm (pm_m _ _ _ _ _ _ _ _ _ _ _).symm ?_
  refine z_icmp_eq dL_692 (tgt := 1376) (by decide) (fun _ => ?_) (fun hne => absurd hv hne)
  exact h _ _ _ _ _ _ _ _ _ _ _ _ _ _ _ hA2
theorem lw_op_fault {b L : Nat} {xs : Nat → Int32} {i k n : Nat} (hX : va_X b L xs Γ.2.2.1.1 Γ.2.2.1.1.heap) (hb : b < Γ.2.2.1.1.heap.size) (hL : L ≤ 3584) (hi : i + 7 ≤ L) (hk : Lk k n) (h : lwS G Γ b i (k + 162) (n + 810) 1376) : lwS G Γ b i k n 697 := by
  intro P a a' q N R Q D E O T U V F M hA
  have hv := op_fault hA 
  have hA2 := hA
  refine z_aload_n dL_697 rfl ?_
  refine L_xri (c_X6_fault G P a N) (pm_n _ _ _ _ _ _ _ _ _ _ _) rfl rfl zc_X6_fault zv_X6_fault tw_m_RL_70 (L_room rfl hk) rfl (Nat.zero_le _) dL_698 (Nat.le_add_right k 162) (Nat.le_add_right n 810) ?_
  refine z_aload_n dL_701 rfl ?_
  refine L_mri (c_X7_fault G a' M) (pm_m _ _ _ _ _ _ _ _ _ _ _) rfl rfl zc_X7_fault zv_X7_fault tw_m_RL_74 (L_room7 rfl hk) rfl (Nat.le_of_ble_eq_true rfl) dL_702 (Nat.le_refl _) (Nat.le_refl _) ?_
  refine z_icmp_eq dL_705 (tgt := 1376) (by decide) (fun _ => ?_) (fun hne => absurd hv hne)
  exact h _ _ _ _ _ _ _ _ _ _ _ _ _ _ _ hA2
theorem lw_op_looks {b L : Nat} {xs : Nat → Int32} {i k n : Nat} (hX : va_X b L xs Γ.2.2.1.1 Γ.2.2.1.1.heap) (hb : b < Γ.2.2.1.1.heap.size) (hL : L ≤ 3584) (hi : i + 7 ≤ L) (hk : Lk k n) (h : lwS G Γ b i (k + 162) (n + 810) 1376) : lwS G Γ b i k n 710 := by
  intro P a a' q N R Q D E O T U V F M hA
  obtain ⟨hp1, hp2, hv, hA2⟩ := op_looks hA (xs (i + 1)) (xs (i + 2))
  refine z_aload_n dL_710 rfl ?_
  refine L_arg hX hb hL hi 1 (by decide) (by decide) rfl rfl dL_711 dL_712 dL_713 dL_714 dL_715 ?_
  refine L_arg hX hb hL hi 2 (by decide) (by decide) rfl rfl dL_716 dL_717 dL_718 dL_719 dL_720 ?_
  refine L_xw (fun sz => c_X6_looks G P a sz N R _ _ hp1) (pm_nr _ _ _ _ _ _ _ _ _ _ _) rfl rfl zc_X6_looks zv_X6_looks tw_m_RL_75 (L_room rfl hk) rfl (Nat.zero_le _) dL_721 (L_k1 hk rfl) (L_k2 hk rfl) ?_
  refine L_perm (pm_nr _ _ _ _ _ _ _ _ _ _ _).symm ?_
  refine z_aload_n dL_724 rfl ?_
  refine L_arg hX hb hL hi 1 (by decide) (by decide) rfl rfl dL_725 dL_726 dL_727 dL_728 dL_729 ?_
  refine L_arg hX hb hL hi 2 (by decide) (by decide) rfl rfl dL_730 dL_731 dL_732 dL_733 dL_734 ?_
  refine L_xw (fun sz => c_X7_looks G a' (gX_ok G P) sz M _ _ hp2) (pm_m _ _ _ _ _ _ _ _ _ _ _) rfl rfl zc_X7_looks zv_X7_looks tw_m_RL_78 (L_room7 rfl hk) rfl (Nat.le_of_ble_eq_true rfl) dL_735 (Nat.le_refl _) (Nat.le_refl _) ?_
  refine L_perm (pm_m _ _ _ _ _ _ _ _ _ _ _).symm ?_
  refine z_icmp_eq dL_738 (tgt := 1376) (by decide) (fun _ => ?_) (fun hne => absurd hv hne)
  exact h _ _ _ _ _ _ _ _ _ _ _ _ _ _ _ hA2
theorem lw_op_slow {b L : Nat} {xs : Nat → Int32} {i k n : Nat} (hX : va_X b L xs Γ.2.2.1.1 Γ.2.2.1.1.heap) (hb : b < Γ.2.2.1.1.heap.size) (hL : L ≤ 3584) (hi : i + 7 ≤ L) (hk : Lk k n) (h : lwS G Γ b i (k + 162) (n + 810) 1376) : lwS G Γ b i k n 743 := by
  intro P a a' q N R Q D E O T U V F M hA
  obtain ⟨hp1, hp2, hv, hA2⟩ := op_slow hA (xs (i + 1)) (xs (i + 2))
  refine z_aload_n dL_743 rfl ?_
  refine L_arg hX hb hL hi 1 (by decide) (by decide) rfl rfl dL_744 dL_745 dL_746 dL_747 dL_748 ?_
  refine L_arg hX hb hL hi 2 (by decide) (by decide) rfl rfl dL_749 dL_750 dL_751 dL_752 dL_753 ?_
  refine L_xw (fun sz => c_X6_slow G P a sz N R _ _ hp1) (pm_nr _ _ _ _ _ _ _ _ _ _ _) rfl rfl zc_X6_slow zv_X6_slow tw_m_RL_79 (L_room rfl hk) rfl (Nat.zero_le _) dL_754 (L_k1 hk rfl) (L_k2 hk rfl) ?_
  refine L_perm (pm_nr _ _ _ _ _ _ _ _ _ _ _).symm ?_
  refine z_aload_n dL_757 rfl ?_
  refine L_arg hX hb hL hi 1 (by decide) (by decide) rfl rfl dL_758 dL_759 dL_760 dL_761 dL_762 ?_
  refine L_arg hX hb hL hi 2 (by decide) (by decide) rfl rfl dL_763 dL_764 dL_765 dL_766 dL_767 ?_
  refine L_xw (fun sz => c_X7_slow G a' (gX_ok G P) sz M _ _ hp2) (pm_m _ _ _ _ _ _ _ _ _ _ _) rfl rfl zc_X7_slow zv_X7_slow tw_m_RL_82 (L_room7 rfl hk) rfl (Nat.le_of_ble_eq_true rfl) dL_768 (Nat.le_refl _) (Nat.le_refl _) ?_
  refine L_perm (pm_m _ _ _ _ _ _ _ _ _ _ _).symm ?_
  refine z_icmp_eq dL_771 (tgt := 1376) (by decide) (fun _ => ?_) (fun hne => absurd hv hne)
  exact h _ _ _ _ _ _ _ _ _ _ _ _ _ _ _ hA2
theorem lw_op_brave {b L : Nat} {xs : Nat → Int32} {i k n : Nat} (hX : va_X b L xs Γ.2.2.1.1 Γ.2.2.1.1.heap) (hb : b < Γ.2.2.1.1.heap.size) (hL : L ≤ 3584) (hi : i + 7 ≤ L) (hk : Lk k n) (h : lwS G Γ b i (k + 162) (n + 810) 1376) : lwS G Γ b i k n 776 := by
  intro P a a' q N R Q D E O T U V F M hA
  obtain ⟨hp1, hp2, hv, hA2⟩ := op_brave hA (xs (i + 1))
  refine z_aload_n dL_776 rfl ?_
  refine L_arg hX hb hL hi 1 (by decide) (by decide) rfl rfl dL_777 dL_778 dL_779 dL_780 dL_781 ?_
  refine L_xw (fun sz => c_X6_brave G P a sz N R _ hp1) (pm_nr _ _ _ _ _ _ _ _ _ _ _) rfl rfl zc_X6_brave zv_X6_brave tw_m_RL_83 (L_room rfl hk) rfl (Nat.zero_le _) dL_782 (L_k1 hk rfl) (L_k2 hk rfl) ?_
  refine L_perm (pm_nr _ _ _ _ _ _ _ _ _ _ _).symm ?_
  refine z_aload_n dL_785 rfl ?_
  refine L_arg hX hb hL hi 1 (by decide) (by decide) rfl rfl dL_786 dL_787 dL_788 dL_789 dL_790 ?_
  refine L_xw (fun sz => c_X7_brave G a' (gX_ok G P) sz M _ hp2) (pm_m _ _ _ _ _ _ _ _ _ _ _) rfl rfl zc_X7_brave zv_X7_brave tw_m_RL_86 (L_room7 rfl hk) rfl (Nat.le_of_ble_eq_true rfl) dL_791 (Nat.le_refl _) (Nat.le_refl _) ?_
  refine L_perm (pm_m _ _ _ _ _ _ _ _ _ _ _).symm ?_
  refine z_icmp_eq dL_794 (tgt := 1376) (by decide) (fun _ => ?_) (fun hne => absurd hv hne)
  exact h _ _ _ _ _ _ _ _ _ _ _ _ _ _ _ hA2
theorem lw_op_order {b L : Nat} {xs : Nat → Int32} {i k n : Nat} (hX : va_X b L xs Γ.2.2.1.1 Γ.2.2.1.1.heap) (hb : b < Γ.2.2.1.1.heap.size) (hL : L ≤ 3584) (hi : i + 7 ≤ L) (hk : Lk k n) (h : lwS G Γ b i (k + 162) (n + 810) 1376) : lwS G Γ b i k n 799 := by
  intro P a a' q N R Q D E O T U V F M hA
  obtain ⟨hp1, hp2, hv, hA2⟩ := op_order hA O (xs (i + 1)) (xs (i + 2)) (xs (i + 3))
  refine z_aload_n dL_799 rfl ?_
  refine L_arg hX hb hL hi 1 (by decide) (by decide) rfl rfl dL_800 dL_801 dL_802 dL_803 dL_804 ?_
  refine L_arg hX hb hL hi 2 (by decide) (by decide) rfl rfl dL_805 dL_806 dL_807 dL_808 dL_809 ?_
  refine L_arg hX hb hL hi 3 (by decide) (by decide) rfl rfl dL_810 dL_811 dL_812 dL_813 dL_814 ?_
  refine L_xw (fun sz => c_X6_order G P a sz N R O F _ _ _ hp1) (pm_nrof _ _ _ _ _ _ _ _ _ _ _) rfl rfl zc_X6_order zv_X6_order tw_m_RL_87 (L_room rfl hk) rfl (Nat.zero_le _) dL_815 (L_k1 hk rfl) (L_k2 hk rfl) ?_
  refine L_perm (pm_nrof _ _ _ _ _ _ _ _ _ _ _).symm ?_
  refine z_aload_n dL_818 rfl ?_
  refine L_arg hX hb hL hi 1 (by decide) (by decide) rfl rfl dL_819 dL_820 dL_821 dL_822 dL_823 ?_
  refine L_arg hX hb hL hi 2 (by decide) (by decide) rfl rfl dL_824 dL_825 dL_826 dL_827 dL_828 ?_
  refine L_arg hX hb hL hi 3 (by decide) (by decide) rfl rfl dL_829 dL_830 dL_831 dL_832 dL_833 ?_
  refine L_xw (fun sz => c_X7_order G a' (gX_ok G P) sz M _ _ _ hp2) (pm_m _ _ _ _ _ _ _ _ _ _ _) rfl rfl zc_X7_order zv_X7_order tw_m_RL_90 (L_room7 rfl hk) rfl (Nat.le_of_ble_eq_true rfl) dL_834 (Nat.le_refl _) (Nat.le_refl _) ?_
  refine L_perm (pm_m _ _ _ _ _ _ _ _ _ _ _).symm ?_
  refine z_icmp_eq dL_837 (tgt := 1376) (by decide) (fun _ => ?_) (fun hne => absurd hv hne)
  exact h _ _ _ _ _ _ _ _ _ _ _ _ _ _ _ hA2
theorem lw_op_best {b L : Nat} {xs : Nat → Int32} {i k n : Nat} (hX : va_X b L xs Γ.2.2.1.1 Γ.2.2.1.1.heap) (hb : b < Γ.2.2.1.1.heap.size) (hL : L ≤ 3584) (hi : i + 7 ≤ L) (hk : Lk k n) (h : lwS G Γ b i (k + 162) (n + 810) 1376) : lwS G Γ b i k n 842 := by
  intro P a a' q N R Q D E O T U V F M hA
  obtain ⟨hp1, hp2, hv, hA2⟩ := op_best hA T U (xs (i + 1))
  refine z_aload_n dL_842 rfl ?_
  refine L_arg hX hb hL hi 1 (by decide) (by decide) rfl rfl dL_843 dL_844 dL_845 dL_846 dL_847 ?_
  refine L_xw (fun sz => c_X6_best G P a sz N R T U _ hp1) (pm_nrtu _ _ _ _ _ _ _ _ _ _ _) rfl rfl zc_X6_best zv_X6_best tw_m_RL_91 (L_room rfl hk) rfl (Nat.zero_le _) dL_848 (L_k1 hk rfl) (L_k2 hk rfl) ?_
  refine L_perm (pm_nrtu _ _ _ _ _ _ _ _ _ _ _).symm ?_
  refine z_aload_n dL_851 rfl ?_
  refine L_arg hX hb hL hi 1 (by decide) (by decide) rfl rfl dL_852 dL_853 dL_854 dL_855 dL_856 ?_
  refine L_xw (fun sz => c_X7_best G a' (gX_ok G P) sz M _ hp2) (pm_m _ _ _ _ _ _ _ _ _ _ _) rfl rfl zc_X7_best zv_X7_best tw_m_RL_94 (L_room7 rfl hk) rfl (Nat.le_of_ble_eq_true rfl) dL_857 (Nat.le_refl _) (Nat.le_refl _) ?_
  refine L_perm (pm_m _ _ _ _ _ _ _ _ _ _ _).symm ?_
  refine z_icmp_eq dL_860 (tgt := 1376) (by decide) (fun _ => ?_) (fun hne => absurd hv hne)
  exact h _ _ _ _ _ _ _ _ _ _ _ _ _ _ _ hA2
end LAWOPS
