section LAWOPS
variable {G : zG} {Γ : zT}
theorem lw_op_pushes {b L : Nat} {xs : Nat → Int32} {i k n : Nat} (hX : va_X b L xs Γ.2.2.1.1 Γ.2.2.1.1.heap) (hb : b < Γ.2.2.1.1.heap.size) (hL : L ≤ 3584) (hi : i + 7 ≤ L) (hk : Lk k n) (h : lwS G Γ b i (k + 162) (n + 810) 1376) : lwS G Γ b i k n 865 := by
  intro P a a' q N R Q D E O T U V F M hA
  obtain ⟨hp1, hp2, hv, hA2⟩ := op_pushes hA O (xs (i + 1))
  refine z_aload_n dL_865 rfl ?_
  refine L_arg hX hb hL hi 1 (by decide) (by decide) rfl rfl dL_866 dL_867 dL_868 dL_869 dL_870 ?_
  refine L_xw (fun sz => c_X6_pushes G P a sz N R O _ hp1) (pm_nro _ _ _ _ _ _ _ _ _ _ _) rfl rfl zc_X6_pushes zv_X6_pushes tw_m_RL_95 (L_room rfl hk) rfl (Nat.zero_le _) dL_871 (L_k1 hk rfl) (L_k2 hk rfl) ?_
  refine L_perm (pm_nro _ _ _ _ _ _ _ _ _ _ _).symm ?_
  refine z_aload_n dL_874 rfl ?_
  refine L_arg hX hb hL hi 1 (by decide) (by decide) rfl rfl dL_875 dL_876 dL_877 dL_878 dL_879 ?_
  refine L_xw (fun sz => c_X7_pushes G a' (gX_ok G P) sz M _ hp2) (pm_m _ _ _ _ _ _ _ _ _ _ _) rfl rfl zc_X7_pushes zv_X7_pushes tw_m_RL_98 (L_room7 rfl hk) rfl (Nat.le_of_ble_eq_true rfl) dL_880 (Nat.le_refl _) (Nat.le_refl _) ?_
  refine L_perm (pm_m _ _ _ _ _ _ _ _ _ _ _).symm ?_
  refine z_icmp_eq dL_883 (tgt := 1376) (by decide) (fun _ => ?_) (fun hne => absurd hv hne)
  exact h _ _ _ _ _ _ _ _ _ _ _ _ _ _ _ hA2
theorem lw_op_practise {b L : Nat} {xs : Nat → Int32} {i k n : Nat} (hX : va_X b L xs Γ.2.2.1.1 Γ.2.2.1.1.heap) (hb : b < Γ.2.2.1.1.heap.size) (hL : L ≤ 3584) (hi : i + 7 ≤ L) (hk : Lk k n) (h : lwS G Γ b i (k + 162) (n + 810) 1376) : lwS G Γ b i k n 888 := by
  intro P a a' q N R Q D E O T U V F M hA
  obtain ⟨hp1, hp2, hv, hA2⟩ := op_practise hA (xs (i + 1)) (xs (i + 2)) (xs (i + 3))
  refine z_aload_n dL_888 rfl ?_
  refine L_arg hX hb hL hi 1 (by decide) (by decide) rfl rfl dL_889 dL_890 dL_891 dL_892 dL_893 ?_
  refine L_arg hX hb hL hi 2 (by decide) (by decide) rfl rfl dL_894 dL_895 dL_896 dL_897 dL_898 ?_
  refine L_arg hX hb hL hi 3 (by decide) (by decide) rfl rfl dL_899 dL_900 dL_901 dL_902 dL_903 ?_
  refine L_xw (fun sz => c_X6_practise G P a sz N R _ _ _ hp1) (pm_nr _ _ _ _ _ _ _ _ _ _ _) rfl rfl zc_X6_practise zv_X6_practise tw_m_RL_99 (L_room rfl hk) rfl (Nat.zero_le _) dL_904 (L_k1 hk rfl) (L_k2 hk rfl) ?_
  refine L_perm (pm_nr _ _ _ _ _ _ _ _ _ _ _).symm ?_
  refine z_aload_n dL_907 rfl ?_
  refine L_arg hX hb hL hi 1 (by decide) (by decide) rfl rfl dL_908 dL_909 dL_910 dL_911 dL_912 ?_
  refine L_arg hX hb hL hi 2 (by decide) (by decide) rfl rfl dL_913 dL_914 dL_915 dL_916 dL_917 ?_
  refine L_arg hX hb hL hi 3 (by decide) (by decide) rfl rfl dL_918 dL_919 dL_920 dL_921 dL_922 ?_
  refine L_xw (fun sz => c_X7_practise G a' (gX_ok G P) sz M _ _ _ hp2) (pm_m _ _ _ _ _ _ _ _ _ _ _) rfl rfl zc_X7_practise zv_X7_practise tw_m_RL_102 (L_room7 rfl hk) rfl (Nat.le_of_ble_eq_true rfl) dL_923 (Nat.le_refl _) (Nat.le_refl _) ?_
  refine L_perm (pm_m _ _ _ _ _ _ _ _ _ _ _).symm ?_
  refine z_icmp_eq dL_926 (tgt := 1376) (by decide) (fun _ => ?_) (fun hne => absurd hv hne)
  exact h _ _ _ _ _ _ _ _ _ _ _ _ _ _ _ hA2
theorem lw_op_fits {b L : Nat} {xs : Nat → Int32} {i k n : Nat} (hX : va_X b L xs Γ.2.2.1.1 Γ.2.2.1.1.heap) (hb : b < Γ.2.2.1.1.heap.size) (hL : L ≤ 3584) (hi : i + 7 ≤ L) (hk : Lk k n) (h : lwS G Γ b i (k + 162) (n + 810) 1376) : lwS G Γ b i k n 931 := by
  intro P a a' q N R Q D E O T U V F M hA
  obtain ⟨hp1, hp2, hv, hA2⟩ := op_fits hA (xs (i + 1)) (xs (i + 2)) (xs (i + 3))
  refine z_aload_n dL_931 rfl ?_
  refine L_arg hX hb hL hi 1 (by decide) (by decide) rfl rfl dL_932 dL_933 dL_934 dL_935 dL_936 ?_
  refine L_arg hX hb hL hi 2 (by decide) (by decide) rfl rfl dL_937 dL_938 dL_939 dL_940 dL_941 ?_
  refine L_arg hX hb hL hi 3 (by decide) (by decide) rfl rfl dL_942 dL_943 dL_944 dL_945 dL_946 ?_
  refine L_xw (fun sz => c_X6_fits G P a sz N R F _ _ _ hp1) (pm_nrf _ _ _ _ _ _ _ _ _ _ _) rfl rfl zc_X6_fits zv_X6_fits tw_m_RL_103 (L_room rfl hk) rfl (Nat.zero_le _) dL_947 (L_k1 hk rfl) (L_k2 hk rfl) ?_
  refine L_perm (pm_nrf _ _ _ _ _ _ _ _ _ _ _).symm ?_
  refine z_aload_n dL_950 rfl ?_
  refine L_arg hX hb hL hi 1 (by decide) (by decide) rfl rfl dL_951 dL_952 dL_953 dL_954 dL_955 ?_
  refine L_arg hX hb hL hi 2 (by decide) (by decide) rfl rfl dL_956 dL_957 dL_958 dL_959 dL_960 ?_
  refine L_arg hX hb hL hi 3 (by decide) (by decide) rfl rfl dL_961 dL_962 dL_963 dL_964 dL_965 ?_
  refine L_xw (fun sz => c_X7_fits G a' (gX_ok G P) sz M _ _ _ hp2) (pm_m _ _ _ _ _ _ _ _ _ _ _) rfl rfl zc_X7_fits zv_X7_fits tw_m_RL_106 (L_room7 rfl hk) rfl (Nat.le_of_ble_eq_true rfl) dL_966 (Nat.le_refl _) (Nat.le_refl _) ?_
  refine L_perm (pm_m _ _ _ _ _ _ _ _ _ _ _).symm ?_
  refine z_icmp_eq dL_969 (tgt := 1376) (by decide) (fun _ => ?_) (fun hne => absurd hv hne)
  exact h _ _ _ _ _ _ _ _ _ _ _ _ _ _ _ hA2
theorem lw_op_next {b L : Nat} {xs : Nat → Int32} {i k n : Nat} (hX : va_X b L xs Γ.2.2.1.1 Γ.2.2.1.1.heap) (hb : b < Γ.2.2.1.1.heap.size) (hL : L ≤ 3584) (hi : i + 7 ≤ L) (hk : Lk k n) (h : lwS G Γ b i (k + 162) (n + 810) 1376) : lwS G Γ b i k n 974 := by
  intro P a a' q N R Q D E O T U V F M hA
  obtain ⟨hp1, hp2, hv, hA2⟩ := op_next hA (xs (i + 1)) (xs (i + 2)) (xs (i + 3))
  refine z_aload_n dL_974 rfl ?_
  refine L_arg hX hb hL hi 1 (by decide) (by decide) rfl rfl dL_975 dL_976 dL_977 dL_978 dL_979 ?_
  refine L_arg hX hb hL hi 2 (by decide) (by decide) rfl rfl dL_980 dL_981 dL_982 dL_983 dL_984 ?_
  refine L_arg hX hb hL hi 3 (by decide) (by decide) rfl rfl dL_985 dL_986 dL_987 dL_988 dL_989 ?_
  refine L_xw (fun sz => c_X6_next G P a sz N R F _ _ _ hp1) (pm_nrf _ _ _ _ _ _ _ _ _ _ _) rfl rfl zc_X6_next zv_X6_next tw_m_RL_107 (L_room rfl hk) rfl (Nat.zero_le _) dL_990 (L_k1 hk rfl) (L_k2 hk rfl) ?_
  refine L_perm (pm_nrf _ _ _ _ _ _ _ _ _ _ _).symm ?_
  refine z_aload_n dL_993 rfl ?_
  refine L_arg hX hb hL hi 1 (by decide) (by decide) rfl rfl dL_994 dL_995 dL_996 dL_997 dL_998 ?_
  refine L_arg hX hb hL hi 2 (by decide) (by decide) rfl rfl dL_999 dL_1000 dL_1001 dL_1002 dL_1003 ?_
  refine L_arg hX hb hL hi 3 (by decide) (by decide) rfl rfl dL_1004 dL_1005 dL_1006 dL_1007 dL_1008 ?_
  refine L_xw (fun sz => c_X7_next G a' (gX_ok G P) sz M _ _ _ hp2) (pm_m _ _ _ _ _ _ _ _ _ _ _) rfl rfl zc_X7_next zv_X7_next tw_m_RL_110 (L_room7 rfl hk) rfl (Nat.le_of_ble_eq_true rfl) dL_1009 (Nat.le_refl _) (Nat.le_refl _) ?_
  refine L_perm (pm_m _ _ _ _ _ _ _ _ _ _ _).symm ?_
  refine z_icmp_eq dL_1012 (tgt := 1376) (by decide) (fun _ => ?_) (fun hne => absurd hv hne)
  exact h _ _ _ _ _ _ _ _ _ _ _ _ _ _ _ hA2
theorem lw_op_leader {b L : Nat} {xs : Nat → Int32} {i k n : Nat} (hX : va_X b L xs Γ.2.2.1.1 Γ.2.2.1.1.heap) (hb : b < Γ.2.2.1.1.heap.size) (hL : L ≤ 3584) (hi : i + 7 ≤ L) (hk : Lk k n) (h : lwS G Γ b i (k + 162) (n + 810) 1376) : lwS G Γ b i k n 1017 := by
  intro P a a' q N R Q D E O T U V F M hA
  obtain ⟨hp1, hp2, hv, hA2⟩ := op_leader hA (xs (i + 1))
  refine z_aload_n dL_1017 rfl ?_
  refine L_arg hX hb hL hi 1 (by decide) (by decide) rfl rfl dL_1018 dL_1019 dL_1020 dL_1021 dL_1022 ?_
  refine L_xw (fun sz => c_X6_leader G P a sz N R _ hp1) (pm_nr _ _ _ _ _ _ _ _ _ _ _) rfl rfl zc_X6_leader zv_X6_leader tw_m_RL_111 (L_room rfl hk) rfl (Nat.zero_le _) dL_1023 (L_k1 hk rfl) (L_k2 hk rfl) ?_
  refine L_perm (pm_nr _ _ _ _ _ _ _ _ _ _ _).symm ?_
  refine z_aload_n dL_1026 rfl ?_
  refine L_arg hX hb hL hi 1 (by decide) (by decide) rfl rfl dL_1027 dL_1028 dL_1029 dL_1030 dL_1031 ?_
  refine L_xw (fun sz => c_X7_leader G a' (gX_ok G P) sz M _ hp2) (pm_m _ _ _ _ _ _ _ _ _ _ _) rfl rfl zc_X7_leader zv_X7_leader tw_m_RL_114 (L_room7 rfl hk) rfl (Nat.le_of_ble_eq_true rfl) dL_1032 (Nat.le_refl _) (Nat.le_refl _) ?_
  refine L_perm (pm_m _ _ _ _ _ _ _ _ _ _ _).symm ?_
  refine z_icmp_eq dL_1035 (tgt := 1376) (by decide) (fun _ => ?_) (fun hne => absurd hv hne)
  exact h _ _ _ _ _ _ _ _ _ _ _ _ _ _ _ hA2
theorem lw_op_rest {b L : Nat} {xs : Nat → Int32} {i k n : Nat} (hX : va_X b L xs Γ.2.2.1.1 Γ.2.2.1.1.heap) (hb : b < Γ.2.2.1.1.heap.size) (hL : L ≤ 3584) (hi : i + 7 ≤ L) (hk : Lk k n) (h : lwS G Γ b i (k + 162) (n + 810) 1376) : lwS G Γ b i k n 1040 := by
  intro P a a' q N R Q D E O T U V F M hA
  obtain ⟨hp1, hp2, hv, hA2⟩ := op_rest hA (xs (i + 1))
  refine z_aload_n dL_1040 rfl ?_
  refine L_arg hX hb hL hi 1 (by decide) (by decide) rfl rfl dL_1041 dL_1042 dL_1043 dL_1044 dL_1045 ?_
  refine L_xw (fun sz => c_X6_rest G P a sz N R _ hp1) (pm_nr _ _ _ _ _ _ _ _ _ _ _) rfl rfl zc_X6_rest zv_X6_rest tw_m_RL_115 (L_room rfl hk) rfl (Nat.zero_le _) dL_1046 (L_k1 hk rfl) (L_k2 hk rfl) ?_
  refine L_perm (pm_nr _ _ _ _ _ _ _ _ _ _ _).symm ?_
  refine z_aload_n dL_1049 rfl ?_
  refine L_arg hX hb hL hi 1 (by decide) (by decide) rfl rfl dL_1050 dL_1051 dL_1052 dL_1053 dL_1054 ?_
  refine L_xw (fun sz => c_X7_rest G a' (gX_ok G P) sz M _ hp2) (pm_m _ _ _ _ _ _ _ _ _ _ _) rfl rfl zc_X7_rest zv_X7_rest tw_m_RL_118 (L_room7 rfl hk) rfl (Nat.le_of_ble_eq_true rfl) dL_1055 (Nat.le_refl _) (Nat.le_refl _) ?_
  refine L_perm (pm_m _ _ _ _ _ _ _ _ _ _ _).symm ?_
  refine z_icmp_eq dL_1058 (tgt := 1376) (by decide) (fun _ => ?_) (fun hne => absurd hv hne)
  exact h _ _ _ _ _ _ _ _ _ _ _ _ _ _ _ hA2
theorem lw_op_painted {b L : Nat} {xs : Nat → Int32} {i k n : Nat} (hX : va_X b L xs Γ.2.2.1.1 Γ.2.2.1.1.heap) (hb : b < Γ.2.2.1.1.heap.size) (hL : L ≤ 3584) (hi : i + 7 ≤ L) (hk : Lk k n) (h : lwS G Γ b i (k + 162) (n + 810) 1376) : lwS G Γ b i k n 1063 := by
  intro P a a' q N R Q D E O T U V F M hA
  obtain ⟨hp1, hp2, hv, hA2⟩ := op_painted hA (xs (i + 1)) (xs (i + 2)) (xs (i + 3))
  refine z_aload_n dL_1063 rfl ?_
  refine L_arg hX hb hL hi 1 (by decide) (by decide) rfl rfl dL_1064 dL_1065 dL_1066 dL_1067 dL_1068 ?_
  refine L_arg hX hb hL hi 2 (by decide) (by decide) rfl rfl dL_1069 dL_1070 dL_1071 dL_1072 dL_1073 ?_
  refine L_arg hX hb hL hi 3 (by decide) (by decide) rfl rfl dL_1074 dL_1075 dL_1076 dL_1077 dL_1078 ?_
  refine L_xw (fun sz => c_X6_painted G P a sz N _ _ _ hp1) (pm_n _ _ _ _ _ _ _ _ _ _ _) rfl rfl zc_X6_painted zv_X6_painted tw_m_RL_119 (L_room rfl hk) rfl (Nat.zero_le _) dL_1079 (L_k1 hk rfl) (L_k2 hk rfl) ?_
  refine L_perm (pm_n _ _ _ _ _ _ _ _ _ _ _).symm ?_
  refine z_aload_n dL_1082 rfl ?_
  refine L_arg hX hb hL hi 1 (by decide) (by decide) rfl rfl dL_1083 dL_1084 dL_1085 dL_1086 dL_1087 ?_
  refine L_arg hX hb hL hi 2 (by decide) (by decide) rfl rfl dL_1088 dL_1089 dL_1090 dL_1091 dL_1092 ?_
  refine L_arg hX hb hL hi 3 (by decide) (by decide) rfl rfl dL_1093 dL_1094 dL_1095 dL_1096 dL_1097 ?_
  refine L_xw (fun sz => c_X7_painted G a' (gX_ok G P) sz M _ _ _ hp2) (pm_m _ _ _ _ _ _ _ _ _ _ _) rfl rfl zc_X7_painted zv_X7_painted tw_m_RL_122 (L_room7 rfl hk) rfl (Nat.le_of_ble_eq_true rfl) dL_1098 (Nat.le_refl _) (Nat.le_refl _) ?_
  refine L_perm (pm_m _ _ _ _ _ _ _ _ _ _ _).symm ?_
  refine z_icmp_eq dL_1101 (tgt := 1376) (by decide) (fun _ => ?_) (fun hne => absurd hv hne)
  exact h _ _ _ _ _ _ _ _ _ _ _ _ _ _ _ hA2
theorem lw_op_judge {b L : Nat} {xs : Nat → Int32} {i k n : Nat} (hX : va_X b L xs Γ.2.2.1.1 Γ.2.2.1.1.heap) (hb : b < Γ.2.2.1.1.heap.size) (hL : L ≤ 3584) (hi : i + 7 ≤ L) (hk : Lk k n) (h : lwS G Γ b i (k + 162) (n + 810) 1376) : lwS G Γ b i k n 1106 := by
  intro P a a' q N R Q D E O T U V F M hA
  obtain ⟨hp1, hp2, hv, hA2⟩ := op_judge hA O (xs (i + 1)) (xs (i + 2))
  refine z_aload_n dL_1106 rfl ?_
  refine L_arg hX hb hL hi 1 (by decide) (by decide) rfl rfl dL_1107 dL_1108 dL_1109 dL_1110 dL_1111 ?_
  refine L_arg hX hb hL hi 2 (by decide) (by decide) rfl rfl dL_1112 dL_1113 dL_1114 dL_1115 dL_1116 ?_
  refine L_xw (fun sz => c_X6_judge G P a sz N R O F _ _ hp1) (pm_nrof _ _ _ _ _ _ _ _ _ _ _) rfl rfl zc_X6_judge zv_X6_judge tw_m_RL_123 (L_room rfl hk) rfl (Nat.zero_le _) dL_1117 (L_k1 hk rfl) (L_k2 hk rfl) ?_
  refine L_perm (pm_nrof _ _ _ _ _ _ _ _ _ _ _).symm ?_
  refine z_aload_n dL_1120 rfl ?_
  refine L_arg hX hb hL hi 1 (by decide) (by decide) rfl rfl dL_1121 dL_1122 dL_1123 dL_1124 dL_1125 ?_
  refine L_arg hX hb hL hi 2 (by decide) (by decide) rfl rfl dL_1126 dL_1127 dL_1128 dL_1129 dL_1130 ?_
  refine L_xw (fun sz => c_X7_judge G a' (gX_ok G P) sz M _ _ hp2) (pm_m _ _ _ _ _ _ _ _ _ _ _) rfl rfl zc_X7_judge zv_X7_judge tw_m_RL_126 (L_room7 rfl hk) rfl (Nat.le_of_ble_eq_true rfl) dL_1131 (Nat.le_refl _) (Nat.le_refl _) ?_
  refine L_perm (pm_m _ _ _ _ _ _ _ _ _ _ _).symm ?_
  refine z_icmp_eq dL_1134 (tgt := 1376) (by decide) (fun _ => ?_) (fun hne => absurd hv hne)
  exact h _ _ _ _ _ _ _ _ _ _ _ _ _ _ _ hA2
theorem lw_op_behind {b L : Nat} {xs : Nat → Int32} {i k n : Nat} (hX : va_X b L xs Γ.2.2.1.1 Γ.2.2.1.1.heap) (hb : b < Γ.2.2.1.1.heap.size) (hL : L ≤ 3584) (hi : i + 7 ≤ L) (hk : Lk k n) (h : lwS G Γ b i (k + 162) (n + 810) 1376) : lwS G Γ b i k n 1139 := by
  intro P a a' q N R Q D E O T U V F M hA
  obtain ⟨hp1, hp2, hv, hA2⟩ := op_behind hA O (xs (i + 1)) (xs (i + 2)) (xs (i + 3))
  refine z_aload_n dL_1139 rfl ?_
  refine L_arg hX hb hL hi 1 (by decide) (by decide) rfl rfl dL_1140 dL_1141 dL_1142 dL_1143 dL_1144 ?_
  refine L_arg hX hb hL hi 2 (by decide) (by decide) rfl rfl dL_1145 dL_1146 dL_1147 dL_1148 dL_1149 ?_
  refine L_arg hX hb hL hi 3 (by decide) (by decide) rfl rfl dL_1150 dL_1151 dL_1152 dL_1153 dL_1154 ?_
  refine L_xw (fun sz => c_X6_behind G P a sz N R O F _ _ _ hp1) (pm_nrof _ _ _ _ _ _ _ _ _ _ _) rfl rfl zc_X6_behind zv_X6_behind tw_m_RL_127 (L_room rfl hk) rfl (Nat.zero_le _) dL_1155 (L_k1 hk rfl) (L_k2 hk rfl) ?_
  refine L_perm (pm_nrof _ _ _ _ _ _ _ _ _ _ _).symm ?_
  refine z_aload_n dL_1158 rfl ?_
  refine L_arg hX hb hL hi 1 (by decide) (by decide) rfl rfl dL_1159 dL_1160 dL_1161 dL_1162 dL_1163 ?_
  refine L_arg hX hb hL hi 2 (by decide) (by decide) rfl rfl dL_1164 dL_1165 dL_1166 dL_1167 dL_1168 ?_
  refine L_arg hX hb hL hi 3 (by decide) (by decide) rfl rfl dL_1169 dL_1170 dL_1171 dL_1172 dL_1173 ?_
  refine L_xw (fun sz => c_X7_behind G a' (gX_ok G P) sz M _ _ _ hp2) (pm_m _ _ _ _ _ _ _ _ _ _ _) rfl rfl zc_X7_behind zv_X7_behind tw_m_RL_130 (L_room7 rfl hk) rfl (Nat.le_of_ble_eq_true rfl) dL_1174 (Nat.le_refl _) (Nat.le_refl _) ?_
  refine L_perm (pm_m _ _ _ _ _ _ _ _ _ _ _).symm ?_
  refine z_icmp_eq dL_1177 (tgt := 1376) (by decide) (fun _ => ?_) (fun hne => absurd hv hne)
  exact h _ _ _ _ _ _ _ _ _ _ _ _ _ _ _ hA2
end LAWOPS
