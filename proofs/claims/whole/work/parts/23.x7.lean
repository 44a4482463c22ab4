theorem tw_m_RX6_217 : Cond.methodLink RX6 217 yX6_dayRefusal ∈ TS := ts_mem 629 (by decide +kernel) rfl
theorem tw_f_RX6_41 : Cond.fieldLink RX6 41 RX6 "order" "LTollForHesitators$Order;" ∈ TS := ts_mem 262 (by decide +kernel) rfl
theorem tw_m_RX6_221 : Cond.methodLink RX6 221 yX2_readFrom ∈ TS := ts_mem 633 (by decide +kernel) rfl
theorem tw_m_RX6_225 : Cond.methodLink RX6 225 yX2_play ∈ TS := ts_mem 644 (by decide +kernel) rfl
theorem tw_f_RX6_228 : Cond.fieldLink RX6 228 RX2 "free" "I" ∈ TS := ts_mem 216 (by decide +kernel) rfl
theorem tw_m_RX6_231 : Cond.methodLink RX6 231 yJ6_bitCount_0f7a4 ∈ TS := ts_mem 680 (by decide +kernel) rfl
theorem tw_f_RX6_236 : Cond.fieldLink RX6 236 RX2 "pay" "I" ∈ TS := ts_mem 218 (by decide +kernel) rfl
theorem tw_f_RX6_239 : Cond.fieldLink RX6 239 RX2 "back" "I" ∈ TS := ts_mem 220 (by decide +kernel) rfl
theorem tw_m_RX6_242 : Cond.methodLink RX6 242 yX2_paid ∈ TS := ts_mem 681 (by decide +kernel) rfl
theorem tw_code_yX6_order : Cond.code yX6_order cX6_order 6 (some .int) ∈ TS := ts_mem 628 (by decide +kernel) rfl
theorem tw_inst_yX6_order : Cond.instanceMethod yX6_order ∈ TS := ts_mem 626 (by decide +kernel) rfl
theorem tw_s_yX6_order : Cond.selects RX6 yX6_order yX6_order ∈ TS := ts_mem 627 (by decide +kernel) rfl
theorem tw_f_RX6_45 : Cond.fieldLink RX6 45 RX6 "trial" "LTollForHesitators$Order;" ∈ TS := ts_mem 263 (by decide +kernel) rfl
theorem tw_f_RX6_48 : Cond.fieldLink RX6 48 RX6 "found" "LTollForHesitators$Order;" ∈ TS := ts_mem 264 (by decide +kernel) rfl
theorem tw_st_yX2_findBest : Cond.static yX2_findBest ∈ TS := ts_mem 690 (by decide +kernel) rfl
theorem tw_m_RX6_245 : Cond.methodLink RX6 245 yX2_findBest ∈ TS := ts_mem 689 (by decide +kernel) rfl
theorem tw_m_RX6_252 : Cond.methodLink RX6 252 yX2_memberAt ∈ TS := ts_mem 711 (by decide +kernel) rfl
theorem tw_f_RX6_249 : Cond.fieldLink RX6 249 RX2 "weight" "I" ∈ TS := ts_mem 222 (by decide +kernel) rfl
theorem tw_code_yX6_best : Cond.code yX6_best cX6_best 2 (some .int) ∈ TS := ts_mem 688 (by decide +kernel) rfl
theorem tw_inst_yX6_best : Cond.instanceMethod yX6_best ∈ TS := ts_mem 686 (by decide +kernel) rfl
theorem tw_s_yX6_best : Cond.selects RX6 yX6_best yX6_best ∈ TS := ts_mem 687 (by decide +kernel) rfl
theorem tw_m_RX6_255 : Cond.methodLink RX6 255 yX2_byNumbers ∈ TS := ts_mem 716 (by decide +kernel) rfl
theorem tw_code_yX6_pushes : Cond.code yX6_pushes cX6_pushes 6 (some .int) ∈ TS := ts_mem 715 (by decide +kernel) rfl
theorem tw_inst_yX6_pushes : Cond.instanceMethod yX6_pushes ∈ TS := ts_mem 713 (by decide +kernel) rfl
theorem tw_s_yX6_pushes : Cond.selects RX6 yX6_pushes yX6_pushes ∈ TS := ts_mem 714 (by decide +kernel) rfl
theorem tw_m_RX6_258 : Cond.methodLink RX6 258 yJ9_min_7cf53 ∈ TS := ts_mem 721 (by decide +kernel) rfl
theorem tw_code_yX6_practise : Cond.code yX6_practise cX6_practise 9 (some .int) ∈ TS := ts_mem 720 (by decide +kernel) rfl
theorem tw_inst_yX6_practise : Cond.instanceMethod yX6_practise ∈ TS := ts_mem 718 (by decide +kernel) rfl
theorem tw_s_yX6_practise : Cond.selects RX6 yX6_practise yX6_practise ∈ TS := ts_mem 719 (by decide +kernel) rfl
theorem tw_m_RX6_263 : Cond.methodLink RX6 263 yX6_twosRefusal ∈ TS := ts_mem 726 (by decide +kernel) rfl
theorem tw_m_RX6_266 : Cond.methodLink RX6 266 yX6_fitting ∈ TS := ts_mem 732 (by decide +kernel) rfl
theorem tw_code_yX6_fits : Cond.code yX6_fits cX6_fits 6 (some .int) ∈ TS := ts_mem 725 (by decide +kernel) rfl
theorem tw_inst_yX6_fits : Cond.instanceMethod yX6_fits ∈ TS := ts_mem 723 (by decide +kernel) rfl
theorem tw_s_yX6_fits : Cond.selects RX6 yX6_fits yX6_fits ∈ TS := ts_mem 724 (by decide +kernel) rfl
theorem tw_m_RX6_270 : Cond.methodLink RX6 270 yX6_slowAmong ∈ TS := ts_mem 740 (by decide +kernel) rfl
theorem tw_m_RX6_273 : Cond.methodLink RX6 273 yJ9_max_7cf53 ∈ TS := ts_mem 744 (by decide +kernel) rfl
theorem tw_code_yX6_next : Cond.code yX6_next cX6_next 13 (some .int) ∈ TS := ts_mem 739 (by decide +kernel) rfl
theorem tw_inst_yX6_next : Cond.instanceMethod yX6_next ∈ TS := ts_mem 737 (by decide +kernel) rfl
theorem tw_s_yX6_next : Cond.selects RX6 yX6_next yX6_next ∈ TS := ts_mem 738 (by decide +kernel) rfl
theorem tw_m_RX6_276 : Cond.methodLink RX6 276 yX4_comesTo ∈ TS := ts_mem 749 (by decide +kernel) rfl
theorem tw_m_RX6_280 : Cond.methodLink RX6 280 yX4_slowAt ∈ TS := ts_mem 750 (by decide +kernel) rfl
theorem tw_code_yX6_leader : Cond.code yX6_leader cX6_leader 8 (some .int) ∈ TS := ts_mem 748 (by decide +kernel) rfl
theorem tw_inst_yX6_leader : Cond.instanceMethod yX6_leader ∈ TS := ts_mem 746 (by decide +kernel) rfl
theorem tw_s_yX6_leader : Cond.selects RX6 yX6_leader yX6_leader ∈ TS := ts_mem 747 (by decide +kernel) rfl
theorem tw_code_yX6_rest : Cond.code yX6_rest cX6_rest 2 (some .int) ∈ TS := ts_mem 754 (by decide +kernel) rfl
theorem tw_inst_yX6_rest : Cond.instanceMethod yX6_rest ∈ TS := ts_mem 752 (by decide +kernel) rfl
theorem tw_s_yX6_rest : Cond.selects RX6 yX6_rest yX6_rest ∈ TS := ts_mem 753 (by decide +kernel) rfl
theorem tw_l_RX6_284 : Cond.constantLong RX6 284 1000 ∈ TS := ts_mem 759 (by decide +kernel) rfl
theorem tw_code_yX6_painted : Cond.code yX6_painted cX6_painted 10 (some .int) ∈ TS := ts_mem 758 (by decide +kernel) rfl
theorem tw_inst_yX6_painted : Cond.instanceMethod yX6_painted ∈ TS := ts_mem 756 (by decide +kernel) rfl
theorem tw_s_yX6_painted : Cond.selects RX6 yX6_painted yX6_painted ∈ TS := ts_mem 757 (by decide +kernel) rfl
theorem dX6_order_0 : decode cX6_order 0 = .ok (.aload_n 0, 1) := by decide +kernel
theorem dX6_order_1 : decode cX6_order 1 = .ok (.iload_n 1, 1) := by decide +kernel
theorem dX6_order_2 : decode cX6_order 2 = .ok (.iload_n 2, 1) := by decide +kernel
theorem dX6_order_3 : decode cX6_order 3 = .ok (.iload_n 3, 1) := by decide +kernel
theorem dX6_order_4 : decode cX6_order 4 = .ok (.iconst 0, 1) := by decide +kernel
theorem dX6_order_5 : decode cX6_order 5 = .ok (.iconst 5, 1) := by decide +kernel
theorem dX6_order_6 : decode cX6_order 6 = .ok (.invokestatic 74, 3) := by decide +kernel
theorem dX6_order_9 : decode cX6_order 9 = .ok (.invokevirtual 217, 3) := by decide +kernel
theorem dX6_order_12 : decode cX6_order 12 = .ok (.istore 4, 2) := by decide +kernel
theorem dX6_order_14 : decode cX6_order 14 = .ok (.aload_n 0, 1) := by decide +kernel
theorem dX6_order_15 : decode cX6_order 15 = .ok (.iload_n 1, 1) := by decide +kernel
theorem dX6_order_16 : decode cX6_order 16 = .ok (.invokevirtual 66, 3) := by decide +kernel
theorem dX6_order_19 : decode cX6_order 19 = .ok (.astore 5, 2) := by decide +kernel
theorem dX6_order_21 : decode cX6_order 21 = .ok (.iload 4, 2) := by decide +kernel
theorem dX6_order_23 : decode cX6_order 23 = .ok (.ifCond .ne 8, 3) := by decide +kernel
theorem dX6_order_26 : decode cX6_order 26 = .ok (.aload 5, 2) := by decide +kernel
theorem dX6_order_28 : decode cX6_order 28 = .ok (.ifnonnull 10, 3) := by decide +kernel
theorem dX6_order_31 : decode cX6_order 31 = .ok (.aload_n 0, 1) := by decide +kernel
theorem dX6_order_32 : decode cX6_order 32 = .ok (.iload 4, 2) := by decide +kernel
theorem dX6_order_34 : decode cX6_order 34 = .ok (.invokevirtual 70, 3) := by decide +kernel
theorem dX6_order_37 : decode cX6_order 37 = .ok (.ireturn, 1) := by decide +kernel
theorem dX6_order_38 : decode cX6_order 38 = .ok (.aload_n 0, 1) := by decide +kernel
theorem dX6_order_39 : decode cX6_order 39 = .ok (.getfield 41, 3) := by decide +kernel
theorem dX6_order_42 : decode cX6_order 42 = .ok (.aload 5, 2) := by decide +kernel
theorem dX6_order_44 : decode cX6_order 44 = .ok (.iload_n 2, 1) := by decide +kernel
theorem dX6_order_45 : decode cX6_order 45 = .ok (.invokevirtual 221, 3) := by decide +kernel
theorem dX6_order_48 : decode cX6_order 48 = .ok (.ifCond .ne 10, 3) := by decide +kernel
theorem dX6_order_51 : decode cX6_order 51 = .ok (.aload_n 0, 1) := by decide +kernel
theorem dX6_order_52 : decode cX6_order 52 = .ok (.bipush 6, 2) := by decide +kernel
theorem dX6_order_54 : decode cX6_order 54 = .ok (.invokevirtual 70, 3) := by decide +kernel
theorem dX6_order_57 : decode cX6_order 57 = .ok (.ireturn, 1) := by decide +kernel
theorem dX6_order_58 : decode cX6_order 58 = .ok (.aload_n 0, 1) := by decide +kernel
theorem dX6_order_59 : decode cX6_order 59 = .ok (.getfield 41, 3) := by decide +kernel
theorem dX6_order_62 : decode cX6_order 62 = .ok (.iconst 0, 1) := by decide +kernel
theorem dX6_order_63 : decode cX6_order 63 = .ok (.invokevirtual 225, 3) := by decide +kernel
theorem dX6_order_66 : decode cX6_order 66 = .ok (.iload_n 3, 1) := by decide +kernel
theorem dX6_order_67 : decode cX6_order 67 = .ok (.tableswitch 82 0 4 #[33, 44, 55, 66, 74], 33) := by decide +kernel
theorem dX6_order_100 : decode cX6_order 100 = .ok (.aload_n 0, 1) := by decide +kernel
theorem dX6_order_101 : decode cX6_order 101 = .ok (.getfield 41, 3) := by decide +kernel
theorem dX6_order_104 : decode cX6_order 104 = .ok (.getfield 228, 3) := by decide +kernel
theorem dX6_order_107 : decode cX6_order 107 = .ok (.invokestatic 231, 3) := by decide +kernel
theorem dX6_order_110 : decode cX6_order 110 = .ok (.ireturn, 1) := by decide +kernel
theorem dX6_order_111 : decode cX6_order 111 = .ok (.aload_n 0, 1) := by decide +kernel
theorem dX6_order_112 : decode cX6_order 112 = .ok (.getfield 41, 3) := by decide +kernel
theorem dX6_order_115 : decode cX6_order 115 = .ok (.getfield 236, 3) := by decide +kernel
theorem dX6_order_118 : decode cX6_order 118 = .ok (.invokestatic 231, 3) := by decide +kernel
theorem dX6_order_121 : decode cX6_order 121 = .ok (.ireturn, 1) := by decide +kernel
theorem dX6_order_122 : decode cX6_order 122 = .ok (.aload_n 0, 1) := by decide +kernel
theorem dX6_order_123 : decode cX6_order 123 = .ok (.getfield 41, 3) := by decide +kernel
theorem dX6_order_126 : decode cX6_order 126 = .ok (.getfield 239, 3) := by decide +kernel
theorem dX6_order_129 : decode cX6_order 129 = .ok (.invokestatic 231, 3) := by decide +kernel
theorem dX6_order_132 : decode cX6_order 132 = .ok (.ireturn, 1) := by decide +kernel
theorem dX6_order_133 : decode cX6_order 133 = .ok (.aload_n 0, 1) := by decide +kernel
theorem dX6_order_134 : decode cX6_order 134 = .ok (.getfield 41, 3) := by decide +kernel
theorem dX6_order_137 : decode cX6_order 137 = .ok (.invokevirtual 242, 3) := by decide +kernel
theorem dX6_order_140 : decode cX6_order 140 = .ok (.ireturn, 1) := by decide +kernel
theorem dX6_order_141 : decode cX6_order 141 = .ok (.aload_n 0, 1) := by decide +kernel
theorem dX6_order_142 : decode cX6_order 142 = .ok (.getfield 41, 3) := by decide +kernel
theorem dX6_order_145 : decode cX6_order 145 = .ok (.getfield 236, 3) := by decide +kernel
theorem dX6_order_148 : decode cX6_order 148 = .ok (.ireturn, 1) := by decide +kernel
theorem dX6_order_149 : decode cX6_order 149 = .ok (.aload_n 0, 1) := by decide +kernel
theorem dX6_order_150 : decode cX6_order 150 = .ok (.getfield 41, 3) := by decide +kernel
theorem dX6_order_153 : decode cX6_order 153 = .ok (.getfield 239, 3) := by decide +kernel
theorem dX6_order_156 : decode cX6_order 156 = .ok (.ireturn, 1) := by decide +kernel
abbrev k_X6_order : zK := (cX6_order, 6, RX6, (some .int), ({ frames := 5, cells := 0, slots := 0, locals := 114 } : Room))
theorem zc_X6_order : zcal yX6_order k_X6_order.1 k_X6_order.2.1 k_X6_order.2.2.2.1 3 := ⟨tw_code_yX6_order, tw_i_TollForHesitators, ⟨by decide +kernel, by decide +kernel⟩, by decide +kernel⟩
theorem zv_X6_order : Cond.instanceMethod yX6_order ∈ TS ∧ Cond.selects RX6 yX6_order yX6_order ∈ TS := ⟨tw_inst_yX6_order, tw_s_yX6_order⟩
def v_X6_order (P : pT) (N : nT) (R : rT) (O : oT) (F : fT) (x1 : Int32) (x2 : Int32) (x3 : Int32) : Int32 × nT × oT := oc (v_X6_shelfAt N x1) (if (v_X6_dayRefusal N F x1 x2 (v_X6_within x3 0 5)) = 0 then kk (v_X6_refuse N (v_X6_dayRefusal N F x1 x2 (v_X6_within x3 0 5))) (fun q8 : Int32 × nT => (q8.1, (q8.2, O))) else kk (v_X6_refuse N (v_X6_dayRefusal N F x1 x2 (v_X6_within x3 0 5))) (fun q6 : Int32 × nT => (q6.1, (q6.2, O)))) (fun r3 : Nat => if (v_X6_dayRefusal N F x1 x2 (v_X6_within x3 0 5)) = 0 then kk (v_X2_readFrom O R (F r3) x2) (fun q13 : Int32 × oT => if q13.1 = 0 then kk (v_X6_refuse N 6) (fun q23 : Int32 × nT => (q23.1, (q23.2, q13.2))) else kk (v_X2_play P q13.2 R 0) (fun q16 : oT => if x3 = 0 then ((v_J6_bitCount_0f7a4 (q16.1 4)), (N, q16)) else if x3 = 1 then ((v_J6_bitCount_0f7a4 (q16.1 5)), (N, q16)) else if x3 = 2 then ((v_J6_bitCount_0f7a4 (q16.1 6)), (N, q16)) else if x3 = 3 then ((v_X2_paid q16 R), (N, q16)) else if x3 = 4 then (q16.1 5, (N, q16)) else (q16.1 6, (N, q16)))) else kk (v_X6_refuse N (v_X6_dayRefusal N F x1 x2 (v_X6_within x3 0 5))) (fun q11 : Int32 × nT => (q11.1, (q11.2, O))))
def p_X6_order (P : pT) (N : nT) (R : rT) (O : oT) (F : fT) (x1 : Int32) (x2 : Int32) (x3 : Int32) : Prop := (p_X6_dayRefusal N F x1 x2 (v_X6_within x3 0 5)) ∧ (p_X6_shelfAt N x1 ∧ (oc (v_X6_shelfAt N x1) (if (v_X6_dayRefusal N F x1 x2 (v_X6_within x3 0 5)) = 0 then p_X6_refuse N (v_X6_dayRefusal N F x1 x2 (v_X6_within x3 0 5)) else p_X6_refuse N (v_X6_dayRefusal N F x1 x2 (v_X6_within x3 0 5))) (fun r3 : Nat => if (v_X6_dayRefusal N F x1 x2 (v_X6_within x3 0 5)) = 0 then (p_X2_readFrom O R (F r3) x2) ∧ (kk (v_X2_readFrom O R (F r3) x2) (fun q13 : Int32 × oT => if q13.1 = 0 then p_X6_refuse N 6 else p_X2_play P q13.2 R 0)) else p_X6_refuse N (v_X6_dayRefusal N F x1 x2 (v_X6_within x3 0 5)))))
set_option maxHeartbeats 800000 in
theorem c_X6_order {l : Launch} (G : zG) (P : pT) (a : Nat → Nat) (sz : Nat) (N : nT) (R : rT) (O : oT) (F : fT) (x1 : Int32) (x2 : Int32) (x3 : Int32) (hp : p_X6_order P N R O F x1 x2 x3) : Met l yX6_order (.code yX6_order k_X6_order.1 k_X6_order.2.1 k_X6_order.2.2.2.1 :: TS) k_X6_order.2.2.2.2 (Pz G [.ref (a 0), .int x1, .int x2, .int x3] (Fw G (gX G P) (maW G a N ++ rdW G (sh a 10) R ++ orW G (sh a 60) (sh a 10) O ++ faW G a F) sz)) (Qwi G (fun r w => r = (v_X6_order P N R O F x1 x2 x3).1 ∧ w = maW G a ((v_X6_order P N R O F x1 x2 x3).2.1) ++ rdW G (sh a 10) R ++ orW G (sh a 60) (sh a 10) ((v_X6_order P N R O F x1 x2 x3).2.2) ++ faW G a F) (va_A (maW G a N ++ rdW G (sh a 10) R ++ orW G (sh a 60) (sh a 10) O ++ faW G a F) sz)) 0 0 (va_A (maW G a N ++ rdW G (sh a 10) R ++ orW G (sh a 60) (sh a 10) O ++ faW G a F) sz) := by
  refine zmet (K := k_X6_order) (by decide +kernel) rfl rfl (fun Γ hl0 hQ hN hF => ?_)
  refine z_start (gX_ok G P) hF (fun hw => ?_)
  generalize va_A (maW G a N ++ rdW G (sh a 10) R ++ orW G (sh a 60) (sh a 10) O ++ faW G a F) sz = A at hQ hw ⊢
  obtain ⟨res, hv⟩ : ∃ res, v_X6_order P N R O F x1 x2 x3 = res := ⟨_, rfl⟩
  rw [hv] at hQ
  unfold v_X6_order at hv
  unfold p_X6_order at hp
  show Z k_X6_order G Γ _ 0 0 [(0, .ref (a 0)), (1, .int x1), (2, .int x2), (3, .int x3)] 0 []
  refine z_aload_n dX6_order_0 rfl ?_
  refine z_iload_n dX6_order_1 rfl ?_
  refine z_iload_n dX6_order_2 rfl ?_
  refine z_iload_n dX6_order_3 rfl ?_
  refine z_iconst (v := 0) dX6_order_4 rfl ?_
  refine z_iconst (v := 5) dX6_order_5 rfl ?_
  refine z_csi (c_X6_within G P x3 0 5 ) zc_X6_within tw_st_yX6_within tw_m_RX6_74 (fr_all (sub_P wr_P [] rfl) (wr_G hw)) (zroom_of rfl) rfl (Nat.le_of_ble_eq_true rfl) dX6_order_6 ?_
  obtain ⟨q1, hp⟩ := hp
  refine z_cvi (c_X6_dayRefusal G P a N F x1 x2 (v_X6_within x3 0 5) q1) zc_X6_dayRefusal zv_X6_dayRefusal tw_m_RX6_217 (zrec_of wr_P 0 rfl rfl) (fr_all (sub_P wr_P [0, 1, 2, 11, 12, 13, 14, 15, 16, 17, 18, 19, 20, 21, 22, 23, 24, 25, 26] rfl) (wr_G hw)) (zroom_of rfl) rfl (Nat.le_of_ble_eq_true rfl) dX6_order_9 ?_
  refine z_istore (lv' := [(4, .int (v_X6_dayRefusal N F x1 x2 (v_X6_within x3 0 5))), (0, .ref (a 0)), (1, .int x1), (2, .int x2), (3, .int x3)]) dX6_order_12 (Nat.le_of_ble_eq_true rfl) rfl ?_
  refine z_aload_n dX6_order_14 rfl ?_
  refine z_iload_n dX6_order_15 rfl ?_
  obtain ⟨q2, hp⟩ := hp
  refine z_cvq (c_X6_shelfAt G P a N x1 q2) zc_X6_shelfAt zv_X6_shelfAt tw_m_RX6_66 (zrec_of wr_P 0 rfl rfl) (fr_all (sub_P wr_P [0, 1, 2] rfl) (wr_G hw)) (zroom_of rfl) rfl (Nat.le_of_ble_eq_true rfl) dX6_order_16 ?_
  suffices z24 : ∀ r3 : Option Nat, r3 = (v_X6_shelfAt N x1) → (∀ k : Nat, r3 = some k → k < 8) → Z k_X6_order G Γ (wr G A Γ.2.2.1.1.heap (maW G a N ++ rdW G (sh a 10) R ++ orW G (sh a 60) (sh a 10) O ++ faW G a F)) 0 0 [(4, .int (v_X6_dayRefusal N F x1 x2 (v_X6_within x3 0 5))), (0, .ref (a 0)), (1, .int x1), (2, .int x2), (3, .int x3)] 19 [va_rf (r3.map (fun k => sh a (30 + 2 * k) 0))] from z24 _ rfl (shelfAt_lt N x1)
  intro r3 hr3 fr3
  have hp := oc_pq hp hr3
  have hv := oc_vq hv hr3
  clear hr3
  rcases r3 with _ | r3
  · have hp := oc_pn hp; have hv := oc_n hv
    refine z_astoreN (lv' := [(5, .null), (4, .int (v_X6_dayRefusal N F x1 x2 (v_X6_within x3 0 5))), (0, .ref (a 0)), (1, .int x1), (2, .int x2), (3, .int x3)]) dX6_order_19 (Nat.le_of_ble_eq_true rfl) rfl ?_
    refine z_iload dX6_order_21 rfl ?_
    refine z_if_ne (tgt := 31) dX6_order_23 (by decide) (fun c4 => ?_) (fun c4 => ?_)
    · have hp := ip_f hp c4; have hv := it_f hv c4
      refine z_aload_n dX6_order_31 rfl ?_
      refine z_iload dX6_order_32 rfl ?_
      have q5 := hp
      refine z_cwviD (ws' := maW G a ((v_X6_refuse N (v_X6_dayRefusal N F x1 x2 (v_X6_within x3 0 5))).2) ++ rdW G (sh a 10) R ++ orW G (sh a 60) (sh a 10) O ++ faW G a F) hw (fun sz => c_X6_refuse G P a sz N (v_X6_dayRefusal N F x1 x2 (v_X6_within x3 0 5)) q5) [0, 1, 2] [3, 4, 5, 6, 7, 8, 9, 10, 11, 12, 13, 14, 15, 16, 17, 18, 19, 20, 21, 22, 23, 24, 25, 26] [24, 25, 26, 0, 1, 2, 3, 4, 5, 6, 7, 8, 9, 10, 11, 12, 13, 14, 15, 16, 17, 18, 19, 20, 21, 22, 23] 27 rfl rfl rfl rfl zc_X6_refuse zv_X6_refuse tw_m_RX6_70 (zrec_of wr_P 0 rfl rfl) (zroom_of rfl) rfl (Nat.le_of_ble_eq_true rfl) dX6_order_34 ?_
      suffices z25 : ∀ q6 : Int32 × nT, q6 = (v_X6_refuse N (v_X6_dayRefusal N F x1 x2 (v_X6_within x3 0 5))) → Z k_X6_order G Γ (wr G A Γ.2.2.1.1.heap (maW G a q6.2 ++ rdW G (sh a 10) R ++ orW G (sh a 60) (sh a 10) O ++ faW G a F)) 0 0 [(5, .null), (4, .int (v_X6_dayRefusal N F x1 x2 (v_X6_within x3 0 5))), (0, .ref (a 0)), (1, .int x1), (2, .int x2), (3, .int x3)] 37 [.int q6.1] from z25 _ rfl
      intro q6 hq6
      have hv := kk_vq hv hq6
      clear hq6
      subst hv; exact z_iret_W hQ rfl rfl rfl ⟨rfl, rfl⟩ dX6_order_37
    · have hp := ip_t hp c4; have hv := it_t hv c4
      refine z_aloadN dX6_order_26 rfl ?_
      refine z_ifnonnullN dX6_order_28 ?_
      refine z_aload_n dX6_order_31 rfl ?_
      refine z_iload dX6_order_32 rfl ?_
      have q7 := hp
      refine z_cwviD (ws' := maW G a ((v_X6_refuse N (v_X6_dayRefusal N F x1 x2 (v_X6_within x3 0 5))).2) ++ rdW G (sh a 10) R ++ orW G (sh a 60) (sh a 10) O ++ faW G a F) hw (fun sz => c_X6_refuse G P a sz N (v_X6_dayRefusal N F x1 x2 (v_X6_within x3 0 5)) q7) [0, 1, 2] [3, 4, 5, 6, 7, 8, 9, 10, 11, 12, 13, 14, 15, 16, 17, 18, 19, 20, 21, 22, 23, 24, 25, 26] [24, 25, 26, 0, 1, 2, 3, 4, 5, 6, 7, 8, 9, 10, 11, 12, 13, 14, 15, 16, 17, 18, 19, 20, 21, 22, 23] 27 rfl rfl rfl rfl zc_X6_refuse zv_X6_refuse tw_m_RX6_70 (zrec_of wr_P 0 rfl rfl) (zroom_of rfl) rfl (Nat.le_of_ble_eq_true rfl) dX6_order_34 ?_
      suffices z26 : ∀ q8 : Int32 × nT, q8 = (v_X6_refuse N (v_X6_dayRefusal N F x1 x2 (v_X6_within x3 0 5))) → Z k_X6_order G Γ (wr G A Γ.2.2.1.1.heap (maW G a q8.2 ++ rdW G (sh a 10) R ++ orW G (sh a 60) (sh a 10) O ++ faW G a F)) 0 0 [(5, .null), (4, .int (v_X6_dayRefusal N F x1 x2 (v_X6_within x3 0 5))), (0, .ref (a 0)), (1, .int x1), (2, .int x2), (3, .int x3)] 37 [.int q8.1] from z26 _ rfl
      intro q8 hq8
      have hv := kk_vq hv hq8
      clear hq8
      subst hv; exact z_iret_W hQ rfl rfl rfl ⟨rfl, rfl⟩ dX6_order_37
  · have hp := oc_ps hp; have hv := oc_s hv
    have hr3 := fr3 _ rfl; clear fr3
    refine z_astore (lv' := [(5, .ref (sh a (30 + 2 * r3) 0)), (4, .int (v_X6_dayRefusal N F x1 x2 (v_X6_within x3 0 5))), (0, .ref (a 0)), (1, .int x1), (2, .int x2), (3, .int x3)]) dX6_order_19 (Nat.le_of_ble_eq_true rfl) rfl ?_
    refine z_iload dX6_order_21 rfl ?_
    refine z_if_ne (tgt := 31) dX6_order_23 (by decide) (fun c9 => ?_) (fun c9 => ?_)
    · have hp := ip_f hp c9; have hv := it_f hv c9
      refine z_aload_n dX6_order_31 rfl ?_
      refine z_iload dX6_order_32 rfl ?_
      have q10 := hp
      refine z_cwviD (ws' := maW G a ((v_X6_refuse N (v_X6_dayRefusal N F x1 x2 (v_X6_within x3 0 5))).2) ++ rdW G (sh a 10) R ++ orW G (sh a 60) (sh a 10) O ++ faW G a F) hw (fun sz => c_X6_refuse G P a sz N (v_X6_dayRefusal N F x1 x2 (v_X6_within x3 0 5)) q10) [0, 1, 2] [3, 4, 5, 6, 7, 8, 9, 10, 11, 12, 13, 14, 15, 16, 17, 18, 19, 20, 21, 22, 23, 24, 25, 26] [24, 25, 26, 0, 1, 2, 3, 4, 5, 6, 7, 8, 9, 10, 11, 12, 13, 14, 15, 16, 17, 18, 19, 20, 21, 22, 23] 27 rfl rfl rfl rfl zc_X6_refuse zv_X6_refuse tw_m_RX6_70 (zrec_of wr_P 0 rfl rfl) (zroom_of rfl) rfl (Nat.le_of_ble_eq_true rfl) dX6_order_34 ?_
      suffices z27 : ∀ q11 : Int32 × nT, q11 = (v_X6_refuse N (v_X6_dayRefusal N F x1 x2 (v_X6_within x3 0 5))) → Z k_X6_order G Γ (wr G A Γ.2.2.1.1.heap (maW G a q11.2 ++ rdW G (sh a 10) R ++ orW G (sh a 60) (sh a 10) O ++ faW G a F)) 0 0 [(5, .ref (sh a (30 + 2 * r3) 0)), (4, .int (v_X6_dayRefusal N F x1 x2 (v_X6_within x3 0 5))), (0, .ref (a 0)), (1, .int x1), (2, .int x2), (3, .int x3)] 37 [.int q11.1] from z27 _ rfl
      intro q11 hq11
      have hv := kk_vq hv hq11
      clear hq11
      subst hv; exact z_iret_W hQ rfl rfl rfl ⟨rfl, rfl⟩ dX6_order_37
    · have hp := ip_t hp c9; have hv := it_t hv c9
      refine z_aload dX6_order_26 rfl ?_
      refine z_ifnonnull (tgt := 38) dX6_order_28 (by decide) ?_
      refine z_aload_n dX6_order_38 rfl ?_
      refine z_get (v := .ref ((sh a 60) 0)) wr_P 0 rfl rfl uin_X6 5 (Nat.le_of_ble_eq_true rfl) tw_f_RX6_41 rfl rfl dX6_order_39 ?_
      refine z_aload dX6_order_42 rfl ?_
      refine z_iload_n dX6_order_44 rfl ?_
      refine z_out (X := maW G a N ++ rdW G (sh a 10) R ++ orW G (sh a 60) (sh a 10) O) (F := F) hr3 ?_
      obtain ⟨q12, hp⟩ := hp
      refine z_ctviD (R0 := pick (maW G a N ++ rdW G (sh a 10) R ++ orW G (sh a 60) (sh a 10) O ++ shW G (sh a (30 + 2 * r3)) (F r3)) [0, 1, 2]) (W1 := maW G a N ++ rdW G (sh a 10) R ++ orW G (sh a 60) (sh a 10) ((v_X2_readFrom O R (F r3) x2).2) ++ shW G (sh a (30 + 2 * r3)) (F r3)) hw (fun sz => c_X2_readFrom G P (sh a 60) (sh a 10) (sh a (30 + 2 * r3)) sz O R (F r3) x2 q12) [8, 9, 10, 3, 4, 5, 6, 7, 11, 12] [0, 1, 2] [0, 1, 2, 6, 7, 8, 9, 10, 3, 4, 5, 11, 12] 13 (by decide +kernel) rfl rfl rfl rfl rfl zc_X2_readFrom zv_X2_readFrom tw_m_RX6_221 (zrec_of wr_P 8 rfl rfl) (zroom_of rfl) rfl (Nat.le_of_ble_eq_true rfl) dX6_order_45 ?_
      refine z_in0 hr3 ?_
      suffices z28 : ∀ q13 : Int32 × oT, q13 = (v_X2_readFrom O R (F r3) x2) → Z k_X6_order G Γ (wr G A Γ.2.2.1.1.heap (maW G a N ++ rdW G (sh a 10) R ++ orW G (sh a 60) (sh a 10) q13.2 ++ faW G a F)) 0 0 [(5, .ref (sh a (30 + 2 * r3) 0)), (4, .int (v_X6_dayRefusal N F x1 x2 (v_X6_within x3 0 5))), (0, .ref (a 0)), (1, .int x1), (2, .int x2), (3, .int x3)] 48 [.int q13.1] from z28 _ rfl
      intro q13 hq13
      have hp := kk_pq hp hq13
      have hv := kk_vq hv hq13
      clear hq13
      refine z_if_ne (tgt := 58) dX6_order_48 (by decide) (fun c14 => ?_) (fun c14 => ?_)
      · have hp := ip_f hp c14; have hv := it_f hv c14
        refine z_aload_n dX6_order_58 rfl ?_
        refine z_get (v := .ref ((sh a 60) 0)) wr_P 0 rfl rfl uin_X6 5 (Nat.le_of_ble_eq_true rfl) tw_f_RX6_41 rfl rfl dX6_order_59 ?_
        refine z_iconst (v := 0) dX6_order_62 rfl ?_
        have q15 := hp
        refine z_cwvvD (ws' := maW G a N ++ rdW G (sh a 10) R ++ orW G (sh a 60) (sh a 10) (v_X2_play P q13.2 R 0) ++ faW G a F) hw (fun sz => c_X2_play G P (sh a 60) (sh a 10) sz q13.2 R 0 q15) [8, 9, 10, 3, 4, 5, 6, 7] [0, 1, 2, 11, 12, 13, 14, 15, 16, 17, 18, 19, 20, 21, 22, 23, 24, 25, 26] [0, 1, 2, 22, 23, 24, 25, 26, 19, 20, 21, 3, 4, 5, 6, 7, 8, 9, 10, 11, 12, 13, 14, 15, 16, 17, 18] 27 rfl rfl rfl rfl zc_X2_play zv_X2_play tw_m_RX6_225 (zrec_of wr_P 8 rfl rfl) (zroom_of rfl) rfl (Nat.le_of_ble_eq_true rfl) dX6_order_63 ?_
        suffices z29 : ∀ q16 : oT, q16 = (v_X2_play P q13.2 R 0) → Z k_X6_order G Γ (wr G A Γ.2.2.1.1.heap (maW G a N ++ rdW G (sh a 10) R ++ orW G (sh a 60) (sh a 10) q16 ++ faW G a F)) 0 0 [(5, .ref (sh a (30 + 2 * r3) 0)), (4, .int (v_X6_dayRefusal N F x1 x2 (v_X6_within x3 0 5))), (0, .ref (a 0)), (1, .int x1), (2, .int x2), (3, .int x3)] 66 [] from z29 _ rfl
        intro q16 hq16
        have hv := kk_vq hv hq16
        clear hq16
        refine z_iload_n dX6_order_66 rfl ?_
        by_cases c17 : x3 = 0
        · have hv := it_t hv c17
          refine z_tableIn (tgt := 100) dX6_order_67 0 c17 (by decide) (by decide) rfl (by decide) ?_
          refine z_aload_n dX6_order_100 rfl ?_
          refine z_get (v := .ref ((sh a 60) 0)) wr_P 0 rfl rfl uin_X6 5 (Nat.le_of_ble_eq_true rfl) tw_f_RX6_41 rfl rfl dX6_order_101 ?_
          refine z_get (v := .int (q16.1 4)) wr_P 8 rfl rfl uin_X2 4 (Nat.le_of_ble_eq_true rfl) tw_f_RX6_228 rfl rfl dX6_order_104 ?_
          refine z_csi (c_J6_bitCount_0f7a4 G P (q16.1 4) ) zc_J6_bitCount_0f7a4 tw_st_yJ6_bitCount_0f7a4 tw_m_RX6_231 (fr_all (sub_P wr_P [] rfl) (wr_G hw)) (zroom_of rfl) rfl (Nat.le_of_ble_eq_true rfl) dX6_order_107 ?_
          subst hv; exact z_iret_W hQ rfl rfl rfl ⟨rfl, rfl⟩ dX6_order_110
        have hv := it_f hv c17
        by_cases c18 : x3 = 1
        · have hv := it_t hv c18
          refine z_tableIn (tgt := 111) dX6_order_67 1 c18 (by decide) (by decide) rfl (by decide) ?_
          refine z_aload_n dX6_order_111 rfl ?_
          refine z_get (v := .ref ((sh a 60) 0)) wr_P 0 rfl rfl uin_X6 5 (Nat.le_of_ble_eq_true rfl) tw_f_RX6_41 rfl rfl dX6_order_112 ?_
          refine z_get (v := .int (q16.1 5)) wr_P 8 rfl rfl uin_X2 5 (Nat.le_of_ble_eq_true rfl) tw_f_RX6_236 rfl rfl dX6_order_115 ?_
          refine z_csi (c_J6_bitCount_0f7a4 G P (q16.1 5) ) zc_J6_bitCount_0f7a4 tw_st_yJ6_bitCount_0f7a4 tw_m_RX6_231 (fr_all (sub_P wr_P [] rfl) (wr_G hw)) (zroom_of rfl) rfl (Nat.le_of_ble_eq_true rfl) dX6_order_118 ?_
          subst hv; exact z_iret_W hQ rfl rfl rfl ⟨rfl, rfl⟩ dX6_order_121
        have hv := it_f hv c18
        by_cases c19 : x3 = 2
        · have hv := it_t hv c19
          refine z_tableIn (tgt := 122) dX6_order_67 2 c19 (by decide) (by decide) rfl (by decide) ?_
          refine z_aload_n dX6_order_122 rfl ?_
          refine z_get (v := .ref ((sh a 60) 0)) wr_P 0 rfl rfl uin_X6 5 (Nat.le_of_ble_eq_true rfl) tw_f_RX6_41 rfl rfl dX6_order_123 ?_
          refine z_get (v := .int (q16.1 6)) wr_P 8 rfl rfl uin_X2 6 (Nat.le_of_ble_eq_true rfl) tw_f_RX6_239 rfl rfl dX6_order_126 ?_
          refine z_csi (c_J6_bitCount_0f7a4 G P (q16.1 6) ) zc_J6_bitCount_0f7a4 tw_st_yJ6_bitCount_0f7a4 tw_m_RX6_231 (fr_all (sub_P wr_P [] rfl) (wr_G hw)) (zroom_of rfl) rfl (Nat.le_of_ble_eq_true rfl) dX6_order_129 ?_
          subst hv; exact z_iret_W hQ rfl rfl rfl ⟨rfl, rfl⟩ dX6_order_132
        have hv := it_f hv c19
        by_cases c20 : x3 = 3
        · have hv := it_t hv c20
          refine z_tableIn (tgt := 133) dX6_order_67 3 c20 (by decide) (by decide) rfl (by decide) ?_
          refine z_aload_n dX6_order_133 rfl ?_
          refine z_get (v := .ref ((sh a 60) 0)) wr_P 0 rfl rfl uin_X6 5 (Nat.le_of_ble_eq_true rfl) tw_f_RX6_41 rfl rfl dX6_order_134 ?_
          refine z_cvi (c_X2_paid G P (sh a 60) (sh a 10) q16 R ) zc_X2_paid zv_X2_paid tw_m_RX6_242 (zrec_of wr_P 8 rfl rfl) (fr_all (sub_P wr_P [8, 9, 10, 3, 4, 5, 6, 7] rfl) (wr_G hw)) (zroom_of rfl) rfl (Nat.le_of_ble_eq_true rfl) dX6_order_137 ?_
          subst hv; exact z_iret_W hQ rfl rfl rfl ⟨rfl, rfl⟩ dX6_order_140
        have hv := it_f hv c20
        by_cases c21 : x3 = 4
        · have hv := it_t hv c21
          refine z_tableIn (tgt := 141) dX6_order_67 4 c21 (by decide) (by decide) rfl (by decide) ?_
          refine z_aload_n dX6_order_141 rfl ?_
          refine z_get (v := .ref ((sh a 60) 0)) wr_P 0 rfl rfl uin_X6 5 (Nat.le_of_ble_eq_true rfl) tw_f_RX6_41 rfl rfl dX6_order_142 ?_
          refine z_get (v := .int (q16.1 5)) wr_P 8 rfl rfl uin_X2 5 (Nat.le_of_ble_eq_true rfl) tw_f_RX6_236 rfl rfl dX6_order_145 ?_
          subst hv; exact z_iret_W hQ rfl rfl rfl ⟨rfl, rfl⟩ dX6_order_148
        have hv := it_f hv c21
        refine z_tableOut (tgt := 149) dX6_order_67 (zout5_0 c17 c18 c19 c20 c21) (by decide) ?_
        refine z_aload_n dX6_order_149 rfl ?_
        refine z_get (v := .ref ((sh a 60) 0)) wr_P 0 rfl rfl uin_X6 5 (Nat.le_of_ble_eq_true rfl) tw_f_RX6_41 rfl rfl dX6_order_150 ?_
        refine z_get (v := .int (q16.1 6)) wr_P 8 rfl rfl uin_X2 6 (Nat.le_of_ble_eq_true rfl) tw_f_RX6_239 rfl rfl dX6_order_153 ?_
        subst hv; exact z_iret_W hQ rfl rfl rfl ⟨rfl, rfl⟩ dX6_order_156
      · have hp := ip_t hp c14; have hv := it_t hv c14
        refine z_aload_n dX6_order_51 rfl ?_
        refine z_bipush (v := 6) dX6_order_52 rfl ?_
        have q22 := hp
        refine z_cwviD (ws' := maW G a ((v_X6_refuse N 6).2) ++ rdW G (sh a 10) R ++ orW G (sh a 60) (sh a 10) q13.2 ++ faW G a F) hw (fun sz => c_X6_refuse G P a sz N 6 q22) [0, 1, 2] [3, 4, 5, 6, 7, 8, 9, 10, 11, 12, 13, 14, 15, 16, 17, 18, 19, 20, 21, 22, 23, 24, 25, 26] [24, 25, 26, 0, 1, 2, 3, 4, 5, 6, 7, 8, 9, 10, 11, 12, 13, 14, 15, 16, 17, 18, 19, 20, 21, 22, 23] 27 rfl rfl rfl rfl zc_X6_refuse zv_X6_refuse tw_m_RX6_70 (zrec_of wr_P 0 rfl rfl) (zroom_of rfl) rfl (Nat.le_of_ble_eq_true rfl) dX6_order_54 ?_
        suffices z30 : ∀ q23 : Int32 × nT, q23 = (v_X6_refuse N 6) → Z k_X6_order G Γ (wr G A Γ.2.2.1.1.heap (maW G a q23.2 ++ rdW G (sh a 10) R ++ orW G (sh a 60) (sh a 10) q13.2 ++ faW G a F)) 0 0 [(5, .ref (sh a (30 + 2 * r3) 0)), (4, .int (v_X6_dayRefusal N F x1 x2 (v_X6_within x3 0 5))), (0, .ref (a 0)), (1, .int x1), (2, .int x2), (3, .int x3)] 57 [.int q23.1] from z30 _ rfl
        intro q23 hq23
        have hv := kk_vq hv hq23
        clear hq23
        subst hv; exact z_iret_W hQ rfl rfl rfl ⟨rfl, rfl⟩ dX6_order_57
theorem dX6_best_0 : decode cX6_best 0 = .ok (.iload_n 1, 1) := by decide +kernel
theorem dX6_best_1 : decode cX6_best 1 = .ok (.bipush (-2), 2) := by decide +kernel
theorem dX6_best_3 : decode cX6_best 3 = .ok (.if_icmp .lt 14, 3) := by decide +kernel
theorem dX6_best_6 : decode cX6_best 6 = .ok (.iload_n 1, 1) := by decide +kernel
theorem dX6_best_7 : decode cX6_best 7 = .ok (.aload_n 0, 1) := by decide +kernel
theorem dX6_best_8 : decode cX6_best 8 = .ok (.getfield 10, 3) := by decide +kernel
theorem dX6_best_11 : decode cX6_best 11 = .ok (.getfield 157, 3) := by decide +kernel
theorem dX6_best_14 : decode cX6_best 14 = .ok (.if_icmp .lt 12, 3) := by decide +kernel
theorem dX6_best_17 : decode cX6_best 17 = .ok (.aload_n 0, 1) := by decide +kernel
theorem dX6_best_18 : decode cX6_best 18 = .ok (.iconst 5, 1) := by decide +kernel
theorem dX6_best_19 : decode cX6_best 19 = .ok (.invokevirtual 70, 3) := by decide +kernel
theorem dX6_best_22 : decode cX6_best 22 = .ok (.bipush 10, 2) := by decide +kernel
theorem dX6_best_24 : decode cX6_best 24 = .ok (.isub, 1) := by decide +kernel
theorem dX6_best_25 : decode cX6_best 25 = .ok (.ireturn, 1) := by decide +kernel
theorem dX6_best_26 : decode cX6_best 26 = .ok (.aload_n 0, 1) := by decide +kernel
theorem dX6_best_27 : decode cX6_best 27 = .ok (.getfield 45, 3) := by decide +kernel
theorem dX6_best_30 : decode cX6_best 30 = .ok (.aload_n 0, 1) := by decide +kernel
theorem dX6_best_31 : decode cX6_best 31 = .ok (.getfield 48, 3) := by decide +kernel
theorem dX6_best_34 : decode cX6_best 34 = .ok (.invokestatic 245, 3) := by decide +kernel
theorem dX6_best_37 : decode cX6_best 37 = .ok (.iload_n 1, 1) := by decide +kernel
theorem dX6_best_38 : decode cX6_best 38 = .ok (.bipush (-2), 2) := by decide +kernel
theorem dX6_best_40 : decode cX6_best 40 = .ok (.if_icmp .ne 15, 3) := by decide +kernel
theorem dX6_best_43 : decode cX6_best 43 = .ok (.aload_n 0, 1) := by decide +kernel
theorem dX6_best_44 : decode cX6_best 44 = .ok (.getfield 48, 3) := by decide +kernel
theorem dX6_best_47 : decode cX6_best 47 = .ok (.getfield 249, 3) := by decide +kernel
theorem dX6_best_50 : decode cX6_best 50 = .ok (.sipush 1000, 3) := by decide +kernel
theorem dX6_best_53 : decode cX6_best 53 = .ok (.idiv, 1) := by decide +kernel
theorem dX6_best_54 : decode cX6_best 54 = .ok (.ireturn, 1) := by decide +kernel
theorem dX6_best_55 : decode cX6_best 55 = .ok (.iload_n 1, 1) := by decide +kernel
theorem dX6_best_56 : decode cX6_best 56 = .ok (.iconst (-1), 1) := by decide +kernel
theorem dX6_best_57 : decode cX6_best 57 = .ok (.if_icmp .ne 17, 3) := by decide +kernel
theorem dX6_best_60 : decode cX6_best 60 = .ok (.aload_n 0, 1) := by decide +kernel
theorem dX6_best_61 : decode cX6_best 61 = .ok (.getfield 48, 3) := by decide +kernel
theorem dX6_best_64 : decode cX6_best 64 = .ok (.getfield 249, 3) := by decide +kernel
theorem dX6_best_67 : decode cX6_best 67 = .ok (.sipush 1000, 3) := by decide +kernel
theorem dX6_best_70 : decode cX6_best 70 = .ok (.irem, 1) := by decide +kernel
theorem dX6_best_71 : decode cX6_best 71 = .ok (.goto 11, 3) := by decide +kernel
theorem dX6_best_74 : decode cX6_best 74 = .ok (.aload_n 0, 1) := by decide +kernel
theorem dX6_best_75 : decode cX6_best 75 = .ok (.getfield 48, 3) := by decide +kernel
theorem dX6_best_78 : decode cX6_best 78 = .ok (.iload_n 1, 1) := by decide +kernel
theorem dX6_best_79 : decode cX6_best 79 = .ok (.invokevirtual 252, 3) := by decide +kernel
theorem dX6_best_82 : decode cX6_best 82 = .ok (.ireturn, 1) := by decide +kernel
abbrev k_X6_best : zK := (cX6_best, 2, RX6, (some .int), ({ frames := 15, cells := 0, slots := 0, locals := 443 } : Room))
theorem zc_X6_best : zcal yX6_best k_X6_best.1 k_X6_best.2.1 k_X6_best.2.2.2.1 1 := ⟨tw_code_yX6_best, tw_i_TollForHesitators, ⟨by decide +kernel, by decide +kernel⟩, by decide +kernel⟩
theorem zv_X6_best : Cond.instanceMethod yX6_best ∈ TS ∧ Cond.selects RX6 yX6_best yX6_best ∈ TS := ⟨tw_inst_yX6_best, tw_s_yX6_best⟩
def v_X6_best (P : pT) (N : nT) (R : rT) (T : oT) (U : oT) (x1 : Int32) : Int32 × nT × oT × oT := if x1 < (-2) then kk (v_X6_refuse N 5) (fun q3 : Int32 × nT => (q3.1 - 10, (q3.2, T, U))) else if x1 < (R.1 4) then kk (v_X2_findBest P T U R) (fun q6 : oT × oT => if x1 = (-2) then ((q6.2.1 7) / 1000, (N, q6.1, q6.2)) else ((if x1 = (-1) then (q6.2.1 7) - (q6.2.1 7) / 1000 * 1000 else (v_X2_memberAt q6.2 x1)), (N, q6.1, q6.2))) else kk (v_X6_refuse N 5) (fun q12 : Int32 × nT => (q12.1 - 10, (q12.2, T, U)))
def p_X6_best (P : pT) (N : nT) (R : rT) (T : oT) (U : oT) (x1 : Int32) : Prop := if x1 < (-2) then p_X6_refuse N 5 else if x1 < (R.1 4) then p_X2_findBest P T U R ∧ (kk (v_X2_findBest P T U R) (fun q6 : oT × oT => if x1 = (-2) then True else if x1 = (-1) then True else p_X2_memberAt q6.2 x1)) else p_X6_refuse N 5
set_option maxHeartbeats 800000 in
theorem c_X6_best {l : Launch} (G : zG) (P : pT) (a : Nat → Nat) (sz : Nat) (N : nT) (R : rT) (T : oT) (U : oT) (x1 : Int32) (hp : p_X6_best P N R T U x1) : Met l yX6_best (.code yX6_best k_X6_best.1 k_X6_best.2.1 k_X6_best.2.2.2.1 :: TS) k_X6_best.2.2.2.2 (Pz G [.ref (a 0), .int x1] (Fw G (gX G P) (maW G a N ++ rdW G (sh a 10) R ++ orW G (sh a 63) (sh a 10) T ++ orW G (sh a 66) (sh a 10) U) sz)) (Qwi G (fun r w => r = (v_X6_best P N R T U x1).1 ∧ w = maW G a ((v_X6_best P N R T U x1).2.1) ++ rdW G (sh a 10) R ++ orW G (sh a 63) (sh a 10) ((v_X6_best P N R T U x1).2.2.1) ++ orW G (sh a 66) (sh a 10) ((v_X6_best P N R T U x1).2.2.2)) (va_A (maW G a N ++ rdW G (sh a 10) R ++ orW G (sh a 63) (sh a 10) T ++ orW G (sh a 66) (sh a 10) U) sz)) 0 0 (va_A (maW G a N ++ rdW G (sh a 10) R ++ orW G (sh a 63) (sh a 10) T ++ orW G (sh a 66) (sh a 10) U) sz) := by
  refine zmet (K := k_X6_best) (by decide +kernel) rfl rfl (fun Γ hl0 hQ hN hF => ?_)
  refine z_start (gX_ok G P) hF (fun hw => ?_)
  generalize va_A (maW G a N ++ rdW G (sh a 10) R ++ orW G (sh a 63) (sh a 10) T ++ orW G (sh a 66) (sh a 10) U) sz = A at hQ hw ⊢
  obtain ⟨res, hv⟩ : ∃ res, v_X6_best P N R T U x1 = res := ⟨_, rfl⟩
  rw [hv] at hQ
  unfold v_X6_best at hv
  unfold p_X6_best at hp
  show Z k_X6_best G Γ _ 0 0 [(0, .ref (a 0)), (1, .int x1)] 0 []
  refine z_iload_n dX6_best_0 rfl ?_
  refine z_bipush (v := (-2)) dX6_best_1 rfl ?_
  refine z_icmp_lt (tgt := 17) dX6_best_3 (by decide) (fun c1 => ?_) (fun c1 => ?_)
  · have hp := ip_t hp c1; have hv := it_t hv c1
    refine z_aload_n dX6_best_17 rfl ?_
    refine z_iconst (v := 5) dX6_best_18 rfl ?_
    have q2 := hp
    refine z_cwviD (ws' := maW G a ((v_X6_refuse N 5).2) ++ rdW G (sh a 10) R ++ orW G (sh a 63) (sh a 10) T ++ orW G (sh a 66) (sh a 10) U) hw (fun sz => c_X6_refuse G P a sz N 5 q2) [0, 1, 2] [3, 4, 5, 6, 7, 8, 9, 10, 11, 12, 13] [11, 12, 13, 0, 1, 2, 3, 4, 5, 6, 7, 8, 9, 10] 14 rfl rfl rfl rfl zc_X6_refuse zv_X6_refuse tw_m_RX6_70 (zrec_of wr_P 0 rfl rfl) (zroom_of rfl) rfl (Nat.le_of_ble_eq_true rfl) dX6_best_19 ?_
    suffices z13 : ∀ q3 : Int32 × nT, q3 = (v_X6_refuse N 5) → Z k_X6_best G Γ (wr G A Γ.2.2.1.1.heap (maW G a q3.2 ++ rdW G (sh a 10) R ++ orW G (sh a 63) (sh a 10) T ++ orW G (sh a 66) (sh a 10) U)) 0 0 [(0, .ref (a 0)), (1, .int x1)] 22 [.int q3.1] from z13 _ rfl
    intro q3 hq3
    have hv := kk_vq hv hq3
    clear hq3
    refine z_bipush (v := 10) dX6_best_22 rfl ?_
    refine z_isub dX6_best_24 ?_
    subst hv; exact z_iret_W hQ rfl rfl rfl ⟨rfl, rfl⟩ dX6_best_25
  · have hp := ip_f hp c1; have hv := it_f hv c1
    refine z_iload_n dX6_best_6 rfl ?_
    refine z_aload_n dX6_best_7 rfl ?_
    refine z_get (v := .ref ((sh a 10) 0)) wr_P 0 rfl rfl uin_X6 0 (Nat.le_of_ble_eq_true rfl) tw_f_RX6_10 rfl rfl dX6_best_8 ?_
    refine z_get (v := .int (R.1 4)) wr_P 3 rfl rfl uin_X4 4 (Nat.le_of_ble_eq_true rfl) tw_f_RX6_157 rfl rfl dX6_best_11 ?_
    refine z_icmp_lt (tgt := 26) dX6_best_14 (by decide) (fun c4 => ?_) (fun c4 => ?_)
    · have hp := ip_t hp c4; have hv := it_t hv c4
      refine z_aload_n dX6_best_26 rfl ?_
      refine z_get (v := .ref ((sh a 63) 0)) wr_P 0 rfl rfl uin_X6 6 (Nat.le_of_ble_eq_true rfl) tw_f_RX6_45 rfl rfl dX6_best_27 ?_
      refine z_aload_n dX6_best_30 rfl ?_
      refine z_get (v := .ref ((sh a 66) 0)) wr_P 0 rfl rfl uin_X6 7 (Nat.le_of_ble_eq_true rfl) tw_f_RX6_48 rfl rfl dX6_best_31 ?_
      obtain ⟨q5, hp⟩ := hp
      refine z_cwsvD (ws' := maW G a N ++ rdW G (sh a 10) R ++ orW G (sh a 63) (sh a 10) ((v_X2_findBest P T U R).1) ++ orW G (sh a 66) (sh a 10) ((v_X2_findBest P T U R).2)) hw (fun sz => c_X2_findBest G P (sh a 63) (sh a 10) (sh a 66) sz T U R q5) [8, 9, 10, 11, 12, 13, 3, 4, 5, 6, 7] [0, 1, 2] [0, 1, 2, 9, 10, 11, 12, 13, 3, 4, 5, 6, 7, 8] 14 rfl rfl rfl rfl zc_X2_findBest tw_st_yX2_findBest tw_m_RX6_245 (zroom_of rfl) rfl (Nat.le_of_ble_eq_true rfl) dX6_best_34 ?_
      suffices z14 : ∀ q6 : oT × oT, q6 = (v_X2_findBest P T U R) → Z k_X6_best G Γ (wr G A Γ.2.2.1.1.heap (maW G a N ++ rdW G (sh a 10) R ++ orW G (sh a 63) (sh a 10) q6.1 ++ orW G (sh a 66) (sh a 10) q6.2)) 0 0 [(0, .ref (a 0)), (1, .int x1)] 37 [] from z14 _ rfl
      intro q6 hq6
      have hp := kk_pq hp hq6
      have hv := kk_vq hv hq6
      clear hq6
      refine z_iload_n dX6_best_37 rfl ?_
      refine z_bipush (v := (-2)) dX6_best_38 rfl ?_
      refine z_icmp_ne (tgt := 55) dX6_best_40 (by decide) (fun c7 => ?_) (fun c7 => ?_)
      · have hp := ip_f hp c7; have hv := it_f hv c7
        refine z_iload_n dX6_best_55 rfl ?_
        refine z_iconst (v := (-1)) dX6_best_56 rfl ?_
        have hpm := hp
        have J15 : ∀ m10 : Int32, m10 = (if x1 = (-1) then (q6.2.1 7) - (q6.2.1 7) / 1000 * 1000 else (v_X2_memberAt q6.2 x1)) → Z k_X6_best G Γ (wr G A Γ.2.2.1.1.heap (maW G a N ++ rdW G (sh a 10) R ++ orW G (sh a 63) (sh a 10) q6.1 ++ orW G (sh a 66) (sh a 10) q6.2)) 0 0 [(0, .ref (a 0)), (1, .int x1)] 82 [.int m10] := by
          intro m10 em10
          rewrite [em10]; clear em10
          subst hv; exact z_iret_W hQ rfl rfl rfl ⟨rfl, rfl⟩ dX6_best_82
        refine z_icmp_ne (tgt := 74) dX6_best_57 (by decide) (fun c8 => ?_) (fun c8 => ?_)
        · have hp := ip_f hpm c8
          refine z_aload_n dX6_best_74 rfl ?_
          refine z_get (v := .ref ((sh a 66) 0)) wr_P 0 rfl rfl uin_X6 7 (Nat.le_of_ble_eq_true rfl) tw_f_RX6_48 rfl rfl dX6_best_75 ?_
          refine z_iload_n dX6_best_78 rfl ?_
          have q9 := hp
          refine z_cvi (c_X2_memberAt G P (sh a 66) (sh a 10) q6.2 x1 q9) zc_X2_memberAt zv_X2_memberAt tw_m_RX6_252 (zrec_of wr_P 11 rfl rfl) (fr_all (sub_P wr_P [11, 12, 13] rfl) (wr_G hw)) (zroom_of rfl) rfl (Nat.le_of_ble_eq_true rfl) dX6_best_79 ?_
          exact z_lv rfl (J15 _ (if_neg c8).symm)
        · have hp := ip_t hpm c8
          refine z_aload_n dX6_best_60 rfl ?_
          refine z_get (v := .ref ((sh a 66) 0)) wr_P 0 rfl rfl uin_X6 7 (Nat.le_of_ble_eq_true rfl) tw_f_RX6_48 rfl rfl dX6_best_61 ?_
          refine z_get (v := .int (q6.2.1 7)) wr_P 11 rfl rfl uin_X2 7 (Nat.le_of_ble_eq_true rfl) tw_f_RX6_249 rfl rfl dX6_best_64 ?_
          refine z_sipush (v := 1000) dX6_best_67 rfl ?_
          refine z_irem dX6_best_70 (by decide) ?_
          refine z_goto (tgt := 82) dX6_best_71 (by decide) ?_
          exact z_lv rfl (J15 _ (if_pos c8).symm)
      · have hp := ip_t hp c7; have hv := it_t hv c7
        refine z_aload_n dX6_best_43 rfl ?_
        refine z_get (v := .ref ((sh a 66) 0)) wr_P 0 rfl rfl uin_X6 7 (Nat.le_of_ble_eq_true rfl) tw_f_RX6_48 rfl rfl dX6_best_44 ?_
        refine z_get (v := .int (q6.2.1 7)) wr_P 11 rfl rfl uin_X2 7 (Nat.le_of_ble_eq_true rfl) tw_f_RX6_249 rfl rfl dX6_best_47 ?_
        refine z_sipush (v := 1000) dX6_best_50 rfl ?_
        refine z_idiv dX6_best_53 (by decide) ?_
        subst hv; exact z_iret_W hQ rfl rfl rfl ⟨rfl, rfl⟩ dX6_best_54
    · have hp := ip_f hp c4; have hv := it_f hv c4
      refine z_aload_n dX6_best_17 rfl ?_
      refine z_iconst (v := 5) dX6_best_18 rfl ?_
      have q11 := hp
      refine z_cwviD (ws' := maW G a ((v_X6_refuse N 5).2) ++ rdW G (sh a 10) R ++ orW G (sh a 63) (sh a 10) T ++ orW G (sh a 66) (sh a 10) U) hw (fun sz => c_X6_refuse G P a sz N 5 q11) [0, 1, 2] [3, 4, 5, 6, 7, 8, 9, 10, 11, 12, 13] [11, 12, 13, 0, 1, 2, 3, 4, 5, 6, 7, 8, 9, 10] 14 rfl rfl rfl rfl zc_X6_refuse zv_X6_refuse tw_m_RX6_70 (zrec_of wr_P 0 rfl rfl) (zroom_of rfl) rfl (Nat.le_of_ble_eq_true rfl) dX6_best_19 ?_
      suffices z16 : ∀ q12 : Int32 × nT, q12 = (v_X6_refuse N 5) → Z k_X6_best G Γ (wr G A Γ.2.2.1.1.heap (maW G a q12.2 ++ rdW G (sh a 10) R ++ orW G (sh a 63) (sh a 10) T ++ orW G (sh a 66) (sh a 10) U)) 0 0 [(0, .ref (a 0)), (1, .int x1)] 22 [.int q12.1] from z16 _ rfl
      intro q12 hq12
      have hv := kk_vq hv hq12
      clear hq12
      refine z_bipush (v := 10) dX6_best_22 rfl ?_
      refine z_isub dX6_best_24 ?_
      subst hv; exact z_iret_W hQ rfl rfl rfl ⟨rfl, rfl⟩ dX6_best_25
theorem dX6_pushes_0 : decode cX6_pushes 0 = .ok (.iload_n 1, 1) := by decide +kernel
theorem dX6_pushes_1 : decode cX6_pushes 1 = .ok (.iconst 0, 1) := by decide +kernel
theorem dX6_pushes_2 : decode cX6_pushes 2 = .ok (.iconst 1, 1) := by decide +kernel
theorem dX6_pushes_3 : decode cX6_pushes 3 = .ok (.invokestatic 74, 3) := by decide +kernel
theorem dX6_pushes_6 : decode cX6_pushes 6 = .ok (.ifCond .ne 9, 3) := by decide +kernel
theorem dX6_pushes_9 : decode cX6_pushes 9 = .ok (.aload_n 0, 1) := by decide +kernel
theorem dX6_pushes_10 : decode cX6_pushes 10 = .ok (.iconst 5, 1) := by decide +kernel
theorem dX6_pushes_11 : decode cX6_pushes 11 = .ok (.invokevirtual 70, 3) := by decide +kernel
theorem dX6_pushes_14 : decode cX6_pushes 14 = .ok (.ireturn, 1) := by decide +kernel
theorem dX6_pushes_15 : decode cX6_pushes 15 = .ok (.aload_n 0, 1) := by decide +kernel
theorem dX6_pushes_16 : decode cX6_pushes 16 = .ok (.getfield 41, 3) := by decide +kernel
theorem dX6_pushes_19 : decode cX6_pushes 19 = .ok (.invokevirtual 255, 3) := by decide +kernel
theorem dX6_pushes_22 : decode cX6_pushes 22 = .ok (.iconst 0, 1) := by decide +kernel
theorem dX6_pushes_23 : decode cX6_pushes 23 = .ok (.istore_n 2, 1) := by decide +kernel
theorem dX6_pushes_24 : decode cX6_pushes 24 = .ok (.iconst 0, 1) := by decide +kernel
theorem dX6_pushes_25 : decode cX6_pushes 25 = .ok (.istore_n 3, 1) := by decide +kernel
theorem dX6_pushes_26 : decode cX6_pushes 26 = .ok (.iconst 0, 1) := by decide +kernel
theorem dX6_pushes_27 : decode cX6_pushes 27 = .ok (.istore 4, 2) := by decide +kernel
theorem dX6_pushes_29 : decode cX6_pushes 29 = .ok (.iload 4, 2) := by decide +kernel
theorem dX6_pushes_31 : decode cX6_pushes 31 = .ok (.iconst 1, 1) := by decide +kernel
theorem dX6_pushes_32 : decode cX6_pushes 32 = .ok (.aload_n 0, 1) := by decide +kernel
theorem dX6_pushes_33 : decode cX6_pushes 33 = .ok (.getfield 10, 3) := by decide +kernel
theorem dX6_pushes_36 : decode cX6_pushes 36 = .ok (.getfield 157, 3) := by decide +kernel
theorem dX6_pushes_39 : decode cX6_pushes 39 = .ok (.ishl, 1) := by decide +kernel
theorem dX6_pushes_40 : decode cX6_pushes 40 = .ok (.if_icmp .ge 73, 3) := by decide +kernel
theorem dX6_pushes_43 : decode cX6_pushes 43 = .ok (.aload_n 0, 1) := by decide +kernel
theorem dX6_pushes_44 : decode cX6_pushes 44 = .ok (.getfield 41, 3) := by decide +kernel
theorem dX6_pushes_47 : decode cX6_pushes 47 = .ok (.iload 4, 2) := by decide +kernel
theorem dX6_pushes_49 : decode cX6_pushes 49 = .ok (.invokevirtual 225, 3) := by decide +kernel
theorem dX6_pushes_52 : decode cX6_pushes 52 = .ok (.aload_n 0, 1) := by decide +kernel
theorem dX6_pushes_53 : decode cX6_pushes 53 = .ok (.getfield 10, 3) := by decide +kernel
theorem dX6_pushes_56 : decode cX6_pushes 56 = .ok (.getfield 169, 3) := by decide +kernel
theorem dX6_pushes_59 : decode cX6_pushes 59 = .ok (.iload 4, 2) := by decide +kernel
theorem dX6_pushes_61 : decode cX6_pushes 61 = .ok (.invokestatic 231, 3) := by decide +kernel
theorem dX6_pushes_64 : decode cX6_pushes 64 = .ok (.imul, 1) := by decide +kernel
theorem dX6_pushes_65 : decode cX6_pushes 65 = .ok (.aload_n 0, 1) := by decide +kernel
theorem dX6_pushes_66 : decode cX6_pushes 66 = .ok (.getfield 41, 3) := by decide +kernel
theorem dX6_pushes_69 : decode cX6_pushes 69 = .ok (.invokevirtual 242, 3) := by decide +kernel
theorem dX6_pushes_72 : decode cX6_pushes 72 = .ok (.iadd, 1) := by decide +kernel
theorem dX6_pushes_73 : decode cX6_pushes 73 = .ok (.sipush 1000, 3) := by decide +kernel
theorem dX6_pushes_76 : decode cX6_pushes 76 = .ok (.aload_n 0, 1) := by decide +kernel
theorem dX6_pushes_77 : decode cX6_pushes 77 = .ok (.getfield 41, 3) := by decide +kernel
theorem dX6_pushes_80 : decode cX6_pushes 80 = .ok (.getfield 239, 3) := by decide +kernel
theorem dX6_pushes_83 : decode cX6_pushes 83 = .ok (.invokestatic 231, 3) := by decide +kernel
theorem dX6_pushes_86 : decode cX6_pushes 86 = .ok (.imul, 1) := by decide +kernel
theorem dX6_pushes_87 : decode cX6_pushes 87 = .ok (.iadd, 1) := by decide +kernel
theorem dX6_pushes_88 : decode cX6_pushes 88 = .ok (.istore 5, 2) := by decide +kernel
theorem dX6_pushes_90 : decode cX6_pushes 90 = .ok (.iload 4, 2) := by decide +kernel
theorem dX6_pushes_92 : decode cX6_pushes 92 = .ok (.ifCond .eq 9, 3) := by decide +kernel
theorem dX6_pushes_95 : decode cX6_pushes 95 = .ok (.iload 5, 2) := by decide +kernel
theorem dX6_pushes_97 : decode cX6_pushes 97 = .ok (.iload_n 3, 1) := by decide +kernel
theorem dX6_pushes_98 : decode cX6_pushes 98 = .ok (.if_icmp .ge 9, 3) := by decide +kernel
theorem dX6_pushes_101 : decode cX6_pushes 101 = .ok (.iload 4, 2) := by decide +kernel
theorem dX6_pushes_103 : decode cX6_pushes 103 = .ok (.istore_n 2, 1) := by decide +kernel
theorem dX6_pushes_104 : decode cX6_pushes 104 = .ok (.iload 5, 2) := by decide +kernel
theorem dX6_pushes_106 : decode cX6_pushes 106 = .ok (.istore_n 3, 1) := by decide +kernel
theorem dX6_pushes_107 : decode cX6_pushes 107 = .ok (.iinc 4 1, 3) := by decide +kernel
theorem dX6_pushes_110 : decode cX6_pushes 110 = .ok (.goto (-81), 3) := by decide +kernel
theorem dX6_pushes_113 : decode cX6_pushes 113 = .ok (.iload_n 1, 1) := by decide +kernel
theorem dX6_pushes_114 : decode cX6_pushes 114 = .ok (.ifCond .ne 7, 3) := by decide +kernel
theorem dX6_pushes_117 : decode cX6_pushes 117 = .ok (.iload_n 2, 1) := by decide +kernel
theorem dX6_pushes_118 : decode cX6_pushes 118 = .ok (.goto 4, 3) := by decide +kernel
theorem dX6_pushes_121 : decode cX6_pushes 121 = .ok (.iload_n 3, 1) := by decide +kernel
theorem dX6_pushes_122 : decode cX6_pushes 122 = .ok (.ireturn, 1) := by decide +kernel
abbrev k_X6_pushes : zK := (cX6_pushes, 6, RX6, (some .int), ({ frames := 5, cells := 0, slots := 0, locals := 114 } : Room))
theorem zc_X6_pushes : zcal yX6_pushes k_X6_pushes.1 k_X6_pushes.2.1 k_X6_pushes.2.2.2.1 1 := ⟨tw_code_yX6_pushes, tw_i_TollForHesitators, ⟨by decide +kernel, by decide +kernel⟩, by decide +kernel⟩
theorem zv_X6_pushes : Cond.instanceMethod yX6_pushes ∈ TS ∧ Cond.selects RX6 yX6_pushes yX6_pushes ∈ TS := ⟨tw_inst_yX6_pushes, tw_s_yX6_pushes⟩
def v_X6_pushes_r (P : pT) (R : rT) : Nat → nT → oT → Int32 → Int32 → Int32 → Int32 → Int32 × nT × oT
  | 0, N, O, _, _, _, _ => (0, N, O)
  | n + 1, N, O, v1, v2, v3, v4 => if (1 <<< ((R.1 4) &&& 31)) ≤ v4 then ((if v1 = 0 then v2 else v3), (N, O)) else kk (v_X2_play P O R v4) (fun q18 : oT => kk ((((R.1 8) * (v_J6_bitCount_0f7a4 v4)) + (v_X2_paid q18 R)) + (1000 * (v_J6_bitCount_0f7a4 (q18.1 6)))) (fun y19 : Int32 => v_X6_pushes_r P R n N q18 v1 (if v4 = 0 then v4 else (if v3 ≤ y19 then v2 else v4)) (if v4 = 0 then y19 else (if v3 ≤ y19 then v3 else y19)) (v4 + 1)))
def p_X6_pushes_r (P : pT) (R : rT) : Nat → nT → oT → Int32 → Int32 → Int32 → Int32 → Prop
  | 0, _, _, _, _, _, _ => False
  | n + 1, N, O, v1, v2, v3, v4 => if (1 <<< ((R.1 4) &&& 31)) ≤ v4 then True else p_X2_play P O R v4 ∧ (kk (v_X2_play P O R v4) (fun q18 : oT => kk ((((R.1 8) * (v_J6_bitCount_0f7a4 v4)) + (v_X2_paid q18 R)) + (1000 * (v_J6_bitCount_0f7a4 (q18.1 6)))) (fun y19 : Int32 => p_X6_pushes_r P R n N q18 v1 (if v4 = 0 then v4 else (if v3 ≤ y19 then v2 else v4)) (if v4 = 0 then y19 else (if v3 ≤ y19 then v3 else y19)) (v4 + 1))))
def v_X6_pushes (P : pT) (N : nT) (R : rT) (O : oT) (x1 : Int32) : Int32 × nT × oT := if (v_X6_within x1 0 1) = 0 then kk (v_X6_refuse N 5) (fun q5 : Int32 × nT => (q5.1, (q5.2, O))) else kk (v_X2_byNumbers O R) (fun q3 : oT => v_X6_pushes_r P R 200 N q3 x1 0 0 0)
def p_X6_pushes (P : pT) (N : nT) (R : rT) (O : oT) (x1 : Int32) : Prop := if (v_X6_within x1 0 1) = 0 then p_X6_refuse N 5 else p_X2_byNumbers O R ∧ (kk (v_X2_byNumbers O R) (fun q3 : oT => p_X6_pushes_r P R 200 N q3 x1 0 0 0))
set_option maxHeartbeats 800000 in
theorem w_X6_pushes {G : zG} {P : pT} {Γ : zT} {A : Nat → Prop} {res : Int32 × nT × oT} (a : Nat → Nat) (R : rT) (hw : wk (gX G P) A Γ.2.2.1.1.heap) (hQ : zQ Γ (Qwi G (fun r w => r = (res).1 ∧ w = maW G a ((res).2.1) ++ rdW G (sh a 10) R ++ orW G (sh a 60) (sh a 10) ((res).2.2)) A) 0 0 A) : ∀ n : Nat, (∀ (N : nT) (O : oT) (v1 : Int32) (v2 : Int32) (v3 : Int32) (v4 : Int32), p_X6_pushes_r P R n N O v1 v2 v3 v4 → v_X6_pushes_r P R n N O v1 v2 v3 v4 = res → Z k_X6_pushes G Γ (wr G A Γ.2.2.1.1.heap (maW G a N ++ rdW G (sh a 10) R ++ orW G (sh a 60) (sh a 10) O)) 0 0 [(0, .ref (a 0)), (1, .int v1), (2, .int v2), (3, .int v3), (4, .int v4)] 29 []) := by
  intro n
  induction n with
  | zero => exact fun N O v1 v2 v3 v4 hp => absurd hp (by rw [p_X6_pushes_r]; exact not_false)
  | succ n ih =>
    intro N O v1 v2 v3 v4 hp hv
    rw [p_X6_pushes_r] at hp
    rw [v_X6_pushes_r] at hv
    refine z_iload dX6_pushes_29 rfl ?_
    refine z_iconst (v := 1) dX6_pushes_31 rfl ?_
    refine z_aload_n dX6_pushes_32 rfl ?_
    refine z_get (v := .ref ((sh a 10) 0)) wr_P 0 rfl rfl uin_X6 0 (Nat.le_of_ble_eq_true rfl) tw_f_RX6_10 rfl rfl dX6_pushes_33 ?_
    refine z_get (v := .int (R.1 4)) wr_P 3 rfl rfl uin_X4 4 (Nat.le_of_ble_eq_true rfl) tw_f_RX6_157 rfl rfl dX6_pushes_36 ?_
    refine z_ishl dX6_pushes_39 ?_
    refine z_icmp_ge (tgt := 113) dX6_pushes_40 (by decide) (fun c6 => ?_) (fun c6 => ?_)
    · have hp := ip_t hp c6; have hv := it_t hv c6
      refine z_iload_n dX6_pushes_113 rfl ?_
      have J26 : ∀ m16 : Int32, m16 = (if v1 = 0 then v2 else v3) → Z k_X6_pushes G Γ (wr G A Γ.2.2.1.1.heap (maW G a N ++ rdW G (sh a 10) R ++ orW G (sh a 60) (sh a 10) O)) 0 0 [(0, .ref (a 0)), (1, .int v1), (2, .int v2), (3, .int v3), (4, .int v4)] 122 [.int m16] := by
        intro m16 em16
        rewrite [em16]; clear em16
        subst hv; exact z_iret_W hQ rfl rfl rfl ⟨rfl, rfl⟩ dX6_pushes_122
      refine z_if_ne (tgt := 121) dX6_pushes_114 (by decide) (fun c15 => ?_) (fun c15 => ?_)
      · skip
        refine z_iload_n dX6_pushes_121 rfl ?_
        exact z_lv rfl (J26 _ (if_neg c15).symm)
      · skip
        refine z_iload_n dX6_pushes_117 rfl ?_
        refine z_goto (tgt := 122) dX6_pushes_118 (by decide) ?_
        exact z_lv rfl (J26 _ (if_pos c15).symm)
    · have hp := ip_f hp c6; have hv := it_f hv c6
      refine z_aload_n dX6_pushes_43 rfl ?_
      refine z_get (v := .ref ((sh a 60) 0)) wr_P 0 rfl rfl uin_X6 5 (Nat.le_of_ble_eq_true rfl) tw_f_RX6_41 rfl rfl dX6_pushes_44 ?_
      refine z_iload dX6_pushes_47 rfl ?_
      obtain ⟨q17, hp⟩ := hp
      refine z_cwvvD (ws' := maW G a N ++ rdW G (sh a 10) R ++ orW G (sh a 60) (sh a 10) (v_X2_play P O R v4)) hw (fun sz => c_X2_play G P (sh a 60) (sh a 10) sz O R v4 q17) [8, 9, 10, 3, 4, 5, 6, 7] [0, 1, 2] [0, 1, 2, 6, 7, 8, 9, 10, 3, 4, 5] 11 rfl rfl rfl rfl zc_X2_play zv_X2_play tw_m_RX6_225 (zrec_of wr_P 8 rfl rfl) (zroom_of rfl) rfl (Nat.le_of_ble_eq_true rfl) dX6_pushes_49 ?_
      suffices z27 : ∀ q18 : oT, q18 = (v_X2_play P O R v4) → Z k_X6_pushes G Γ (wr G A Γ.2.2.1.1.heap (maW G a N ++ rdW G (sh a 10) R ++ orW G (sh a 60) (sh a 10) q18)) 0 0 [(0, .ref (a 0)), (1, .int v1), (2, .int v2), (3, .int v3), (4, .int v4)] 52 [] from z27 _ rfl
      intro q18 hq18
      have hp := kk_pq hp hq18
      have hv := kk_vq hv hq18
      clear hq18
      refine z_aload_n dX6_pushes_52 rfl ?_
      refine z_get (v := .ref ((sh a 10) 0)) wr_P 0 rfl rfl uin_X6 0 (Nat.le_of_ble_eq_true rfl) tw_f_RX6_10 rfl rfl dX6_pushes_53 ?_
      refine z_get (v := .int (R.1 8)) wr_P 3 rfl rfl uin_X4 8 (Nat.le_of_ble_eq_true rfl) tw_f_RX6_169 rfl rfl dX6_pushes_56 ?_
      refine z_iload dX6_pushes_59 rfl ?_
      refine z_csi (c_J6_bitCount_0f7a4 G P v4 ) zc_J6_bitCount_0f7a4 tw_st_yJ6_bitCount_0f7a4 tw_m_RX6_231 (fr_all (sub_P wr_P [] rfl) (wr_G hw)) (zroom_of rfl) rfl (Nat.le_of_ble_eq_true rfl) dX6_pushes_61 ?_
      refine z_imul dX6_pushes_64 ?_
      refine z_aload_n dX6_pushes_65 rfl ?_
      refine z_get (v := .ref ((sh a 60) 0)) wr_P 0 rfl rfl uin_X6 5 (Nat.le_of_ble_eq_true rfl) tw_f_RX6_41 rfl rfl dX6_pushes_66 ?_
      refine z_cvi (c_X2_paid G P (sh a 60) (sh a 10) q18 R ) zc_X2_paid zv_X2_paid tw_m_RX6_242 (zrec_of wr_P 8 rfl rfl) (fr_all (sub_P wr_P [8, 9, 10, 3, 4, 5, 6, 7] rfl) (wr_G hw)) (zroom_of rfl) rfl (Nat.le_of_ble_eq_true rfl) dX6_pushes_69 ?_
      refine z_iadd dX6_pushes_72 ?_
      refine z_sipush (v := 1000) dX6_pushes_73 rfl ?_
      refine z_aload_n dX6_pushes_76 rfl ?_
      refine z_get (v := .ref ((sh a 60) 0)) wr_P 0 rfl rfl uin_X6 5 (Nat.le_of_ble_eq_true rfl) tw_f_RX6_41 rfl rfl dX6_pushes_77 ?_
      refine z_get (v := .int (q18.1 6)) wr_P 8 rfl rfl uin_X2 6 (Nat.le_of_ble_eq_true rfl) tw_f_RX6_239 rfl rfl dX6_pushes_80 ?_
      refine z_csi (c_J6_bitCount_0f7a4 G P (q18.1 6) ) zc_J6_bitCount_0f7a4 tw_st_yJ6_bitCount_0f7a4 tw_m_RX6_231 (fr_all (sub_P wr_P [] rfl) (wr_G hw)) (zroom_of rfl) rfl (Nat.le_of_ble_eq_true rfl) dX6_pushes_83 ?_
      refine z_imul dX6_pushes_86 ?_
      refine z_iadd dX6_pushes_87 ?_
      suffices z28 : ∀ y19 : Int32, y19 = ((((R.1 8) * (v_J6_bitCount_0f7a4 v4)) + (v_X2_paid q18 R)) + (1000 * (v_J6_bitCount_0f7a4 (q18.1 6)))) → Z k_X6_pushes G Γ (wr G A Γ.2.2.1.1.heap (maW G a N ++ rdW G (sh a 10) R ++ orW G (sh a 60) (sh a 10) q18)) 0 0 [(0, .ref (a 0)), (1, .int v1), (2, .int v2), (3, .int v3), (4, .int v4)] 88 [.int y19] from z28 _ rfl
      intro y19 hy19
      have hp := kk_pq hp hy19
      have hv := kk_vq hv hy19
      clear hy19
      refine z_istore (lv' := [(5, .int y19), (0, .ref (a 0)), (1, .int v1), (2, .int v2), (3, .int v3), (4, .int v4)]) dX6_pushes_88 (Nat.le_of_ble_eq_true rfl) rfl ?_
      refine z_iload dX6_pushes_90 rfl ?_
      have J29 : ∀ m24 : Int32, m24 = (if v4 = 0 then y19 else (if v3 ≤ y19 then v3 else y19)) → ∀ m25 : Int32, m25 = (if v4 = 0 then v4 else (if v3 ≤ y19 then v2 else v4)) → Z k_X6_pushes G Γ (wr G A Γ.2.2.1.1.heap (maW G a N ++ rdW G (sh a 10) R ++ orW G (sh a 60) (sh a 10) q18)) 0 0 [(3, .int m24), (2, .int m25), (5, .int y19), (0, .ref (a 0)), (1, .int v1), (4, .int v4)] 107 [] := by
        intro m24 em24 m25 em25
        rewrite [em24]; clear em24
        rewrite [em25]; clear em25
        refine z_iinc (v := v4 + 1) (lv' := [(4, .int (v4 + 1)), (3, .int (if v4 = 0 then y19 else (if v3 ≤ y19 then v3 else y19))), (2, .int (if v4 = 0 then v4 else (if v3 ≤ y19 then v2 else v4))), (5, .int y19), (0, .ref (a 0)), (1, .int v1)]) dX6_pushes_107 5 rfl rfl (Nat.le_of_ble_eq_true rfl) rfl ?_
        refine z_goto (tgt := 29) dX6_pushes_110 (by decide) ?_
        exact z_lv rfl ((ih) N q18 v1 (if v4 = 0 then v4 else (if v3 ≤ y19 then v2 else v4)) (if v4 = 0 then y19 else (if v3 ≤ y19 then v3 else y19)) (v4 + 1) hp hv)
      refine z_if_eq (tgt := 101) dX6_pushes_92 (by decide) (fun c20 => ?_) (fun c20 => ?_)
      · skip
        refine z_iload dX6_pushes_101 rfl ?_
        refine z_istore_n (lv' := [(2, .int v4), (5, .int y19), (0, .ref (a 0)), (1, .int v1), (3, .int v3), (4, .int v4)]) dX6_pushes_103 (Nat.le_of_ble_eq_true rfl) rfl ?_
        refine z_iload dX6_pushes_104 rfl ?_
        refine z_istore_n (lv' := [(3, .int y19), (2, .int v4), (5, .int y19), (0, .ref (a 0)), (1, .int v1), (4, .int v4)]) dX6_pushes_106 (Nat.le_of_ble_eq_true rfl) rfl ?_
        exact z_lv rfl (J29 _ (if_pos c20).symm _ (if_pos c20).symm)
      · skip
        refine z_iload dX6_pushes_95 rfl ?_
        refine z_iload_n dX6_pushes_97 rfl ?_
        have J30 : ∀ m22 : Int32, m22 = (if v3 ≤ y19 then v2 else v4) → ∀ m23 : Int32, m23 = (if v3 ≤ y19 then v3 else y19) → Z k_X6_pushes G Γ (wr G A Γ.2.2.1.1.heap (maW G a N ++ rdW G (sh a 10) R ++ orW G (sh a 60) (sh a 10) q18)) 0 0 [(5, .int y19), (0, .ref (a 0)), (1, .int v1), (2, .int m22), (3, .int m23), (4, .int v4)] 107 [] := by
          intro m22 em22 m23 em23
          rewrite [em22]; clear em22
          rewrite [em23]; clear em23
          exact z_lv rfl (J29 _ (if_neg c20).symm _ (if_neg c20).symm)
        refine z_icmp_ge (tgt := 107) dX6_pushes_98 (by decide) (fun c21 => ?_) (fun c21 => ?_)
        · skip
          exact z_lv rfl (J30 _ (if_pos c21).symm _ (if_pos c21).symm)
        · skip
          refine z_iload dX6_pushes_101 rfl ?_
          refine z_istore_n (lv' := [(2, .int v4), (5, .int y19), (0, .ref (a 0)), (1, .int v1), (3, .int v3), (4, .int v4)]) dX6_pushes_103 (Nat.le_of_ble_eq_true rfl) rfl ?_
          refine z_iload dX6_pushes_104 rfl ?_
          refine z_istore_n (lv' := [(3, .int y19), (2, .int v4), (5, .int y19), (0, .ref (a 0)), (1, .int v1), (4, .int v4)]) dX6_pushes_106 (Nat.le_of_ble_eq_true rfl) rfl ?_
          exact z_lv rfl (J30 _ (if_neg c21).symm _ (if_neg c21).symm)
set_option maxHeartbeats 800000 in
theorem c_X6_pushes {l : Launch} (G : zG) (P : pT) (a : Nat → Nat) (sz : Nat) (N : nT) (R : rT) (O : oT) (x1 : Int32) (hp : p_X6_pushes P N R O x1) : Met l yX6_pushes (.code yX6_pushes k_X6_pushes.1 k_X6_pushes.2.1 k_X6_pushes.2.2.2.1 :: TS) k_X6_pushes.2.2.2.2 (Pz G [.ref (a 0), .int x1] (Fw G (gX G P) (maW G a N ++ rdW G (sh a 10) R ++ orW G (sh a 60) (sh a 10) O) sz)) (Qwi G (fun r w => r = (v_X6_pushes P N R O x1).1 ∧ w = maW G a ((v_X6_pushes P N R O x1).2.1) ++ rdW G (sh a 10) R ++ orW G (sh a 60) (sh a 10) ((v_X6_pushes P N R O x1).2.2)) (va_A (maW G a N ++ rdW G (sh a 10) R ++ orW G (sh a 60) (sh a 10) O) sz)) 0 0 (va_A (maW G a N ++ rdW G (sh a 10) R ++ orW G (sh a 60) (sh a 10) O) sz) := by
  refine zmet (K := k_X6_pushes) (by decide +kernel) rfl rfl (fun Γ hl0 hQ hN hF => ?_)
  refine z_start (gX_ok G P) hF (fun hw => ?_)
  generalize va_A (maW G a N ++ rdW G (sh a 10) R ++ orW G (sh a 60) (sh a 10) O) sz = A at hQ hw ⊢
  obtain ⟨res, hv⟩ : ∃ res, v_X6_pushes P N R O x1 = res := ⟨_, rfl⟩
  rw [hv] at hQ
  unfold v_X6_pushes at hv
  unfold p_X6_pushes at hp
  show Z k_X6_pushes G Γ _ 0 0 [(0, .ref (a 0)), (1, .int x1)] 0 []
  refine z_iload_n dX6_pushes_0 rfl ?_
  refine z_iconst (v := 0) dX6_pushes_1 rfl ?_
  refine z_iconst (v := 1) dX6_pushes_2 rfl ?_
  refine z_csi (c_X6_within G P x1 0 1 ) zc_X6_within tw_st_yX6_within tw_m_RX6_74 (fr_all (sub_P wr_P [] rfl) (wr_G hw)) (zroom_of rfl) rfl (Nat.le_of_ble_eq_true rfl) dX6_pushes_3 ?_
  refine z_if_ne (tgt := 15) dX6_pushes_6 (by decide) (fun c1 => ?_) (fun c1 => ?_)
  · have hp := ip_f hp c1; have hv := it_f hv c1
    refine z_aload_n dX6_pushes_15 rfl ?_
    refine z_get (v := .ref ((sh a 60) 0)) wr_P 0 rfl rfl uin_X6 5 (Nat.le_of_ble_eq_true rfl) tw_f_RX6_41 rfl rfl dX6_pushes_16 ?_
    obtain ⟨q2, hp⟩ := hp
    refine z_cwvvD (ws' := maW G a N ++ rdW G (sh a 10) R ++ orW G (sh a 60) (sh a 10) (v_X2_byNumbers O R)) hw (fun sz => c_X2_byNumbers G P (sh a 60) (sh a 10) sz O R q2) [8, 9, 10, 3, 4, 5, 6, 7] [0, 1, 2] [0, 1, 2, 6, 7, 8, 9, 10, 3, 4, 5] 11 rfl rfl rfl rfl zc_X2_byNumbers zv_X2_byNumbers tw_m_RX6_255 (zrec_of wr_P 8 rfl rfl) (zroom_of rfl) rfl (Nat.le_of_ble_eq_true rfl) dX6_pushes_19 ?_
    suffices z31 : ∀ q3 : oT, q3 = (v_X2_byNumbers O R) → Z k_X6_pushes G Γ (wr G A Γ.2.2.1.1.heap (maW G a N ++ rdW G (sh a 10) R ++ orW G (sh a 60) (sh a 10) q3)) 0 0 [(0, .ref (a 0)), (1, .int x1)] 22 [] from z31 _ rfl
    intro q3 hq3
    have hp := kk_pq hp hq3
    have hv := kk_vq hv hq3
    clear hq3
    refine z_iconst (v := 0) dX6_pushes_22 rfl ?_
    refine z_istore_n (lv' := [(2, .int 0), (0, .ref (a 0)), (1, .int x1)]) dX6_pushes_23 (Nat.le_of_ble_eq_true rfl) rfl ?_
    refine z_iconst (v := 0) dX6_pushes_24 rfl ?_
    refine z_istore_n (lv' := [(3, .int 0), (2, .int 0), (0, .ref (a 0)), (1, .int x1)]) dX6_pushes_25 (Nat.le_of_ble_eq_true rfl) rfl ?_
    refine z_iconst (v := 0) dX6_pushes_26 rfl ?_
    refine z_istore (lv' := [(4, .int 0), (3, .int 0), (2, .int 0), (0, .ref (a 0)), (1, .int x1)]) dX6_pushes_27 (Nat.le_of_ble_eq_true rfl) rfl ?_
    exact z_lv rfl ((w_X6_pushes a R hw hQ 200) N q3 x1 0 0 0 hp hv)
  · have hp := ip_t hp c1; have hv := it_t hv c1
    refine z_aload_n dX6_pushes_9 rfl ?_
    refine z_iconst (v := 5) dX6_pushes_10 rfl ?_
    have q4 := hp
    refine z_cwviD (ws' := maW G a ((v_X6_refuse N 5).2) ++ rdW G (sh a 10) R ++ orW G (sh a 60) (sh a 10) O) hw (fun sz => c_X6_refuse G P a sz N 5 q4) [0, 1, 2] [3, 4, 5, 6, 7, 8, 9, 10] [8, 9, 10, 0, 1, 2, 3, 4, 5, 6, 7] 11 rfl rfl rfl rfl zc_X6_refuse zv_X6_refuse tw_m_RX6_70 (zrec_of wr_P 0 rfl rfl) (zroom_of rfl) rfl (Nat.le_of_ble_eq_true rfl) dX6_pushes_11 ?_
    suffices z32 : ∀ q5 : Int32 × nT, q5 = (v_X6_refuse N 5) → Z k_X6_pushes G Γ (wr G A Γ.2.2.1.1.heap (maW G a q5.2 ++ rdW G (sh a 10) R ++ orW G (sh a 60) (sh a 10) O)) 0 0 [(0, .ref (a 0)), (1, .int x1)] 14 [.int q5.1] from z32 _ rfl
    intro q5 hq5
    have hv := kk_vq hv hq5
    clear hq5
    subst hv; exact z_iret_W hQ rfl rfl rfl ⟨rfl, rfl⟩ dX6_pushes_14
theorem dX6_practise_0 : decode cX6_practise 0 = .ok (.aload_n 0, 1) := by decide +kernel
theorem dX6_practise_1 : decode cX6_practise 1 = .ok (.getfield 10, 3) := by decide +kernel
theorem dX6_practise_4 : decode cX6_practise 4 = .ok (.iload_n 1, 1) := by decide +kernel
theorem dX6_practise_5 : decode cX6_practise 5 = .ok (.invokevirtual 121, 3) := by decide +kernel
theorem dX6_practise_8 : decode cX6_practise 8 = .ok (.ifCond .ne 9, 3) := by decide +kernel
theorem dX6_practise_11 : decode cX6_practise 11 = .ok (.aload_n 0, 1) := by decide +kernel
theorem dX6_practise_12 : decode cX6_practise 12 = .ok (.iconst 1, 1) := by decide +kernel
theorem dX6_practise_13 : decode cX6_practise 13 = .ok (.invokevirtual 70, 3) := by decide +kernel
theorem dX6_practise_16 : decode cX6_practise 16 = .ok (.ireturn, 1) := by decide +kernel
theorem dX6_practise_17 : decode cX6_practise 17 = .ok (.iload_n 3, 1) := by decide +kernel
theorem dX6_practise_18 : decode cX6_practise 18 = .ok (.iconst 0, 1) := by decide +kernel
theorem dX6_practise_19 : decode cX6_practise 19 = .ok (.iconst 1, 1) := by decide +kernel
theorem dX6_practise_20 : decode cX6_practise 20 = .ok (.invokestatic 74, 3) := by decide +kernel
theorem dX6_practise_23 : decode cX6_practise 23 = .ok (.ifCond .ne 9, 3) := by decide +kernel
theorem dX6_practise_26 : decode cX6_practise 26 = .ok (.aload_n 0, 1) := by decide +kernel
theorem dX6_practise_27 : decode cX6_practise 27 = .ok (.iconst 5, 1) := by decide +kernel
theorem dX6_practise_28 : decode cX6_practise 28 = .ok (.invokevirtual 70, 3) := by decide +kernel
theorem dX6_practise_31 : decode cX6_practise 31 = .ok (.ireturn, 1) := by decide +kernel
theorem dX6_practise_32 : decode cX6_practise 32 = .ok (.iload_n 2, 1) := by decide +kernel
theorem dX6_practise_33 : decode cX6_practise 33 = .ok (.iconst 1, 1) := by decide +kernel
theorem dX6_practise_34 : decode cX6_practise 34 = .ok (.bipush 99, 2) := by decide +kernel
theorem dX6_practise_36 : decode cX6_practise 36 = .ok (.invokestatic 74, 3) := by decide +kernel
theorem dX6_practise_39 : decode cX6_practise 39 = .ok (.ifCond .ne 10, 3) := by decide +kernel
theorem dX6_practise_42 : decode cX6_practise 42 = .ok (.aload_n 0, 1) := by decide +kernel
theorem dX6_practise_43 : decode cX6_practise 43 = .ok (.bipush 6, 2) := by decide +kernel
theorem dX6_practise_45 : decode cX6_practise 45 = .ok (.invokevirtual 70, 3) := by decide +kernel
theorem dX6_practise_48 : decode cX6_practise 48 = .ok (.ireturn, 1) := by decide +kernel
theorem dX6_practise_49 : decode cX6_practise 49 = .ok (.iconst 0, 1) := by decide +kernel
theorem dX6_practise_50 : decode cX6_practise 50 = .ok (.istore 4, 2) := by decide +kernel
theorem dX6_practise_52 : decode cX6_practise 52 = .ok (.iconst 0, 1) := by decide +kernel
theorem dX6_practise_53 : decode cX6_practise 53 = .ok (.istore 5, 2) := by decide +kernel
theorem dX6_practise_55 : decode cX6_practise 55 = .ok (.iconst 0, 1) := by decide +kernel
theorem dX6_practise_56 : decode cX6_practise 56 = .ok (.istore 6, 2) := by decide +kernel
theorem dX6_practise_58 : decode cX6_practise 58 = .ok (.iload 6, 2) := by decide +kernel
theorem dX6_practise_60 : decode cX6_practise 60 = .ok (.bipush 20, 2) := by decide +kernel
theorem dX6_practise_62 : decode cX6_practise 62 = .ok (.if_icmp .gt 73, 3) := by decide +kernel
theorem dX6_practise_65 : decode cX6_practise 65 = .ok (.bipush 30, 2) := by decide +kernel
theorem dX6_practise_67 : decode cX6_practise 67 = .ok (.aload_n 0, 1) := by decide +kernel
theorem dX6_practise_68 : decode cX6_practise 68 = .ok (.getfield 10, 3) := by decide +kernel
theorem dX6_practise_71 : decode cX6_practise 71 = .ok (.getfield 172, 3) := by decide +kernel
theorem dX6_practise_74 : decode cX6_practise 74 = .ok (.iload_n 1, 1) := by decide +kernel
theorem dX6_practise_75 : decode cX6_practise 75 = .ok (.iaload, 1) := by decide +kernel
theorem dX6_practise_76 : decode cX6_practise 76 = .ok (.iload 6, 2) := by decide +kernel
theorem dX6_practise_78 : decode cX6_practise 78 = .ok (.iadd, 1) := by decide +kernel
theorem dX6_practise_79 : decode cX6_practise 79 = .ok (.invokestatic 258, 3) := by decide +kernel
theorem dX6_practise_82 : decode cX6_practise 82 = .ok (.istore 7, 2) := by decide +kernel
theorem dX6_practise_84 : decode cX6_practise 84 = .ok (.iload 6, 2) := by decide +kernel
theorem dX6_practise_86 : decode cX6_practise 86 = .ok (.iload_n 2, 1) := by decide +kernel
theorem dX6_practise_87 : decode cX6_practise 87 = .ok (.imul, 1) := by decide +kernel
theorem dX6_practise_88 : decode cX6_practise 88 = .ok (.aload_n 0, 1) := by decide +kernel
theorem dX6_practise_89 : decode cX6_practise 89 = .ok (.getfield 10, 3) := by decide +kernel
theorem dX6_practise_92 : decode cX6_practise 92 = .ok (.getfield 166, 3) := by decide +kernel
theorem dX6_practise_95 : decode cX6_practise 95 = .ok (.aload_n 0, 1) := by decide +kernel
theorem dX6_practise_96 : decode cX6_practise 96 = .ok (.getfield 10, 3) := by decide +kernel
theorem dX6_practise_99 : decode cX6_practise 99 = .ok (.iload_n 1, 1) := by decide +kernel
theorem dX6_practise_100 : decode cX6_practise 100 = .ok (.iload 7, 2) := by decide +kernel
theorem dX6_practise_102 : decode cX6_practise 102 = .ok (.invokevirtual 213, 3) := by decide +kernel
theorem dX6_practise_105 : decode cX6_practise 105 = .ok (.imul, 1) := by decide +kernel
theorem dX6_practise_106 : decode cX6_practise 106 = .ok (.iadd, 1) := by decide +kernel
theorem dX6_practise_107 : decode cX6_practise 107 = .ok (.istore 8, 2) := by decide +kernel
theorem dX6_practise_109 : decode cX6_practise 109 = .ok (.iload 6, 2) := by decide +kernel
theorem dX6_practise_111 : decode cX6_practise 111 = .ok (.ifCond .eq 10, 3) := by decide +kernel
theorem dX6_practise_114 : decode cX6_practise 114 = .ok (.iload 8, 2) := by decide +kernel
theorem dX6_practise_116 : decode cX6_practise 116 = .ok (.iload 5, 2) := by decide +kernel
theorem dX6_practise_118 : decode cX6_practise 118 = .ok (.if_icmp .ge 11, 3) := by decide +kernel
theorem dX6_practise_121 : decode cX6_practise 121 = .ok (.iload 6, 2) := by decide +kernel
theorem dX6_practise_123 : decode cX6_practise 123 = .ok (.istore 4, 2) := by decide +kernel
theorem dX6_practise_125 : decode cX6_practise 125 = .ok (.iload 8, 2) := by decide +kernel
theorem dX6_practise_127 : decode cX6_practise 127 = .ok (.istore 5, 2) := by decide +kernel
theorem dX6_practise_129 : decode cX6_practise 129 = .ok (.iinc 6 1, 3) := by decide +kernel
theorem dX6_practise_132 : decode cX6_practise 132 = .ok (.goto (-74), 3) := by decide +kernel
theorem dX6_practise_135 : decode cX6_practise 135 = .ok (.iload_n 3, 1) := by decide +kernel
theorem dX6_practise_136 : decode cX6_practise 136 = .ok (.ifCond .ne 8, 3) := by decide +kernel
theorem dX6_practise_139 : decode cX6_practise 139 = .ok (.iload 4, 2) := by decide +kernel
theorem dX6_practise_141 : decode cX6_practise 141 = .ok (.goto 5, 3) := by decide +kernel
theorem dX6_practise_144 : decode cX6_practise 144 = .ok (.iload 5, 2) := by decide +kernel
theorem dX6_practise_146 : decode cX6_practise 146 = .ok (.ireturn, 1) := by decide +kernel
abbrev k_X6_practise : zK := (cX6_practise, 9, RX6, (some .int), ({ frames := 5, cells := 0, slots := 0, locals := 113 } : Room))
theorem zc_X6_practise : zcal yX6_practise k_X6_practise.1 k_X6_practise.2.1 k_X6_practise.2.2.2.1 3 := ⟨tw_code_yX6_practise, tw_i_TollForHesitators, ⟨by decide +kernel, by decide +kernel⟩, by decide +kernel⟩
theorem zv_X6_practise : Cond.instanceMethod yX6_practise ∈ TS ∧ Cond.selects RX6 yX6_practise yX6_practise ∈ TS := ⟨tw_inst_yX6_practise, tw_s_yX6_practise⟩
def v_X6_practise_r (P : pT) (R : rT) : Nat → nT → Int32 → Int32 → Int32 → Int32 → Int32 → Int32 → Int32 × nT
  | 0, N, _, _, _, _, _, _ => (0, N)
  | n + 1, N, v1, v2, v3, v4, v5, v6 => if 20 < v6 then ((if v3 = 0 then v4 else v5), N) else kk ((if (((R.2.1 1) v1.toNatClampNeg) + v6) < 30 then ((R.2.1 1) v1.toNatClampNeg) + v6 else 30)) (fun y23 : Int32 => kk (if v6 = 0 then (v6 * v2) + ((R.1 7) * (v_X4_fogsOf P R v1 y23)) else (if v5 ≤ ((v6 * v2) + ((R.1 7) * (v_X4_fogsOf P R v1 y23))) then v5 else (v6 * v2) + ((R.1 7) * (v_X4_fogsOf P R v1 y23)))) (fun m29 : Int32 => kk (if v6 = 0 then v6 else (if v5 ≤ ((v6 * v2) + ((R.1 7) * (v_X4_fogsOf P R v1 y23))) then v4 else v6)) (fun m30 : Int32 => v_X6_practise_r P R n N v1 v2 v3 m30 m29 (v6 + 1))))
def p_X6_practise_r (P : pT) (R : rT) : Nat → nT → Int32 → Int32 → Int32 → Int32 → Int32 → Int32 → Prop
  | 0, _, _, _, _, _, _, _ => False
  | n + 1, N, v1, v2, v3, v4, v5, v6 => if 20 < v6 then True else vp_in v1 7 ∧ (kk ((if (((R.2.1 1) v1.toNatClampNeg) + v6) < 30 then ((R.2.1 1) v1.toNatClampNeg) + v6 else 30)) (fun y23 : Int32 => p_X4_fogsOf P R v1 y23 ∧ (kk (if v6 = 0 then (v6 * v2) + ((R.1 7) * (v_X4_fogsOf P R v1 y23)) else (if v5 ≤ ((v6 * v2) + ((R.1 7) * (v_X4_fogsOf P R v1 y23))) then v5 else (v6 * v2) + ((R.1 7) * (v_X4_fogsOf P R v1 y23)))) (fun m29 : Int32 => kk (if v6 = 0 then v6 else (if v5 ≤ ((v6 * v2) + ((R.1 7) * (v_X4_fogsOf P R v1 y23))) then v4 else v6)) (fun m30 : Int32 => p_X6_practise_r P R n N v1 v2 v3 m30 m29 (v6 + 1))))))
def v_X6_practise (P : pT) (N : nT) (R : rT) (x1 : Int32) (x2 : Int32) (x3 : Int32) : Int32 × nT := if (v_X4_has R x1) = 0 then kk (v_X6_refuse N 1) (fun q10 : Int32 × nT => (q10.1, q10.2)) else if (v_X6_within x3 0 1) = 0 then kk (v_X6_refuse N 5) (fun q8 : Int32 × nT => (q8.1, q8.2)) else if (v_X6_within x2 1 99) = 0 then kk (v_X6_refuse N 6) (fun q6 : Int32 × nT => (q6.1, q6.2)) else v_X6_practise_r P R 200 N x1 x2 x3 0 0 0
def p_X6_practise (P : pT) (N : nT) (R : rT) (x1 : Int32) (x2 : Int32) (x3 : Int32) : Prop := p_X4_has R x1 ∧ (if (v_X4_has R x1) = 0 then p_X6_refuse N 1 else if (v_X6_within x3 0 1) = 0 then p_X6_refuse N 5 else if (v_X6_within x2 1 99) = 0 then p_X6_refuse N 6 else p_X6_practise_r P R 200 N x1 x2 x3 0 0 0)
set_option maxHeartbeats 800000 in
theorem w_X6_practise {G : zG} {P : pT} {Γ : zT} {A : Nat → Prop} {res : Int32 × nT} (a : Nat → Nat) (R : rT) (hw : wk (gX G P) A Γ.2.2.1.1.heap) (hQ : zQ Γ (Qwi G (fun r w => r = (res).1 ∧ w = maW G a ((res).2) ++ rdW G (sh a 10) R) A) 0 0 A) : ∀ n : Nat, (∀ (N : nT) (v1 : Int32) (v2 : Int32) (v3 : Int32) (v4 : Int32) (v5 : Int32) (v6 : Int32), p_X6_practise_r P R n N v1 v2 v3 v4 v5 v6 → v_X6_practise_r P R n N v1 v2 v3 v4 v5 v6 = res → Z k_X6_practise G Γ (wr G A Γ.2.2.1.1.heap (maW G a N ++ rdW G (sh a 10) R)) 0 0 [(0, .ref (a 0)), (1, .int v1), (2, .int v2), (3, .int v3), (4, .int v4), (5, .int v5), (6, .int v6)] 58 []) := by
  intro n
  induction n with
  | zero => exact fun N v1 v2 v3 v4 v5 v6 hp => absurd hp (by rw [p_X6_practise_r]; exact not_false)
  | succ n ih =>
    intro N v1 v2 v3 v4 v5 v6 hp hv
    rw [p_X6_practise_r] at hp
    rw [v_X6_practise_r] at hv
    refine z_iload dX6_practise_58 rfl ?_
    refine z_bipush (v := 20) dX6_practise_60 rfl ?_
    refine z_icmp_gt (tgt := 135) dX6_practise_62 (by decide) (fun c11 => ?_) (fun c11 => ?_)
    · have hp := ip_t hp c11; have hv := it_t hv c11
      refine z_iload_n dX6_practise_135 rfl ?_
      have J31 : ∀ m21 : Int32, m21 = (if v3 = 0 then v4 else v5) → Z k_X6_practise G Γ (wr G A Γ.2.2.1.1.heap (maW G a N ++ rdW G (sh a 10) R)) 0 0 [(0, .ref (a 0)), (1, .int v1), (2, .int v2), (3, .int v3), (4, .int v4), (5, .int v5), (6, .int v6)] 146 [.int m21] := by
        intro m21 em21
        rewrite [em21]; clear em21
        subst hv; exact z_iret_W hQ rfl rfl rfl ⟨rfl, rfl⟩ dX6_practise_146
      refine z_if_ne (tgt := 144) dX6_practise_136 (by decide) (fun c20 => ?_) (fun c20 => ?_)
      · skip
        refine z_iload dX6_practise_144 rfl ?_
        exact z_lv rfl (J31 _ (if_neg c20).symm)
      · skip
        refine z_iload dX6_practise_139 rfl ?_
        refine z_goto (tgt := 146) dX6_practise_141 (by decide) ?_
        exact z_lv rfl (J31 _ (if_pos c20).symm)
    · have hp := ip_f hp c11; have hv := it_f hv c11
      refine z_bipush (v := 30) dX6_practise_65 rfl ?_
      refine z_aload_n dX6_practise_67 rfl ?_
      refine z_get (v := .ref ((sh a 10) 0)) wr_P 0 rfl rfl uin_X6 0 (Nat.le_of_ble_eq_true rfl) tw_f_RX6_10 rfl rfl dX6_practise_68 ?_
      refine z_get (v := .ref ((sh a 10) 2)) wr_P 3 rfl rfl uin_X4 1 (Nat.le_of_ble_eq_true rfl) tw_f_RX6_172 rfl rfl dX6_practise_71 ?_
      refine z_iload_n dX6_practise_74 rfl ?_
      obtain ⟨q22, hp⟩ := hp
      refine z_ialdx (x := (R.2.1 1) v1.toNatClampNeg) wr_P 5 rfl q22 rfl dX6_practise_75 ?_
      refine z_iload dX6_practise_76 rfl ?_
      refine z_iadd dX6_practise_78 ?_
      refine z_min tw_m_RX6_258 tw_st_yJ9_min_7cf53 tw_i_java_lang_Math tw_code_yJ9_min_7cf53 ⟨Nat.le_of_ble_eq_true rfl, Nat.le_of_ble_eq_true rfl, Nat.le_of_ble_eq_true rfl, Nat.le_of_ble_eq_true rfl⟩ dX6_practise_79 ?_
      suffices z32 : ∀ y23 : Int32, y23 = ((if (((R.2.1 1) v1.toNatClampNeg) + v6) < 30 then ((R.2.1 1) v1.toNatClampNeg) + v6 else 30)) → Z k_X6_practise G Γ (wr G A Γ.2.2.1.1.heap (maW G a N ++ rdW G (sh a 10) R)) 0 0 [(0, .ref (a 0)), (1, .int v1), (2, .int v2), (3, .int v3), (4, .int v4), (5, .int v5), (6, .int v6)] 82 [.int y23] from z32 _ rfl
      intro y23 hy23
      have hp := kk_pq hp hy23
      have hv := kk_vq hv hy23
      clear hy23
      refine z_istore (lv' := [(7, .int y23), (0, .ref (a 0)), (1, .int v1), (2, .int v2), (3, .int v3), (4, .int v4), (5, .int v5), (6, .int v6)]) dX6_practise_82 (Nat.le_of_ble_eq_true rfl) rfl ?_
      refine z_iload dX6_practise_84 rfl ?_
      refine z_iload_n dX6_practise_86 rfl ?_
      refine z_imul dX6_practise_87 ?_
      refine z_aload_n dX6_practise_88 rfl ?_
      refine z_get (v := .ref ((sh a 10) 0)) wr_P 0 rfl rfl uin_X6 0 (Nat.le_of_ble_eq_true rfl) tw_f_RX6_10 rfl rfl dX6_practise_89 ?_
      refine z_get (v := .int (R.1 7)) wr_P 3 rfl rfl uin_X4 7 (Nat.le_of_ble_eq_true rfl) tw_f_RX6_166 rfl rfl dX6_practise_92 ?_
      refine z_aload_n dX6_practise_95 rfl ?_
      refine z_get (v := .ref ((sh a 10) 0)) wr_P 0 rfl rfl uin_X6 0 (Nat.le_of_ble_eq_true rfl) tw_f_RX6_10 rfl rfl dX6_practise_96 ?_
      refine z_iload_n dX6_practise_99 rfl ?_
      refine z_iload dX6_practise_100 rfl ?_
      obtain ⟨q24, hp⟩ := hp
      refine z_cvi (c_X4_fogsOf G P (sh a 10) R v1 y23 q24) zc_X4_fogsOf zv_X4_fogsOf tw_m_RX6_213 (zrec_of wr_P 3 rfl rfl) (fr_all (sub_P wr_P [3, 4, 5, 6, 7] rfl) (wr_G hw)) (zroom_of rfl) rfl (Nat.le_of_ble_eq_true rfl) dX6_practise_102 ?_
      refine z_imul dX6_practise_105 ?_
      refine z_iadd dX6_practise_106 ?_
      refine z_istore (lv' := [(8, .int ((v6 * v2) + ((R.1 7) * (v_X4_fogsOf P R v1 y23)))), (7, .int y23), (0, .ref (a 0)), (1, .int v1), (2, .int v2), (3, .int v3), (4, .int v4), (5, .int v5), (6, .int v6)]) dX6_practise_107 (Nat.le_of_ble_eq_true rfl) rfl ?_
      refine z_iload dX6_practise_109 rfl ?_
      have J33 : ∀ m29 : Int32, m29 = (if v6 = 0 then (v6 * v2) + ((R.1 7) * (v_X4_fogsOf P R v1 y23)) else (if v5 ≤ ((v6 * v2) + ((R.1 7) * (v_X4_fogsOf P R v1 y23))) then v5 else (v6 * v2) + ((R.1 7) * (v_X4_fogsOf P R v1 y23)))) → ∀ m30 : Int32, m30 = (if v6 = 0 then v6 else (if v5 ≤ ((v6 * v2) + ((R.1 7) * (v_X4_fogsOf P R v1 y23))) then v4 else v6)) → Z k_X6_practise G Γ (wr G A Γ.2.2.1.1.heap (maW G a N ++ rdW G (sh a 10) R)) 0 0 [(5, .int m29), (4, .int m30), (8, .int ((v6 * v2) + ((R.1 7) * (v_X4_fogsOf P R v1 y23)))), (7, .int y23), (0, .ref (a 0)), (1, .int v1), (2, .int v2), (3, .int v3), (6, .int v6)] 129 [] := by
        intro m29 em29 m30 em30
        have hp := kk_pq hp em29
        have hv := kk_vq hv em29
        clear em29
        have hp := kk_pq hp em30
        have hv := kk_vq hv em30
        clear em30
        refine z_iinc (v := v6 + 1) (lv' := [(6, .int (v6 + 1)), (5, .int m29), (4, .int m30), (8, .int ((v6 * v2) + ((R.1 7) * (v_X4_fogsOf P R v1 y23)))), (7, .int y23), (0, .ref (a 0)), (1, .int v1), (2, .int v2), (3, .int v3)]) dX6_practise_129 8 rfl rfl (Nat.le_of_ble_eq_true rfl) rfl ?_
        refine z_goto (tgt := 58) dX6_practise_132 (by decide) ?_
        exact z_lv rfl ((ih) N v1 v2 v3 m30 m29 (v6 + 1) hp hv)
      refine z_if_eq (tgt := 121) dX6_practise_111 (by decide) (fun c25 => ?_) (fun c25 => ?_)
      · skip
        refine z_iload dX6_practise_121 rfl ?_
        refine z_istore (lv' := [(4, .int v6), (8, .int ((v6 * v2) + ((R.1 7) * (v_X4_fogsOf P R v1 y23)))), (7, .int y23), (0, .ref (a 0)), (1, .int v1), (2, .int v2), (3, .int v3), (5, .int v5), (6, .int v6)]) dX6_practise_123 (Nat.le_of_ble_eq_true rfl) rfl ?_
        refine z_iload dX6_practise_125 rfl ?_
        refine z_istore (lv' := [(5, .int ((v6 * v2) + ((R.1 7) * (v_X4_fogsOf P R v1 y23)))), (4, .int v6), (8, .int ((v6 * v2) + ((R.1 7) * (v_X4_fogsOf P R v1 y23)))), (7, .int y23), (0, .ref (a 0)), (1, .int v1), (2, .int v2), (3, .int v3), (6, .int v6)]) dX6_practise_127 (Nat.le_of_ble_eq_true rfl) rfl ?_
        exact z_lv rfl (J33 _ (if_pos c25).symm _ (if_pos c25).symm)
      · skip
        refine z_iload dX6_practise_114 rfl ?_
        refine z_iload dX6_practise_116 rfl ?_
        have J34 : ∀ m27 : Int32, m27 = (if v5 ≤ ((v6 * v2) + ((R.1 7) * (v_X4_fogsOf P R v1 y23))) then v4 else v6) → ∀ m28 : Int32, m28 = (if v5 ≤ ((v6 * v2) + ((R.1 7) * (v_X4_fogsOf P R v1 y23))) then v5 else (v6 * v2) + ((R.1 7) * (v_X4_fogsOf P R v1 y23))) → Z k_X6_practise G Γ (wr G A Γ.2.2.1.1.heap (maW G a N ++ rdW G (sh a 10) R)) 0 0 [(8, .int ((v6 * v2) + ((R.1 7) * (v_X4_fogsOf P R v1 y23)))), (7, .int y23), (0, .ref (a 0)), (1, .int v1), (2, .int v2), (3, .int v3), (4, .int m27), (5, .int m28), (6, .int v6)] 129 [] := by
          intro m27 em27 m28 em28
          rewrite [em27]; clear em27
          rewrite [em28]; clear em28
          exact z_lv rfl (J33 _ (if_neg c25).symm _ (if_neg c25).symm)
        refine z_icmp_ge (tgt := 129) dX6_practise_118 (by decide) (fun c26 => ?_) (fun c26 => ?_)
        · skip
          exact z_lv rfl (J34 _ (if_pos c26).symm _ (if_pos c26).symm)
        · skip
          refine z_iload dX6_practise_121 rfl ?_
          refine z_istore (lv' := [(4, .int v6), (8, .int ((v6 * v2) + ((R.1 7) * (v_X4_fogsOf P R v1 y23)))), (7, .int y23), (0, .ref (a 0)), (1, .int v1), (2, .int v2), (3, .int v3), (5, .int v5), (6, .int v6)]) dX6_practise_123 (Nat.le_of_ble_eq_true rfl) rfl ?_
          refine z_iload dX6_practise_125 rfl ?_
          refine z_istore (lv' := [(5, .int ((v6 * v2) + ((R.1 7) * (v_X4_fogsOf P R v1 y23)))), (4, .int v6), (8, .int ((v6 * v2) + ((R.1 7) * (v_X4_fogsOf P R v1 y23)))), (7, .int y23), (0, .ref (a 0)), (1, .int v1), (2, .int v2), (3, .int v3), (6, .int v6)]) dX6_practise_127 (Nat.le_of_ble_eq_true rfl) rfl ?_
          exact z_lv rfl (J34 _ (if_neg c26).symm _ (if_neg c26).symm)
set_option maxHeartbeats 800000 in
theorem c_X6_practise {l : Launch} (G : zG) (P : pT) (a : Nat → Nat) (sz : Nat) (N : nT) (R : rT) (x1 : Int32) (x2 : Int32) (x3 : Int32) (hp : p_X6_practise P N R x1 x2 x3) : Met l yX6_practise (.code yX6_practise k_X6_practise.1 k_X6_practise.2.1 k_X6_practise.2.2.2.1 :: TS) k_X6_practise.2.2.2.2 (Pz G [.ref (a 0), .int x1, .int x2, .int x3] (Fw G (gX G P) (maW G a N ++ rdW G (sh a 10) R) sz)) (Qwi G (fun r w => r = (v_X6_practise P N R x1 x2 x3).1 ∧ w = maW G a ((v_X6_practise P N R x1 x2 x3).2) ++ rdW G (sh a 10) R) (va_A (maW G a N ++ rdW G (sh a 10) R) sz)) 0 0 (va_A (maW G a N ++ rdW G (sh a 10) R) sz) := by
  refine zmet (K := k_X6_practise) (by decide +kernel) rfl rfl (fun Γ hl0 hQ hN hF => ?_)
  refine z_start (gX_ok G P) hF (fun hw => ?_)
  generalize va_A (maW G a N ++ rdW G (sh a 10) R) sz = A at hQ hw ⊢
  obtain ⟨res, hv⟩ : ∃ res, v_X6_practise P N R x1 x2 x3 = res := ⟨_, rfl⟩
  rw [hv] at hQ
  unfold v_X6_practise at hv
  unfold p_X6_practise at hp
  show Z k_X6_practise G Γ _ 0 0 [(0, .ref (a 0)), (1, .int x1), (2, .int x2), (3, .int x3)] 0 []
  refine z_aload_n dX6_practise_0 rfl ?_
  refine z_get (v := .ref ((sh a 10) 0)) wr_P 0 rfl rfl uin_X6 0 (Nat.le_of_ble_eq_true rfl) tw_f_RX6_10 rfl rfl dX6_practise_1 ?_
  refine z_iload_n dX6_practise_4 rfl ?_
  obtain ⟨q1, hp⟩ := hp
  refine z_cvi (c_X4_has G P (sh a 10) R x1 q1) zc_X4_has zv_X4_has tw_m_RX6_121 (zrec_of wr_P 3 rfl rfl) (fr_all (sub_P wr_P [3, 4, 5, 6, 7] rfl) (wr_G hw)) (zroom_of rfl) rfl (Nat.le_of_ble_eq_true rfl) dX6_practise_5 ?_
  refine z_if_ne (tgt := 17) dX6_practise_8 (by decide) (fun c2 => ?_) (fun c2 => ?_)
  · have hp := ip_f hp c2; have hv := it_f hv c2
    refine z_iload_n dX6_practise_17 rfl ?_
    refine z_iconst (v := 0) dX6_practise_18 rfl ?_
    refine z_iconst (v := 1) dX6_practise_19 rfl ?_
    refine z_csi (c_X6_within G P x3 0 1 ) zc_X6_within tw_st_yX6_within tw_m_RX6_74 (fr_all (sub_P wr_P [] rfl) (wr_G hw)) (zroom_of rfl) rfl (Nat.le_of_ble_eq_true rfl) dX6_practise_20 ?_
    refine z_if_ne (tgt := 32) dX6_practise_23 (by decide) (fun c3 => ?_) (fun c3 => ?_)
    · have hp := ip_f hp c3; have hv := it_f hv c3
      refine z_iload_n dX6_practise_32 rfl ?_
      refine z_iconst (v := 1) dX6_practise_33 rfl ?_
      refine z_bipush (v := 99) dX6_practise_34 rfl ?_
      refine z_csi (c_X6_within G P x2 1 99 ) zc_X6_within tw_st_yX6_within tw_m_RX6_74 (fr_all (sub_P wr_P [] rfl) (wr_G hw)) (zroom_of rfl) rfl (Nat.le_of_ble_eq_true rfl) dX6_practise_36 ?_
      refine z_if_ne (tgt := 49) dX6_practise_39 (by decide) (fun c4 => ?_) (fun c4 => ?_)
      · have hp := ip_f hp c4; have hv := it_f hv c4
        refine z_iconst (v := 0) dX6_practise_49 rfl ?_
        refine z_istore (lv' := [(4, .int 0), (0, .ref (a 0)), (1, .int x1), (2, .int x2), (3, .int x3)]) dX6_practise_50 (Nat.le_of_ble_eq_true rfl) rfl ?_
        refine z_iconst (v := 0) dX6_practise_52 rfl ?_
        refine z_istore (lv' := [(5, .int 0), (4, .int 0), (0, .ref (a 0)), (1, .int x1), (2, .int x2), (3, .int x3)]) dX6_practise_53 (Nat.le_of_ble_eq_true rfl) rfl ?_
        refine z_iconst (v := 0) dX6_practise_55 rfl ?_
        refine z_istore (lv' := [(6, .int 0), (5, .int 0), (4, .int 0), (0, .ref (a 0)), (1, .int x1), (2, .int x2), (3, .int x3)]) dX6_practise_56 (Nat.le_of_ble_eq_true rfl) rfl ?_
        exact z_lv rfl ((w_X6_practise a R hw hQ 200) N x1 x2 x3 0 0 0 hp hv)
      · have hp := ip_t hp c4; have hv := it_t hv c4
        refine z_aload_n dX6_practise_42 rfl ?_
        refine z_bipush (v := 6) dX6_practise_43 rfl ?_
        have q5 := hp
        refine z_cwviD (ws' := maW G a ((v_X6_refuse N 6).2) ++ rdW G (sh a 10) R) hw (fun sz => c_X6_refuse G P a sz N 6 q5) [0, 1, 2] [3, 4, 5, 6, 7] [5, 6, 7, 0, 1, 2, 3, 4] 8 rfl rfl rfl rfl zc_X6_refuse zv_X6_refuse tw_m_RX6_70 (zrec_of wr_P 0 rfl rfl) (zroom_of rfl) rfl (Nat.le_of_ble_eq_true rfl) dX6_practise_45 ?_
        suffices z35 : ∀ q6 : Int32 × nT, q6 = (v_X6_refuse N 6) → Z k_X6_practise G Γ (wr G A Γ.2.2.1.1.heap (maW G a q6.2 ++ rdW G (sh a 10) R)) 0 0 [(0, .ref (a 0)), (1, .int x1), (2, .int x2), (3, .int x3)] 48 [.int q6.1] from z35 _ rfl
        intro q6 hq6
        have hv := kk_vq hv hq6
        clear hq6
        subst hv; exact z_iret_W hQ rfl rfl rfl ⟨rfl, rfl⟩ dX6_practise_48
    · have hp := ip_t hp c3; have hv := it_t hv c3
      refine z_aload_n dX6_practise_26 rfl ?_
      refine z_iconst (v := 5) dX6_practise_27 rfl ?_
      have q7 := hp
      refine z_cwviD (ws' := maW G a ((v_X6_refuse N 5).2) ++ rdW G (sh a 10) R) hw (fun sz => c_X6_refuse G P a sz N 5 q7) [0, 1, 2] [3, 4, 5, 6, 7] [5, 6, 7, 0, 1, 2, 3, 4] 8 rfl rfl rfl rfl zc_X6_refuse zv_X6_refuse tw_m_RX6_70 (zrec_of wr_P 0 rfl rfl) (zroom_of rfl) rfl (Nat.le_of_ble_eq_true rfl) dX6_practise_28 ?_
      suffices z36 : ∀ q8 : Int32 × nT, q8 = (v_X6_refuse N 5) → Z k_X6_practise G Γ (wr G A Γ.2.2.1.1.heap (maW G a q8.2 ++ rdW G (sh a 10) R)) 0 0 [(0, .ref (a 0)), (1, .int x1), (2, .int x2), (3, .int x3)] 31 [.int q8.1] from z36 _ rfl
      intro q8 hq8
      have hv := kk_vq hv hq8
      clear hq8
      subst hv; exact z_iret_W hQ rfl rfl rfl ⟨rfl, rfl⟩ dX6_practise_31
  · have hp := ip_t hp c2; have hv := it_t hv c2
    refine z_aload_n dX6_practise_11 rfl ?_
    refine z_iconst (v := 1) dX6_practise_12 rfl ?_
    have q9 := hp
    refine z_cwviD (ws' := maW G a ((v_X6_refuse N 1).2) ++ rdW G (sh a 10) R) hw (fun sz => c_X6_refuse G P a sz N 1 q9) [0, 1, 2] [3, 4, 5, 6, 7] [5, 6, 7, 0, 1, 2, 3, 4] 8 rfl rfl rfl rfl zc_X6_refuse zv_X6_refuse tw_m_RX6_70 (zrec_of wr_P 0 rfl rfl) (zroom_of rfl) rfl (Nat.le_of_ble_eq_true rfl) dX6_practise_13 ?_
    suffices z37 : ∀ q10 : Int32 × nT, q10 = (v_X6_refuse N 1) → Z k_X6_practise G Γ (wr G A Γ.2.2.1.1.heap (maW G a q10.2 ++ rdW G (sh a 10) R)) 0 0 [(0, .ref (a 0)), (1, .int x1), (2, .int x2), (3, .int x3)] 16 [.int q10.1] from z37 _ rfl
    intro q10 hq10
    have hv := kk_vq hv hq10
    clear hq10
    subst hv; exact z_iret_W hQ rfl rfl rfl ⟨rfl, rfl⟩ dX6_practise_16
theorem dX6_fits_0 : decode cX6_fits 0 = .ok (.aload_n 0, 1) := by decide +kernel
theorem dX6_fits_1 : decode cX6_fits 1 = .ok (.iload_n 1, 1) := by decide +kernel
theorem dX6_fits_2 : decode cX6_fits 2 = .ok (.iload_n 2, 1) := by decide +kernel
theorem dX6_fits_3 : decode cX6_fits 3 = .ok (.iload_n 3, 1) := by decide +kernel
theorem dX6_fits_4 : decode cX6_fits 4 = .ok (.invokevirtual 263, 3) := by decide +kernel
theorem dX6_fits_7 : decode cX6_fits 7 = .ok (.istore 4, 2) := by decide +kernel
theorem dX6_fits_9 : decode cX6_fits 9 = .ok (.aload_n 0, 1) := by decide +kernel
theorem dX6_fits_10 : decode cX6_fits 10 = .ok (.iload_n 1, 1) := by decide +kernel
theorem dX6_fits_11 : decode cX6_fits 11 = .ok (.invokevirtual 66, 3) := by decide +kernel
theorem dX6_fits_14 : decode cX6_fits 14 = .ok (.astore 5, 2) := by decide +kernel
theorem dX6_fits_16 : decode cX6_fits 16 = .ok (.iload 4, 2) := by decide +kernel
theorem dX6_fits_18 : decode cX6_fits 18 = .ok (.ifCond .ne 8, 3) := by decide +kernel
theorem dX6_fits_21 : decode cX6_fits 21 = .ok (.aload 5, 2) := by decide +kernel
theorem dX6_fits_23 : decode cX6_fits 23 = .ok (.ifnonnull 10, 3) := by decide +kernel
theorem dX6_fits_26 : decode cX6_fits 26 = .ok (.aload_n 0, 1) := by decide +kernel
theorem dX6_fits_27 : decode cX6_fits 27 = .ok (.iload 4, 2) := by decide +kernel
theorem dX6_fits_29 : decode cX6_fits 29 = .ok (.invokevirtual 70, 3) := by decide +kernel
theorem dX6_fits_32 : decode cX6_fits 32 = .ok (.ireturn, 1) := by decide +kernel
theorem dX6_fits_33 : decode cX6_fits 33 = .ok (.aload_n 0, 1) := by decide +kernel
theorem dX6_fits_34 : decode cX6_fits 34 = .ok (.aload 5, 2) := by decide +kernel
theorem dX6_fits_36 : decode cX6_fits 36 = .ok (.iload_n 2, 1) := by decide +kernel
theorem dX6_fits_37 : decode cX6_fits 37 = .ok (.iload_n 3, 1) := by decide +kernel
theorem dX6_fits_38 : decode cX6_fits 38 = .ok (.invokevirtual 266, 3) := by decide +kernel
theorem dX6_fits_41 : decode cX6_fits 41 = .ok (.ireturn, 1) := by decide +kernel
abbrev k_X6_fits : zK := (cX6_fits, 6, RX6, (some .int), ({ frames := 5, cells := 0, slots := 0, locals := 117 } : Room))
theorem zc_X6_fits : zcal yX6_fits k_X6_fits.1 k_X6_fits.2.1 k_X6_fits.2.2.2.1 3 := ⟨tw_code_yX6_fits, tw_i_TollForHesitators, ⟨by decide +kernel, by decide +kernel⟩, by decide +kernel⟩
theorem zv_X6_fits : Cond.instanceMethod yX6_fits ∈ TS ∧ Cond.selects RX6 yX6_fits yX6_fits ∈ TS := ⟨tw_inst_yX6_fits, tw_s_yX6_fits⟩
def v_X6_fits (P : pT) (N : nT) (R : rT) (F : fT) (x1 : Int32) (x2 : Int32) (x3 : Int32) : Int32 × nT := oc (v_X6_shelfAt N x1) (if (v_X6_twosRefusal N R F x1 x2 x3) = 0 then kk (v_X6_refuse N (v_X6_twosRefusal N R F x1 x2 x3)) (fun q8 : Int32 × nT => (q8.1, q8.2)) else kk (v_X6_refuse N (v_X6_twosRefusal N R F x1 x2 x3)) (fun q6 : Int32 × nT => (q6.1, q6.2))) (fun r3 : Nat => if (v_X6_twosRefusal N R F x1 x2 x3) = 0 then ((v_X6_fitting P N R (F r3) x2 x3), N) else kk (v_X6_refuse N (v_X6_twosRefusal N R F x1 x2 x3)) (fun q11 : Int32 × nT => (q11.1, q11.2)))
def p_X6_fits (P : pT) (N : nT) (R : rT) (F : fT) (x1 : Int32) (x2 : Int32) (x3 : Int32) : Prop := p_X6_twosRefusal N R F x1 x2 x3 ∧ (p_X6_shelfAt N x1 ∧ (oc (v_X6_shelfAt N x1) (if (v_X6_twosRefusal N R F x1 x2 x3) = 0 then p_X6_refuse N (v_X6_twosRefusal N R F x1 x2 x3) else p_X6_refuse N (v_X6_twosRefusal N R F x1 x2 x3)) (fun r3 : Nat => if (v_X6_twosRefusal N R F x1 x2 x3) = 0 then p_X6_fitting P N R (F r3) x2 x3 else p_X6_refuse N (v_X6_twosRefusal N R F x1 x2 x3))))
set_option maxHeartbeats 800000 in
theorem c_X6_fits {l : Launch} (G : zG) (P : pT) (a : Nat → Nat) (sz : Nat) (N : nT) (R : rT) (F : fT) (x1 : Int32) (x2 : Int32) (x3 : Int32) (hp : p_X6_fits P N R F x1 x2 x3) : Met l yX6_fits (.code yX6_fits k_X6_fits.1 k_X6_fits.2.1 k_X6_fits.2.2.2.1 :: TS) k_X6_fits.2.2.2.2 (Pz G [.ref (a 0), .int x1, .int x2, .int x3] (Fw G (gX G P) (maW G a N ++ rdW G (sh a 10) R ++ faW G a F) sz)) (Qwi G (fun r w => r = (v_X6_fits P N R F x1 x2 x3).1 ∧ w = maW G a ((v_X6_fits P N R F x1 x2 x3).2) ++ rdW G (sh a 10) R ++ faW G a F) (va_A (maW G a N ++ rdW G (sh a 10) R ++ faW G a F) sz)) 0 0 (va_A (maW G a N ++ rdW G (sh a 10) R ++ faW G a F) sz) := by
  refine zmet (K := k_X6_fits) (by decide +kernel) rfl rfl (fun Γ hl0 hQ hN hF => ?_)
  refine z_start (gX_ok G P) hF (fun hw => ?_)
  generalize va_A (maW G a N ++ rdW G (sh a 10) R ++ faW G a F) sz = A at hQ hw ⊢
  obtain ⟨res, hv⟩ : ∃ res, v_X6_fits P N R F x1 x2 x3 = res := ⟨_, rfl⟩
  rw [hv] at hQ
  unfold v_X6_fits at hv
  unfold p_X6_fits at hp
  show Z k_X6_fits G Γ _ 0 0 [(0, .ref (a 0)), (1, .int x1), (2, .int x2), (3, .int x3)] 0 []
  refine z_aload_n dX6_fits_0 rfl ?_
  refine z_iload_n dX6_fits_1 rfl ?_
  refine z_iload_n dX6_fits_2 rfl ?_
  refine z_iload_n dX6_fits_3 rfl ?_
  obtain ⟨q1, hp⟩ := hp
  refine z_cvi (c_X6_twosRefusal G P a N R F x1 x2 x3 q1) zc_X6_twosRefusal zv_X6_twosRefusal tw_m_RX6_263 (zrec_of wr_P 0 rfl rfl) (fr_all wr_P (wr_G hw)) (zroom_of rfl) rfl (Nat.le_of_ble_eq_true rfl) dX6_fits_4 ?_
  refine z_istore (lv' := [(4, .int (v_X6_twosRefusal N R F x1 x2 x3)), (0, .ref (a 0)), (1, .int x1), (2, .int x2), (3, .int x3)]) dX6_fits_7 (Nat.le_of_ble_eq_true rfl) rfl ?_
  refine z_aload_n dX6_fits_9 rfl ?_
  refine z_iload_n dX6_fits_10 rfl ?_
  obtain ⟨q2, hp⟩ := hp
  refine z_cvq (c_X6_shelfAt G P a N x1 q2) zc_X6_shelfAt zv_X6_shelfAt tw_m_RX6_66 (zrec_of wr_P 0 rfl rfl) (fr_all (sub_P wr_P [0, 1, 2] rfl) (wr_G hw)) (zroom_of rfl) rfl (Nat.le_of_ble_eq_true rfl) dX6_fits_11 ?_
  suffices z13 : ∀ r3 : Option Nat, r3 = (v_X6_shelfAt N x1) → (∀ k : Nat, r3 = some k → k < 8) → Z k_X6_fits G Γ (wr G A Γ.2.2.1.1.heap (maW G a N ++ rdW G (sh a 10) R ++ faW G a F)) 0 0 [(4, .int (v_X6_twosRefusal N R F x1 x2 x3)), (0, .ref (a 0)), (1, .int x1), (2, .int x2), (3, .int x3)] 14 [va_rf (r3.map (fun k => sh a (30 + 2 * k) 0))] from z13 _ rfl (shelfAt_lt N x1)
  intro r3 hr3 fr3
  have hp := oc_pq hp hr3
  have hv := oc_vq hv hr3
  clear hr3
  rcases r3 with _ | r3
  · have hp := oc_pn hp; have hv := oc_n hv
    refine z_astoreN (lv' := [(5, .null), (4, .int (v_X6_twosRefusal N R F x1 x2 x3)), (0, .ref (a 0)), (1, .int x1), (2, .int x2), (3, .int x3)]) dX6_fits_14 (Nat.le_of_ble_eq_true rfl) rfl ?_
    refine z_iload dX6_fits_16 rfl ?_
    refine z_if_ne (tgt := 26) dX6_fits_18 (by decide) (fun c4 => ?_) (fun c4 => ?_)
    · have hp := ip_f hp c4; have hv := it_f hv c4
      refine z_aload_n dX6_fits_26 rfl ?_
      refine z_iload dX6_fits_27 rfl ?_
      have q5 := hp
      refine z_cwviD (ws' := maW G a ((v_X6_refuse N (v_X6_twosRefusal N R F x1 x2 x3)).2) ++ rdW G (sh a 10) R ++ faW G a F) hw (fun sz => c_X6_refuse G P a sz N (v_X6_twosRefusal N R F x1 x2 x3) q5) [0, 1, 2] [3, 4, 5, 6, 7, 8, 9, 10, 11, 12, 13, 14, 15, 16, 17, 18, 19, 20, 21, 22, 23] [21, 22, 23, 0, 1, 2, 3, 4, 5, 6, 7, 8, 9, 10, 11, 12, 13, 14, 15, 16, 17, 18, 19, 20] 24 rfl rfl rfl rfl zc_X6_refuse zv_X6_refuse tw_m_RX6_70 (zrec_of wr_P 0 rfl rfl) (zroom_of rfl) rfl (Nat.le_of_ble_eq_true rfl) dX6_fits_29 ?_
      suffices z14 : ∀ q6 : Int32 × nT, q6 = (v_X6_refuse N (v_X6_twosRefusal N R F x1 x2 x3)) → Z k_X6_fits G Γ (wr G A Γ.2.2.1.1.heap (maW G a q6.2 ++ rdW G (sh a 10) R ++ faW G a F)) 0 0 [(5, .null), (4, .int (v_X6_twosRefusal N R F x1 x2 x3)), (0, .ref (a 0)), (1, .int x1), (2, .int x2), (3, .int x3)] 32 [.int q6.1] from z14 _ rfl
      intro q6 hq6
      have hv := kk_vq hv hq6
      clear hq6
      subst hv; exact z_iret_W hQ rfl rfl rfl ⟨rfl, rfl⟩ dX6_fits_32
    · have hp := ip_t hp c4; have hv := it_t hv c4
      refine z_aloadN dX6_fits_21 rfl ?_
      refine z_ifnonnullN dX6_fits_23 ?_
      refine z_aload_n dX6_fits_26 rfl ?_
      refine z_iload dX6_fits_27 rfl ?_
      have q7 := hp
      refine z_cwviD (ws' := maW G a ((v_X6_refuse N (v_X6_twosRefusal N R F x1 x2 x3)).2) ++ rdW G (sh a 10) R ++ faW G a F) hw (fun sz => c_X6_refuse G P a sz N (v_X6_twosRefusal N R F x1 x2 x3) q7) [0, 1, 2] [3, 4, 5, 6, 7, 8, 9, 10, 11, 12, 13, 14, 15, 16, 17, 18, 19, 20, 21, 22, 23] [21, 22, 23, 0, 1, 2, 3, 4, 5, 6, 7, 8, 9, 10, 11, 12, 13, 14, 15, 16, 17, 18, 19, 20] 24 rfl rfl rfl rfl zc_X6_refuse zv_X6_refuse tw_m_RX6_70 (zrec_of wr_P 0 rfl rfl) (zroom_of rfl) rfl (Nat.le_of_ble_eq_true rfl) dX6_fits_29 ?_
      suffices z15 : ∀ q8 : Int32 × nT, q8 = (v_X6_refuse N (v_X6_twosRefusal N R F x1 x2 x3)) → Z k_X6_fits G Γ (wr G A Γ.2.2.1.1.heap (maW G a q8.2 ++ rdW G (sh a 10) R ++ faW G a F)) 0 0 [(5, .null), (4, .int (v_X6_twosRefusal N R F x1 x2 x3)), (0, .ref (a 0)), (1, .int x1), (2, .int x2), (3, .int x3)] 32 [.int q8.1] from z15 _ rfl
      intro q8 hq8
      have hv := kk_vq hv hq8
      clear hq8
      subst hv; exact z_iret_W hQ rfl rfl rfl ⟨rfl, rfl⟩ dX6_fits_32
  · have hp := oc_ps hp; have hv := oc_s hv
    have hr3 := fr3 _ rfl; clear fr3
    refine z_astore (lv' := [(5, .ref (sh a (30 + 2 * r3) 0)), (4, .int (v_X6_twosRefusal N R F x1 x2 x3)), (0, .ref (a 0)), (1, .int x1), (2, .int x2), (3, .int x3)]) dX6_fits_14 (Nat.le_of_ble_eq_true rfl) rfl ?_
    refine z_iload dX6_fits_16 rfl ?_
    refine z_if_ne (tgt := 26) dX6_fits_18 (by decide) (fun c9 => ?_) (fun c9 => ?_)
    · have hp := ip_f hp c9; have hv := it_f hv c9
      refine z_aload_n dX6_fits_26 rfl ?_
      refine z_iload dX6_fits_27 rfl ?_
      have q10 := hp
      refine z_cwviD (ws' := maW G a ((v_X6_refuse N (v_X6_twosRefusal N R F x1 x2 x3)).2) ++ rdW G (sh a 10) R ++ faW G a F) hw (fun sz => c_X6_refuse G P a sz N (v_X6_twosRefusal N R F x1 x2 x3) q10) [0, 1, 2] [3, 4, 5, 6, 7, 8, 9, 10, 11, 12, 13, 14, 15, 16, 17, 18, 19, 20, 21, 22, 23] [21, 22, 23, 0, 1, 2, 3, 4, 5, 6, 7, 8, 9, 10, 11, 12, 13, 14, 15, 16, 17, 18, 19, 20] 24 rfl rfl rfl rfl zc_X6_refuse zv_X6_refuse tw_m_RX6_70 (zrec_of wr_P 0 rfl rfl) (zroom_of rfl) rfl (Nat.le_of_ble_eq_true rfl) dX6_fits_29 ?_
      suffices z16 : ∀ q11 : Int32 × nT, q11 = (v_X6_refuse N (v_X6_twosRefusal N R F x1 x2 x3)) → Z k_X6_fits G Γ (wr G A Γ.2.2.1.1.heap (maW G a q11.2 ++ rdW G (sh a 10) R ++ faW G a F)) 0 0 [(5, .ref (sh a (30 + 2 * r3) 0)), (4, .int (v_X6_twosRefusal N R F x1 x2 x3)), (0, .ref (a 0)), (1, .int x1), (2, .int x2), (3, .int x3)] 32 [.int q11.1] from z16 _ rfl
      intro q11 hq11
      have hv := kk_vq hv hq11
      clear hq11
      subst hv; exact z_iret_W hQ rfl rfl rfl ⟨rfl, rfl⟩ dX6_fits_32
    · have hp := ip_t hp c9; have hv := it_t hv c9
      refine z_aload dX6_fits_21 rfl ?_
      refine z_ifnonnull (tgt := 33) dX6_fits_23 (by decide) ?_
      refine z_aload_n dX6_fits_33 rfl ?_
      refine z_aload dX6_fits_34 rfl ?_
      refine z_iload_n dX6_fits_36 rfl ?_
      refine z_iload_n dX6_fits_37 rfl ?_
      have q12 := hp
      refine z_cvi (c_X6_fitting G P a (sh a (30 + 2 * r3)) N R (F r3) x2 x3 q12) zc_X6_fitting zv_X6_fitting tw_m_RX6_266 (zrec_of wr_P 0 rfl rfl) (fr_all (ap_P (sub_P (wc := maW G a N ++ rdW G (sh a 10) R) wr_P [0, 1, 2, 3, 4, 5, 6, 7] rfl) (fam_P (a := a) hr3 (sub_P wr_P [8, 9, 10, 11, 12, 13, 14, 15, 16, 17, 18, 19, 20, 21, 22, 23] rfl))) (wr_G hw)) (zroom_of rfl) rfl (Nat.le_of_ble_eq_true rfl) dX6_fits_38 ?_
      subst hv; exact z_iret_W hQ rfl rfl rfl ⟨rfl, rfl⟩ dX6_fits_41
theorem dX6_next_0 : decode cX6_next 0 = .ok (.aload_n 0, 1) := by decide +kernel
theorem dX6_next_1 : decode cX6_next 1 = .ok (.iload_n 1, 1) := by decide +kernel
theorem dX6_next_2 : decode cX6_next 2 = .ok (.iload_n 2, 1) := by decide +kernel
theorem dX6_next_3 : decode cX6_next 3 = .ok (.iload_n 3, 1) := by decide +kernel
theorem dX6_next_4 : decode cX6_next 4 = .ok (.invokevirtual 263, 3) := by decide +kernel
theorem dX6_next_7 : decode cX6_next 7 = .ok (.istore 4, 2) := by decide +kernel
theorem dX6_next_9 : decode cX6_next 9 = .ok (.aload_n 0, 1) := by decide +kernel
theorem dX6_next_10 : decode cX6_next 10 = .ok (.iload_n 1, 1) := by decide +kernel
theorem dX6_next_11 : decode cX6_next 11 = .ok (.invokevirtual 66, 3) := by decide +kernel
theorem dX6_next_14 : decode cX6_next 14 = .ok (.astore 5, 2) := by decide +kernel
theorem dX6_next_16 : decode cX6_next 16 = .ok (.iload 4, 2) := by decide +kernel
theorem dX6_next_18 : decode cX6_next 18 = .ok (.ifCond .ne 8, 3) := by decide +kernel
theorem dX6_next_21 : decode cX6_next 21 = .ok (.aload 5, 2) := by decide +kernel
theorem dX6_next_23 : decode cX6_next 23 = .ok (.ifnonnull 13, 3) := by decide +kernel
theorem dX6_next_26 : decode cX6_next 26 = .ok (.aload_n 0, 1) := by decide +kernel
theorem dX6_next_27 : decode cX6_next 27 = .ok (.iload 4, 2) := by decide +kernel
theorem dX6_next_29 : decode cX6_next 29 = .ok (.invokevirtual 70, 3) := by decide +kernel
theorem dX6_next_32 : decode cX6_next 32 = .ok (.bipush 10, 2) := by decide +kernel
theorem dX6_next_34 : decode cX6_next 34 = .ok (.isub, 1) := by decide +kernel
theorem dX6_next_35 : decode cX6_next 35 = .ok (.ireturn, 1) := by decide +kernel
theorem dX6_next_36 : decode cX6_next 36 = .ok (.aload_n 0, 1) := by decide +kernel
theorem dX6_next_37 : decode cX6_next 37 = .ok (.aload 5, 2) := by decide +kernel
theorem dX6_next_39 : decode cX6_next 39 = .ok (.iload_n 2, 1) := by decide +kernel
theorem dX6_next_40 : decode cX6_next 40 = .ok (.iload_n 3, 1) := by decide +kernel
theorem dX6_next_41 : decode cX6_next 41 = .ok (.invokevirtual 266, 3) := by decide +kernel
theorem dX6_next_44 : decode cX6_next 44 = .ok (.istore 6, 2) := by decide +kernel
theorem dX6_next_46 : decode cX6_next 46 = .ok (.iload 6, 2) := by decide +kernel
theorem dX6_next_48 : decode cX6_next 48 = .ok (.invokestatic 231, 3) := by decide +kernel
theorem dX6_next_51 : decode cX6_next 51 = .ok (.istore 7, 2) := by decide +kernel
theorem dX6_next_53 : decode cX6_next 53 = .ok (.iload 7, 2) := by decide +kernel
theorem dX6_next_55 : decode cX6_next 55 = .ok (.iconst 2, 1) := by decide +kernel
theorem dX6_next_56 : decode cX6_next 56 = .ok (.if_icmp .ge 5, 3) := by decide +kernel
theorem dX6_next_59 : decode cX6_next 59 = .ok (.iconst (-1), 1) := by decide +kernel
theorem dX6_next_60 : decode cX6_next 60 = .ok (.ireturn, 1) := by decide +kernel
theorem dX6_next_61 : decode cX6_next 61 = .ok (.iconst (-1), 1) := by decide +kernel
theorem dX6_next_62 : decode cX6_next 62 = .ok (.istore 8, 2) := by decide +kernel
theorem dX6_next_64 : decode cX6_next 64 = .ok (.iload 7, 2) := by decide +kernel
theorem dX6_next_66 : decode cX6_next 66 = .ok (.iconst 1, 1) := by decide +kernel
theorem dX6_next_67 : decode cX6_next 67 = .ok (.iadd, 1) := by decide +kernel
theorem dX6_next_68 : decode cX6_next 68 = .ok (.istore 9, 2) := by decide +kernel
theorem dX6_next_70 : decode cX6_next 70 = .ok (.iconst 0, 1) := by decide +kernel
theorem dX6_next_71 : decode cX6_next 71 = .ok (.istore 10, 2) := by decide +kernel
theorem dX6_next_73 : decode cX6_next 73 = .ok (.iload 10, 2) := by decide +kernel
theorem dX6_next_75 : decode cX6_next 75 = .ok (.bipush 9, 2) := by decide +kernel
theorem dX6_next_77 : decode cX6_next 77 = .ok (.if_icmp .gt 47, 3) := by decide +kernel
theorem dX6_next_80 : decode cX6_next 80 = .ok (.aload_n 0, 1) := by decide +kernel
theorem dX6_next_81 : decode cX6_next 81 = .ok (.iload 6, 2) := by decide +kernel
theorem dX6_next_83 : decode cX6_next 83 = .ok (.iload_n 3, 1) := by decide +kernel
theorem dX6_next_84 : decode cX6_next 84 = .ok (.iload 10, 2) := by decide +kernel
theorem dX6_next_86 : decode cX6_next 86 = .ok (.invokevirtual 270, 3) := by decide +kernel
theorem dX6_next_89 : decode cX6_next 89 = .ok (.istore 11, 2) := by decide +kernel
theorem dX6_next_91 : decode cX6_next 91 = .ok (.iload 11, 2) := by decide +kernel
theorem dX6_next_93 : decode cX6_next 93 = .ok (.iload 7, 2) := by decide +kernel
theorem dX6_next_95 : decode cX6_next 95 = .ok (.iload 11, 2) := by decide +kernel
theorem dX6_next_97 : decode cX6_next 97 = .ok (.isub, 1) := by decide +kernel
theorem dX6_next_98 : decode cX6_next 98 = .ok (.invokestatic 273, 3) := by decide +kernel
theorem dX6_next_101 : decode cX6_next 101 = .ok (.istore 12, 2) := by decide +kernel
theorem dX6_next_103 : decode cX6_next 103 = .ok (.iload 12, 2) := by decide +kernel
theorem dX6_next_105 : decode cX6_next 105 = .ok (.iload 9, 2) := by decide +kernel
theorem dX6_next_107 : decode cX6_next 107 = .ok (.if_icmp .ge 11, 3) := by decide +kernel
theorem dX6_next_110 : decode cX6_next 110 = .ok (.iload 10, 2) := by decide +kernel
theorem dX6_next_112 : decode cX6_next 112 = .ok (.istore 8, 2) := by decide +kernel
theorem dX6_next_114 : decode cX6_next 114 = .ok (.iload 12, 2) := by decide +kernel
theorem dX6_next_116 : decode cX6_next 116 = .ok (.istore 9, 2) := by decide +kernel
theorem dX6_next_118 : decode cX6_next 118 = .ok (.iinc 10 1, 3) := by decide +kernel
theorem dX6_next_121 : decode cX6_next 121 = .ok (.goto (-48), 3) := by decide +kernel
theorem dX6_next_124 : decode cX6_next 124 = .ok (.iload 8, 2) := by decide +kernel
theorem dX6_next_126 : decode cX6_next 126 = .ok (.ireturn, 1) := by decide +kernel
abbrev k_X6_next : zK := (cX6_next, 13, RX6, (some .int), ({ frames := 5, cells := 0, slots := 0, locals := 117 } : Room))
theorem zc_X6_next : zcal yX6_next k_X6_next.1 k_X6_next.2.1 k_X6_next.2.2.2.1 3 := ⟨tw_code_yX6_next, tw_i_TollForHesitators, ⟨by decide +kernel, by decide +kernel⟩, by decide +kernel⟩
theorem zv_X6_next : Cond.instanceMethod yX6_next ∈ TS ∧ Cond.selects RX6 yX6_next yX6_next ∈ TS := ⟨tw_inst_yX6_next, tw_s_yX6_next⟩
def v_X6_next_r (P : pT) (R : rT) (F : fT) : Nat → nT → Int32 → Int32 → Int32 → Int32 → Int32 → Int32 → Int32 × nT
  | 0, N, _, _, _, _, _, _ => (0, N)
  | n + 1, N, v3, v6, v7, v8, v9, v10 => if 9 < v10 then (v8, N) else kk ((if (v_X6_slowAmong P N R v6 v3 v10) < (v7 - (v_X6_slowAmong P N R v6 v3 v10)) then v7 - (v_X6_slowAmong P N R v6 v3 v10) else (v_X6_slowAmong P N R v6 v3 v10))) (fun y20 : Int32 => v_X6_next_r P R F n N v3 v6 v7 (if v9 ≤ y20 then v8 else v10) (if v9 ≤ y20 then v9 else y20) (v10 + 1))
def p_X6_next_r (P : pT) (R : rT) (F : fT) : Nat → nT → Int32 → Int32 → Int32 → Int32 → Int32 → Int32 → Prop
  | 0, _, _, _, _, _, _, _ => False
  | n + 1, N, v3, v6, v7, v8, v9, v10 => if 9 < v10 then True else p_X6_slowAmong P N R v6 v3 v10 ∧ (kk ((if (v_X6_slowAmong P N R v6 v3 v10) < (v7 - (v_X6_slowAmong P N R v6 v3 v10)) then v7 - (v_X6_slowAmong P N R v6 v3 v10) else (v_X6_slowAmong P N R v6 v3 v10))) (fun y20 : Int32 => p_X6_next_r P R F n N v3 v6 v7 (if v9 ≤ y20 then v8 else v10) (if v9 ≤ y20 then v9 else y20) (v10 + 1)))
def v_X6_next (P : pT) (N : nT) (R : rT) (F : fT) (x1 : Int32) (x2 : Int32) (x3 : Int32) : Int32 × nT := oc (v_X6_shelfAt N x1) (if (v_X6_twosRefusal N R F x1 x2 x3) = 0 then kk (v_X6_refuse N (v_X6_twosRefusal N R F x1 x2 x3)) (fun q8 : Int32 × nT => (q8.1 - 10, q8.2)) else kk (v_X6_refuse N (v_X6_twosRefusal N R F x1 x2 x3)) (fun q6 : Int32 × nT => (q6.1 - 10, q6.2))) (fun r3 : Nat => if (v_X6_twosRefusal N R F x1 x2 x3) = 0 then if 2 ≤ (v_J6_bitCount_0f7a4 (v_X6_fitting P N R (F r3) x2 x3)) then v_X6_next_r P R F 200 N x3 (v_X6_fitting P N R (F r3) x2 x3) (v_J6_bitCount_0f7a4 (v_X6_fitting P N R (F r3) x2 x3)) (-1) ((v_J6_bitCount_0f7a4 (v_X6_fitting P N R (F r3) x2 x3)) + 1) 0 else ((-1), N) else kk (v_X6_refuse N (v_X6_twosRefusal N R F x1 x2 x3)) (fun q11 : Int32 × nT => (q11.1 - 10, q11.2)))
def p_X6_next (P : pT) (N : nT) (R : rT) (F : fT) (x1 : Int32) (x2 : Int32) (x3 : Int32) : Prop := p_X6_twosRefusal N R F x1 x2 x3 ∧ (p_X6_shelfAt N x1 ∧ (oc (v_X6_shelfAt N x1) (if (v_X6_twosRefusal N R F x1 x2 x3) = 0 then p_X6_refuse N (v_X6_twosRefusal N R F x1 x2 x3) else p_X6_refuse N (v_X6_twosRefusal N R F x1 x2 x3)) (fun r3 : Nat => if (v_X6_twosRefusal N R F x1 x2 x3) = 0 then (p_X6_fitting P N R (F r3) x2 x3) ∧ (if 2 ≤ (v_J6_bitCount_0f7a4 (v_X6_fitting P N R (F r3) x2 x3)) then p_X6_next_r P R F 200 N x3 (v_X6_fitting P N R (F r3) x2 x3) (v_J6_bitCount_0f7a4 (v_X6_fitting P N R (F r3) x2 x3)) (-1) ((v_J6_bitCount_0f7a4 (v_X6_fitting P N R (F r3) x2 x3)) + 1) 0 else True) else p_X6_refuse N (v_X6_twosRefusal N R F x1 x2 x3))))
set_option maxHeartbeats 800000 in
theorem w_X6_next {G : zG} {P : pT} {Γ : zT} {A : Nat → Prop} {res : Int32 × nT} (a : Nat → Nat) (R : rT) (F : fT) (hw : wk (gX G P) A Γ.2.2.1.1.heap) (hQ : zQ Γ (Qwi G (fun r w => r = (res).1 ∧ w = maW G a ((res).2) ++ rdW G (sh a 10) R ++ faW G a F) A) 0 0 A) : ∀ n : Nat, (∀ (N : nT) (v3 : Int32) (v6 : Int32) (v7 : Int32) (v8 : Int32) (v9 : Int32) (v10 : Int32), p_X6_next_r P R F n N v3 v6 v7 v8 v9 v10 → v_X6_next_r P R F n N v3 v6 v7 v8 v9 v10 = res → Z k_X6_next G Γ (wr G A Γ.2.2.1.1.heap (maW G a N ++ rdW G (sh a 10) R ++ faW G a F)) 0 0 [(0, .ref (a 0)), (3, .int v3), (6, .int v6), (7, .int v7), (8, .int v8), (9, .int v9), (10, .int v10)] 73 []) := by
  intro n
  induction n with
  | zero => exact fun N v3 v6 v7 v8 v9 v10 hp => absurd hp (by rw [p_X6_next_r]; exact not_false)
  | succ n ih =>
    intro N v3 v6 v7 v8 v9 v10 hp hv
    rw [p_X6_next_r] at hp
    rw [v_X6_next_r] at hv
    refine z_iload dX6_next_73 rfl ?_
    refine z_bipush (v := 9) dX6_next_75 rfl ?_
    refine z_icmp_gt (tgt := 124) dX6_next_77 (by decide) (fun c14 => ?_) (fun c14 => ?_)
    · have hp := ip_t hp c14; have hv := it_t hv c14
      refine z_iload dX6_next_124 rfl ?_
      subst hv; exact z_iret_W hQ rfl rfl rfl ⟨rfl, rfl⟩ dX6_next_126
    · have hp := ip_f hp c14; have hv := it_f hv c14
      refine z_aload_n dX6_next_80 rfl ?_
      refine z_iload dX6_next_81 rfl ?_
      refine z_iload_n dX6_next_83 rfl ?_
      refine z_iload dX6_next_84 rfl ?_
      obtain ⟨q19, hp⟩ := hp
      refine z_cvi (c_X6_slowAmong G P a N R v6 v3 v10 q19) zc_X6_slowAmong zv_X6_slowAmong tw_m_RX6_270 (zrec_of wr_P 0 rfl rfl) (fr_all (sub_P wr_P [0, 1, 2, 3, 4, 5, 6, 7] rfl) (wr_G hw)) (zroom_of rfl) rfl (Nat.le_of_ble_eq_true rfl) dX6_next_86 ?_
      refine z_istore (lv' := [(11, .int (v_X6_slowAmong P N R v6 v3 v10)), (0, .ref (a 0)), (3, .int v3), (6, .int v6), (7, .int v7), (8, .int v8), (9, .int v9), (10, .int v10)]) dX6_next_89 (Nat.le_of_ble_eq_true rfl) rfl ?_
      refine z_iload dX6_next_91 rfl ?_
      refine z_iload dX6_next_93 rfl ?_
      refine z_iload dX6_next_95 rfl ?_
      refine z_isub dX6_next_97 ?_
      refine z_max tw_m_RX6_273 tw_st_yJ9_max_7cf53 tw_i_java_lang_Math tw_code_yJ9_max_7cf53 ⟨Nat.le_of_ble_eq_true rfl, Nat.le_of_ble_eq_true rfl, Nat.le_of_ble_eq_true rfl, Nat.le_of_ble_eq_true rfl⟩ dX6_next_98 ?_
      suffices z24 : ∀ y20 : Int32, y20 = ((if (v_X6_slowAmong P N R v6 v3 v10) < (v7 - (v_X6_slowAmong P N R v6 v3 v10)) then v7 - (v_X6_slowAmong P N R v6 v3 v10) else (v_X6_slowAmong P N R v6 v3 v10))) → Z k_X6_next G Γ (wr G A Γ.2.2.1.1.heap (maW G a N ++ rdW G (sh a 10) R ++ faW G a F)) 0 0 [(11, .int (v_X6_slowAmong P N R v6 v3 v10)), (0, .ref (a 0)), (3, .int v3), (6, .int v6), (7, .int v7), (8, .int v8), (9, .int v9), (10, .int v10)] 101 [.int y20] from z24 _ rfl
      intro y20 hy20
      have hp := kk_pq hp hy20
      have hv := kk_vq hv hy20
      clear hy20
      refine z_istore (lv' := [(12, .int y20), (11, .int (v_X6_slowAmong P N R v6 v3 v10)), (0, .ref (a 0)), (3, .int v3), (6, .int v6), (7, .int v7), (8, .int v8), (9, .int v9), (10, .int v10)]) dX6_next_101 (Nat.le_of_ble_eq_true rfl) rfl ?_
      refine z_iload dX6_next_103 rfl ?_
      refine z_iload dX6_next_105 rfl ?_
      have J25 : ∀ m22 : Int32, m22 = (if v9 ≤ y20 then v8 else v10) → ∀ m23 : Int32, m23 = (if v9 ≤ y20 then v9 else y20) → Z k_X6_next G Γ (wr G A Γ.2.2.1.1.heap (maW G a N ++ rdW G (sh a 10) R ++ faW G a F)) 0 0 [(12, .int y20), (11, .int (v_X6_slowAmong P N R v6 v3 v10)), (0, .ref (a 0)), (3, .int v3), (6, .int v6), (7, .int v7), (8, .int m22), (9, .int m23), (10, .int v10)] 118 [] := by
        intro m22 em22 m23 em23
        rewrite [em22]; clear em22
        rewrite [em23]; clear em23
        refine z_iinc (v := v10 + 1) (lv' := [(10, .int (v10 + 1)), (12, .int y20), (11, .int (v_X6_slowAmong P N R v6 v3 v10)), (0, .ref (a 0)), (3, .int v3), (6, .int v6), (7, .int v7), (8, .int (if v9 ≤ y20 then v8 else v10)), (9, .int (if v9 ≤ y20 then v9 else y20))]) dX6_next_118 8 rfl rfl (Nat.le_of_ble_eq_true rfl) rfl ?_
        refine z_goto (tgt := 73) dX6_next_121 (by decide) ?_
        exact z_lv rfl ((ih) N v3 v6 v7 (if v9 ≤ y20 then v8 else v10) (if v9 ≤ y20 then v9 else y20) (v10 + 1) hp hv)
      refine z_icmp_ge (tgt := 118) dX6_next_107 (by decide) (fun c21 => ?_) (fun c21 => ?_)
      · skip
        exact z_lv rfl (J25 _ (if_pos c21).symm _ (if_pos c21).symm)
      · skip
        refine z_iload dX6_next_110 rfl ?_
        refine z_istore (lv' := [(8, .int v10), (12, .int y20), (11, .int (v_X6_slowAmong P N R v6 v3 v10)), (0, .ref (a 0)), (3, .int v3), (6, .int v6), (7, .int v7), (9, .int v9), (10, .int v10)]) dX6_next_112 (Nat.le_of_ble_eq_true rfl) rfl ?_
        refine z_iload dX6_next_114 rfl ?_
        refine z_istore (lv' := [(9, .int y20), (8, .int v10), (12, .int y20), (11, .int (v_X6_slowAmong P N R v6 v3 v10)), (0, .ref (a 0)), (3, .int v3), (6, .int v6), (7, .int v7), (10, .int v10)]) dX6_next_116 (Nat.le_of_ble_eq_true rfl) rfl ?_
        exact z_lv rfl (J25 _ (if_neg c21).symm _ (if_neg c21).symm)
set_option maxHeartbeats 800000 in
theorem c_X6_next {l : Launch} (G : zG) (P : pT) (a : Nat → Nat) (sz : Nat) (N : nT) (R : rT) (F : fT) (x1 : Int32) (x2 : Int32) (x3 : Int32) (hp : p_X6_next P N R F x1 x2 x3) : Met l yX6_next (.code yX6_next k_X6_next.1 k_X6_next.2.1 k_X6_next.2.2.2.1 :: TS) k_X6_next.2.2.2.2 (Pz G [.ref (a 0), .int x1, .int x2, .int x3] (Fw G (gX G P) (maW G a N ++ rdW G (sh a 10) R ++ faW G a F) sz)) (Qwi G (fun r w => r = (v_X6_next P N R F x1 x2 x3).1 ∧ w = maW G a ((v_X6_next P N R F x1 x2 x3).2) ++ rdW G (sh a 10) R ++ faW G a F) (va_A (maW G a N ++ rdW G (sh a 10) R ++ faW G a F) sz)) 0 0 (va_A (maW G a N ++ rdW G (sh a 10) R ++ faW G a F) sz) := by
  refine zmet (K := k_X6_next) (by decide +kernel) rfl rfl (fun Γ hl0 hQ hN hF => ?_)
  refine z_start (gX_ok G P) hF (fun hw => ?_)
  generalize va_A (maW G a N ++ rdW G (sh a 10) R ++ faW G a F) sz = A at hQ hw ⊢
  obtain ⟨res, hv⟩ : ∃ res, v_X6_next P N R F x1 x2 x3 = res := ⟨_, rfl⟩
  rw [hv] at hQ
  unfold v_X6_next at hv
  unfold p_X6_next at hp
  show Z k_X6_next G Γ _ 0 0 [(0, .ref (a 0)), (1, .int x1), (2, .int x2), (3, .int x3)] 0 []
  refine z_aload_n dX6_next_0 rfl ?_
  refine z_iload_n dX6_next_1 rfl ?_
  refine z_iload_n dX6_next_2 rfl ?_
  refine z_iload_n dX6_next_3 rfl ?_
  obtain ⟨q1, hp⟩ := hp
  refine z_cvi (c_X6_twosRefusal G P a N R F x1 x2 x3 q1) zc_X6_twosRefusal zv_X6_twosRefusal tw_m_RX6_263 (zrec_of wr_P 0 rfl rfl) (fr_all wr_P (wr_G hw)) (zroom_of rfl) rfl (Nat.le_of_ble_eq_true rfl) dX6_next_4 ?_
  refine z_istore (lv' := [(4, .int (v_X6_twosRefusal N R F x1 x2 x3)), (0, .ref (a 0)), (1, .int x1), (2, .int x2), (3, .int x3)]) dX6_next_7 (Nat.le_of_ble_eq_true rfl) rfl ?_
  refine z_aload_n dX6_next_9 rfl ?_
  refine z_iload_n dX6_next_10 rfl ?_
  obtain ⟨q2, hp⟩ := hp
  refine z_cvq (c_X6_shelfAt G P a N x1 q2) zc_X6_shelfAt zv_X6_shelfAt tw_m_RX6_66 (zrec_of wr_P 0 rfl rfl) (fr_all (sub_P wr_P [0, 1, 2] rfl) (wr_G hw)) (zroom_of rfl) rfl (Nat.le_of_ble_eq_true rfl) dX6_next_11 ?_
  suffices z26 : ∀ r3 : Option Nat, r3 = (v_X6_shelfAt N x1) → (∀ k : Nat, r3 = some k → k < 8) → Z k_X6_next G Γ (wr G A Γ.2.2.1.1.heap (maW G a N ++ rdW G (sh a 10) R ++ faW G a F)) 0 0 [(4, .int (v_X6_twosRefusal N R F x1 x2 x3)), (0, .ref (a 0)), (1, .int x1), (2, .int x2), (3, .int x3)] 14 [va_rf (r3.map (fun k => sh a (30 + 2 * k) 0))] from z26 _ rfl (shelfAt_lt N x1)
  intro r3 hr3 fr3
  have hp := oc_pq hp hr3
  have hv := oc_vq hv hr3
  clear hr3
  rcases r3 with _ | r3
  · have hp := oc_pn hp; have hv := oc_n hv
    refine z_astoreN (lv' := [(5, .null), (4, .int (v_X6_twosRefusal N R F x1 x2 x3)), (0, .ref (a 0)), (1, .int x1), (2, .int x2), (3, .int x3)]) dX6_next_14 (Nat.le_of_ble_eq_true rfl) rfl ?_
    refine z_iload dX6_next_16 rfl ?_
    refine z_if_ne (tgt := 26) dX6_next_18 (by decide) (fun c4 => ?_) (fun c4 => ?_)
    · have hp := ip_f hp c4; have hv := it_f hv c4
      refine z_aload_n dX6_next_26 rfl ?_
      refine z_iload dX6_next_27 rfl ?_
      have q5 := hp
      refine z_cwviD (ws' := maW G a ((v_X6_refuse N (v_X6_twosRefusal N R F x1 x2 x3)).2) ++ rdW G (sh a 10) R ++ faW G a F) hw (fun sz => c_X6_refuse G P a sz N (v_X6_twosRefusal N R F x1 x2 x3) q5) [0, 1, 2] [3, 4, 5, 6, 7, 8, 9, 10, 11, 12, 13, 14, 15, 16, 17, 18, 19, 20, 21, 22, 23] [21, 22, 23, 0, 1, 2, 3, 4, 5, 6, 7, 8, 9, 10, 11, 12, 13, 14, 15, 16, 17, 18, 19, 20] 24 rfl rfl rfl rfl zc_X6_refuse zv_X6_refuse tw_m_RX6_70 (zrec_of wr_P 0 rfl rfl) (zroom_of rfl) rfl (Nat.le_of_ble_eq_true rfl) dX6_next_29 ?_
      suffices z27 : ∀ q6 : Int32 × nT, q6 = (v_X6_refuse N (v_X6_twosRefusal N R F x1 x2 x3)) → Z k_X6_next G Γ (wr G A Γ.2.2.1.1.heap (maW G a q6.2 ++ rdW G (sh a 10) R ++ faW G a F)) 0 0 [(5, .null), (4, .int (v_X6_twosRefusal N R F x1 x2 x3)), (0, .ref (a 0)), (1, .int x1), (2, .int x2), (3, .int x3)] 32 [.int q6.1] from z27 _ rfl
      intro q6 hq6
      have hv := kk_vq hv hq6
      clear hq6
      refine z_bipush (v := 10) dX6_next_32 rfl ?_
      refine z_isub dX6_next_34 ?_
      subst hv; exact z_iret_W hQ rfl rfl rfl ⟨rfl, rfl⟩ dX6_next_35
    · have hp := ip_t hp c4; have hv := it_t hv c4
      refine z_aloadN dX6_next_21 rfl ?_
      refine z_ifnonnullN dX6_next_23 ?_
      refine z_aload_n dX6_next_26 rfl ?_
      refine z_iload dX6_next_27 rfl ?_
      have q7 := hp
      refine z_cwviD (ws' := maW G a ((v_X6_refuse N (v_X6_twosRefusal N R F x1 x2 x3)).2) ++ rdW G (sh a 10) R ++ faW G a F) hw (fun sz => c_X6_refuse G P a sz N (v_X6_twosRefusal N R F x1 x2 x3) q7) [0, 1, 2] [3, 4, 5, 6, 7, 8, 9, 10, 11, 12, 13, 14, 15, 16, 17, 18, 19, 20, 21, 22, 23] [21, 22, 23, 0, 1, 2, 3, 4, 5, 6, 7, 8, 9, 10, 11, 12, 13, 14, 15, 16, 17, 18, 19, 20] 24 rfl rfl rfl rfl zc_X6_refuse zv_X6_refuse tw_m_RX6_70 (zrec_of wr_P 0 rfl rfl) (zroom_of rfl) rfl (Nat.le_of_ble_eq_true rfl) dX6_next_29 ?_
      suffices z28 : ∀ q8 : Int32 × nT, q8 = (v_X6_refuse N (v_X6_twosRefusal N R F x1 x2 x3)) → Z k_X6_next G Γ (wr G A Γ.2.2.1.1.heap (maW G a q8.2 ++ rdW G (sh a 10) R ++ faW G a F)) 0 0 [(5, .null), (4, .int (v_X6_twosRefusal N R F x1 x2 x3)), (0, .ref (a 0)), (1, .int x1), (2, .int x2), (3, .int x3)] 32 [.int q8.1] from z28 _ rfl
      intro q8 hq8
      have hv := kk_vq hv hq8
      clear hq8
      refine z_bipush (v := 10) dX6_next_32 rfl ?_
      refine z_isub dX6_next_34 ?_
      subst hv; exact z_iret_W hQ rfl rfl rfl ⟨rfl, rfl⟩ dX6_next_35
  · have hp := oc_ps hp; have hv := oc_s hv
    have hr3 := fr3 _ rfl; clear fr3
    refine z_astore (lv' := [(5, .ref (sh a (30 + 2 * r3) 0)), (4, .int (v_X6_twosRefusal N R F x1 x2 x3)), (0, .ref (a 0)), (1, .int x1), (2, .int x2), (3, .int x3)]) dX6_next_14 (Nat.le_of_ble_eq_true rfl) rfl ?_
    refine z_iload dX6_next_16 rfl ?_
    refine z_if_ne (tgt := 26) dX6_next_18 (by decide) (fun c9 => ?_) (fun c9 => ?_)
    · have hp := ip_f hp c9; have hv := it_f hv c9
      refine z_aload_n dX6_next_26 rfl ?_
      refine z_iload dX6_next_27 rfl ?_
      have q10 := hp
      refine z_cwviD (ws' := maW G a ((v_X6_refuse N (v_X6_twosRefusal N R F x1 x2 x3)).2) ++ rdW G (sh a 10) R ++ faW G a F) hw (fun sz => c_X6_refuse G P a sz N (v_X6_twosRefusal N R F x1 x2 x3) q10) [0, 1, 2] [3, 4, 5, 6, 7, 8, 9, 10, 11, 12, 13, 14, 15, 16, 17, 18, 19, 20, 21, 22, 23] [21, 22, 23, 0, 1, 2, 3, 4, 5, 6, 7, 8, 9, 10, 11, 12, 13, 14, 15, 16, 17, 18, 19, 20] 24 rfl rfl rfl rfl zc_X6_refuse zv_X6_refuse tw_m_RX6_70 (zrec_of wr_P 0 rfl rfl) (zroom_of rfl) rfl (Nat.le_of_ble_eq_true rfl) dX6_next_29 ?_
      suffices z29 : ∀ q11 : Int32 × nT, q11 = (v_X6_refuse N (v_X6_twosRefusal N R F x1 x2 x3)) → Z k_X6_next G Γ (wr G A Γ.2.2.1.1.heap (maW G a q11.2 ++ rdW G (sh a 10) R ++ faW G a F)) 0 0 [(5, .ref (sh a (30 + 2 * r3) 0)), (4, .int (v_X6_twosRefusal N R F x1 x2 x3)), (0, .ref (a 0)), (1, .int x1), (2, .int x2), (3, .int x3)] 32 [.int q11.1] from z29 _ rfl
      intro q11 hq11
      have hv := kk_vq hv hq11
      clear hq11
      refine z_bipush (v := 10) dX6_next_32 rfl ?_
      refine z_isub dX6_next_34 ?_
      subst hv; exact z_iret_W hQ rfl rfl rfl ⟨rfl, rfl⟩ dX6_next_35
    · have hp := ip_t hp c9; have hv := it_t hv c9
      refine z_aload dX6_next_21 rfl ?_
      refine z_ifnonnull (tgt := 36) dX6_next_23 (by decide) ?_
      refine z_aload_n dX6_next_36 rfl ?_
      refine z_aload dX6_next_37 rfl ?_
      refine z_iload_n dX6_next_39 rfl ?_
      refine z_iload_n dX6_next_40 rfl ?_
      obtain ⟨q12, hp⟩ := hp
      refine z_cvi (c_X6_fitting G P a (sh a (30 + 2 * r3)) N R (F r3) x2 x3 q12) zc_X6_fitting zv_X6_fitting tw_m_RX6_266 (zrec_of wr_P 0 rfl rfl) (fr_all (ap_P (sub_P (wc := maW G a N ++ rdW G (sh a 10) R) wr_P [0, 1, 2, 3, 4, 5, 6, 7] rfl) (fam_P (a := a) hr3 (sub_P wr_P [8, 9, 10, 11, 12, 13, 14, 15, 16, 17, 18, 19, 20, 21, 22, 23] rfl))) (wr_G hw)) (zroom_of rfl) rfl (Nat.le_of_ble_eq_true rfl) dX6_next_41 ?_
      refine z_istore (lv' := [(6, .int (v_X6_fitting P N R (F r3) x2 x3)), (5, .ref (sh a (30 + 2 * r3) 0)), (4, .int (v_X6_twosRefusal N R F x1 x2 x3)), (0, .ref (a 0)), (1, .int x1), (2, .int x2), (3, .int x3)]) dX6_next_44 (Nat.le_of_ble_eq_true rfl) rfl ?_
      refine z_iload dX6_next_46 rfl ?_
      refine z_csi (c_J6_bitCount_0f7a4 G P (v_X6_fitting P N R (F r3) x2 x3) ) zc_J6_bitCount_0f7a4 tw_st_yJ6_bitCount_0f7a4 tw_m_RX6_231 (fr_all (sub_P wr_P [] rfl) (wr_G hw)) (zroom_of rfl) rfl (Nat.le_of_ble_eq_true rfl) dX6_next_48 ?_
      refine z_istore (lv' := [(7, .int (v_J6_bitCount_0f7a4 (v_X6_fitting P N R (F r3) x2 x3))), (6, .int (v_X6_fitting P N R (F r3) x2 x3)), (5, .ref (sh a (30 + 2 * r3) 0)), (4, .int (v_X6_twosRefusal N R F x1 x2 x3)), (0, .ref (a 0)), (1, .int x1), (2, .int x2), (3, .int x3)]) dX6_next_51 (Nat.le_of_ble_eq_true rfl) rfl ?_
      refine z_iload dX6_next_53 rfl ?_
      refine z_iconst (v := 2) dX6_next_55 rfl ?_
      refine z_icmp_ge (tgt := 61) dX6_next_56 (by decide) (fun c13 => ?_) (fun c13 => ?_)
      · have hp := ip_t hp c13; have hv := it_t hv c13
        refine z_iconst (v := (-1)) dX6_next_61 rfl ?_
        refine z_istore (lv' := [(8, .int (-1)), (7, .int (v_J6_bitCount_0f7a4 (v_X6_fitting P N R (F r3) x2 x3))), (6, .int (v_X6_fitting P N R (F r3) x2 x3)), (5, .ref (sh a (30 + 2 * r3) 0)), (4, .int (v_X6_twosRefusal N R F x1 x2 x3)), (0, .ref (a 0)), (1, .int x1), (2, .int x2), (3, .int x3)]) dX6_next_62 (Nat.le_of_ble_eq_true rfl) rfl ?_
        refine z_iload dX6_next_64 rfl ?_
        refine z_iconst (v := 1) dX6_next_66 rfl ?_
        refine z_iadd dX6_next_67 ?_
        refine z_istore (lv' := [(9, .int ((v_J6_bitCount_0f7a4 (v_X6_fitting P N R (F r3) x2 x3)) + 1)), (8, .int (-1)), (7, .int (v_J6_bitCount_0f7a4 (v_X6_fitting P N R (F r3) x2 x3))), (6, .int (v_X6_fitting P N R (F r3) x2 x3)), (5, .ref (sh a (30 + 2 * r3) 0)), (4, .int (v_X6_twosRefusal N R F x1 x2 x3)), (0, .ref (a 0)), (1, .int x1), (2, .int x2), (3, .int x3)]) dX6_next_68 (Nat.le_of_ble_eq_true rfl) rfl ?_
        refine z_iconst (v := 0) dX6_next_70 rfl ?_
        refine z_istore (lv' := [(10, .int 0), (9, .int ((v_J6_bitCount_0f7a4 (v_X6_fitting P N R (F r3) x2 x3)) + 1)), (8, .int (-1)), (7, .int (v_J6_bitCount_0f7a4 (v_X6_fitting P N R (F r3) x2 x3))), (6, .int (v_X6_fitting P N R (F r3) x2 x3)), (5, .ref (sh a (30 + 2 * r3) 0)), (4, .int (v_X6_twosRefusal N R F x1 x2 x3)), (0, .ref (a 0)), (1, .int x1), (2, .int x2), (3, .int x3)]) dX6_next_71 (Nat.le_of_ble_eq_true rfl) rfl ?_
        exact z_lv rfl ((w_X6_next a R F hw hQ 200) N x3 (v_X6_fitting P N R (F r3) x2 x3) (v_J6_bitCount_0f7a4 (v_X6_fitting P N R (F r3) x2 x3)) (-1) ((v_J6_bitCount_0f7a4 (v_X6_fitting P N R (F r3) x2 x3)) + 1) 0 hp hv)
      · have hp := ip_f hp c13; have hv := it_f hv c13
        refine z_iconst (v := (-1)) dX6_next_59 rfl ?_
        subst hv; exact z_iret_W hQ rfl rfl rfl ⟨rfl, rfl⟩ dX6_next_60
theorem dX6_leader_0 : decode cX6_leader 0 = .ok (.aload_n 0, 1) := by decide +kernel
theorem dX6_leader_1 : decode cX6_leader 1 = .ok (.getfield 10, 3) := by decide +kernel
theorem dX6_leader_4 : decode cX6_leader 4 = .ok (.iload_n 1, 1) := by decide +kernel
theorem dX6_leader_5 : decode cX6_leader 5 = .ok (.invokevirtual 121, 3) := by decide +kernel
theorem dX6_leader_8 : decode cX6_leader 8 = .ok (.ifCond .ne 12, 3) := by decide +kernel
theorem dX6_leader_11 : decode cX6_leader 11 = .ok (.aload_n 0, 1) := by decide +kernel
theorem dX6_leader_12 : decode cX6_leader 12 = .ok (.iconst 1, 1) := by decide +kernel
theorem dX6_leader_13 : decode cX6_leader 13 = .ok (.invokevirtual 70, 3) := by decide +kernel
theorem dX6_leader_16 : decode cX6_leader 16 = .ok (.bipush 10, 2) := by decide +kernel
theorem dX6_leader_18 : decode cX6_leader 18 = .ok (.isub, 1) := by decide +kernel
theorem dX6_leader_19 : decode cX6_leader 19 = .ok (.ireturn, 1) := by decide +kernel
theorem dX6_leader_20 : decode cX6_leader 20 = .ok (.iconst (-1), 1) := by decide +kernel
theorem dX6_leader_21 : decode cX6_leader 21 = .ok (.istore_n 2, 1) := by decide +kernel
theorem dX6_leader_22 : decode cX6_leader 22 = .ok (.iconst (-1), 1) := by decide +kernel
theorem dX6_leader_23 : decode cX6_leader 23 = .ok (.istore_n 3, 1) := by decide +kernel
theorem dX6_leader_24 : decode cX6_leader 24 = .ok (.iconst 0, 1) := by decide +kernel
theorem dX6_leader_25 : decode cX6_leader 25 = .ok (.istore 4, 2) := by decide +kernel
theorem dX6_leader_27 : decode cX6_leader 27 = .ok (.iload 4, 2) := by decide +kernel
theorem dX6_leader_29 : decode cX6_leader 29 = .ok (.aload_n 0, 1) := by decide +kernel
theorem dX6_leader_30 : decode cX6_leader 30 = .ok (.getfield 10, 3) := by decide +kernel
theorem dX6_leader_33 : decode cX6_leader 33 = .ok (.getfield 157, 3) := by decide +kernel
theorem dX6_leader_36 : decode cX6_leader 36 = .ok (.if_icmp .ge 112, 3) := by decide +kernel
theorem dX6_leader_39 : decode cX6_leader 39 = .ok (.iload 4, 2) := by decide +kernel
theorem dX6_leader_41 : decode cX6_leader 41 = .ok (.iload_n 1, 1) := by decide +kernel
theorem dX6_leader_42 : decode cX6_leader 42 = .ok (.if_icmp .ne 6, 3) := by decide +kernel
theorem dX6_leader_45 : decode cX6_leader 45 = .ok (.goto 97, 3) := by decide +kernel
theorem dX6_leader_48 : decode cX6_leader 48 = .ok (.aload_n 0, 1) := by decide +kernel
theorem dX6_leader_49 : decode cX6_leader 49 = .ok (.getfield 10, 3) := by decide +kernel
theorem dX6_leader_52 : decode cX6_leader 52 = .ok (.iload 4, 2) := by decide +kernel
theorem dX6_leader_54 : decode cX6_leader 54 = .ok (.iconst 0, 1) := by decide +kernel
theorem dX6_leader_55 : decode cX6_leader 55 = .ok (.aload_n 0, 1) := by decide +kernel
theorem dX6_leader_56 : decode cX6_leader 56 = .ok (.getfield 10, 3) := by decide +kernel
theorem dX6_leader_59 : decode cX6_leader 59 = .ok (.iload_n 1, 1) := by decide +kernel
theorem dX6_leader_60 : decode cX6_leader 60 = .ok (.invokevirtual 147, 3) := by decide +kernel
theorem dX6_leader_63 : decode cX6_leader 63 = .ok (.iconst 0, 1) := by decide +kernel
theorem dX6_leader_64 : decode cX6_leader 64 = .ok (.invokevirtual 276, 3) := by decide +kernel
theorem dX6_leader_67 : decode cX6_leader 67 = .ok (.iconst 1, 1) := by decide +kernel
theorem dX6_leader_68 : decode cX6_leader 68 = .ok (.if_icmp .ne 7, 3) := by decide +kernel
theorem dX6_leader_71 : decode cX6_leader 71 = .ok (.iconst 1, 1) := by decide +kernel
theorem dX6_leader_72 : decode cX6_leader 72 = .ok (.goto 4, 3) := by decide +kernel
theorem dX6_leader_75 : decode cX6_leader 75 = .ok (.iconst 0, 1) := by decide +kernel
theorem dX6_leader_76 : decode cX6_leader 76 = .ok (.istore 5, 2) := by decide +kernel
theorem dX6_leader_78 : decode cX6_leader 78 = .ok (.aload_n 0, 1) := by decide +kernel
theorem dX6_leader_79 : decode cX6_leader 79 = .ok (.getfield 10, 3) := by decide +kernel
theorem dX6_leader_82 : decode cX6_leader 82 = .ok (.iload_n 1, 1) := by decide +kernel
theorem dX6_leader_83 : decode cX6_leader 83 = .ok (.aload_n 0, 1) := by decide +kernel
theorem dX6_leader_84 : decode cX6_leader 84 = .ok (.getfield 10, 3) := by decide +kernel
theorem dX6_leader_87 : decode cX6_leader 87 = .ok (.getfield 163, 3) := by decide +kernel
theorem dX6_leader_90 : decode cX6_leader 90 = .ok (.aload_n 0, 1) := by decide +kernel
theorem dX6_leader_91 : decode cX6_leader 91 = .ok (.getfield 10, 3) := by decide +kernel
theorem dX6_leader_94 : decode cX6_leader 94 = .ok (.iload_n 1, 1) := by decide +kernel
theorem dX6_leader_95 : decode cX6_leader 95 = .ok (.invokevirtual 147, 3) := by decide +kernel
theorem dX6_leader_98 : decode cX6_leader 98 = .ok (.aload_n 0, 1) := by decide +kernel
theorem dX6_leader_99 : decode cX6_leader 99 = .ok (.getfield 10, 3) := by decide +kernel
theorem dX6_leader_102 : decode cX6_leader 102 = .ok (.iload 4, 2) := by decide +kernel
theorem dX6_leader_104 : decode cX6_leader 104 = .ok (.invokevirtual 147, 3) := by decide +kernel
theorem dX6_leader_107 : decode cX6_leader 107 = .ok (.iconst 0, 1) := by decide +kernel
theorem dX6_leader_108 : decode cX6_leader 108 = .ok (.iload 5, 2) := by decide +kernel
theorem dX6_leader_110 : decode cX6_leader 110 = .ok (.invokevirtual 280, 3) := by decide +kernel
theorem dX6_leader_113 : decode cX6_leader 113 = .ok (.istore 6, 2) := by decide +kernel
theorem dX6_leader_115 : decode cX6_leader 115 = .ok (.iload 6, 2) := by decide +kernel
theorem dX6_leader_117 : decode cX6_leader 117 = .ok (.iconst (-1), 1) := by decide +kernel
theorem dX6_leader_118 : decode cX6_leader 118 = .ok (.if_icmp .ne 8, 3) := by decide +kernel
theorem dX6_leader_121 : decode cX6_leader 121 = .ok (.bipush 21, 2) := by decide +kernel
theorem dX6_leader_123 : decode cX6_leader 123 = .ok (.goto 5, 3) := by decide +kernel
theorem dX6_leader_126 : decode cX6_leader 126 = .ok (.iload 6, 2) := by decide +kernel
theorem dX6_leader_128 : decode cX6_leader 128 = .ok (.istore 7, 2) := by decide +kernel
theorem dX6_leader_130 : decode cX6_leader 130 = .ok (.iload 7, 2) := by decide +kernel
theorem dX6_leader_132 : decode cX6_leader 132 = .ok (.iload_n 3, 1) := by decide +kernel
theorem dX6_leader_133 : decode cX6_leader 133 = .ok (.if_icmp .le 9, 3) := by decide +kernel
theorem dX6_leader_136 : decode cX6_leader 136 = .ok (.iload 4, 2) := by decide +kernel
theorem dX6_leader_138 : decode cX6_leader 138 = .ok (.istore_n 2, 1) := by decide +kernel
theorem dX6_leader_139 : decode cX6_leader 139 = .ok (.iload 7, 2) := by decide +kernel
theorem dX6_leader_141 : decode cX6_leader 141 = .ok (.istore_n 3, 1) := by decide +kernel
theorem dX6_leader_142 : decode cX6_leader 142 = .ok (.iinc 4 1, 3) := by decide +kernel
theorem dX6_leader_145 : decode cX6_leader 145 = .ok (.goto (-118), 3) := by decide +kernel
theorem dX6_leader_148 : decode cX6_leader 148 = .ok (.iload_n 2, 1) := by decide +kernel
theorem dX6_leader_149 : decode cX6_leader 149 = .ok (.ireturn, 1) := by decide +kernel
abbrev k_X6_leader : zK := (cX6_leader, 8, RX6, (some .int), ({ frames := 4, cells := 0, slots := 0, locals := 90 } : Room))
theorem zc_X6_leader : zcal yX6_leader k_X6_leader.1 k_X6_leader.2.1 k_X6_leader.2.2.2.1 1 := ⟨tw_code_yX6_leader, tw_i_TollForHesitators, ⟨by decide +kernel, by decide +kernel⟩, by decide +kernel⟩
theorem zv_X6_leader : Cond.instanceMethod yX6_leader ∈ TS ∧ Cond.selects RX6 yX6_leader yX6_leader ∈ TS := ⟨tw_inst_yX6_leader, tw_s_yX6_leader⟩
def v_X6_leader_r (P : pT) (R : rT) : Nat → nT → Int32 → Int32 → Int32 → Int32 → Int32 × nT
  | 0, N, _, _, _, _ => (0, N)
  | n + 1, N, v1, v2, v3, v4 => if (R.1 4) ≤ v4 then (v2, N) else kk (if v4 = v1 then v2 else (if (if (v_X4_slowAt P R v1 (R.1 6) (v_X4_nerveOf R v1) (v_X4_nerveOf R v4) 0 (if (v_X4_comesTo P R v4 0 (v_X4_nerveOf R v1) 0) = 1 then (1 : Int32) else 0)) = (-1) then 21 else (v_X4_slowAt P R v1 (R.1 6) (v_X4_nerveOf R v1) (v_X4_nerveOf R v4) 0 (if (v_X4_comesTo P R v4 0 (v_X4_nerveOf R v1) 0) = 1 then (1 : Int32) else 0))) ≤ v3 then v2 else v4)) (fun m34 : Int32 => kk (if v4 = v1 then v3 else (if (if (v_X4_slowAt P R v1 (R.1 6) (v_X4_nerveOf R v1) (v_X4_nerveOf R v4) 0 (if (v_X4_comesTo P R v4 0 (v_X4_nerveOf R v1) 0) = 1 then (1 : Int32) else 0)) = (-1) then 21 else (v_X4_slowAt P R v1 (R.1 6) (v_X4_nerveOf R v1) (v_X4_nerveOf R v4) 0 (if (v_X4_comesTo P R v4 0 (v_X4_nerveOf R v1) 0) = 1 then (1 : Int32) else 0))) ≤ v3 then v3 else (if (v_X4_slowAt P R v1 (R.1 6) (v_X4_nerveOf R v1) (v_X4_nerveOf R v4) 0 (if (v_X4_comesTo P R v4 0 (v_X4_nerveOf R v1) 0) = 1 then (1 : Int32) else 0)) = (-1) then 21 else (v_X4_slowAt P R v1 (R.1 6) (v_X4_nerveOf R v1) (v_X4_nerveOf R v4) 0 (if (v_X4_comesTo P R v4 0 (v_X4_nerveOf R v1) 0) = 1 then (1 : Int32) else 0))))) (fun m35 : Int32 => v_X6_leader_r P R n N v1 m34 m35 (v4 + 1)))
def p_X6_leader_r (P : pT) (R : rT) : Nat → nT → Int32 → Int32 → Int32 → Int32 → Prop
  | 0, _, _, _, _, _ => False
  | n + 1, N, v1, v2, v3, v4 => if (R.1 4) ≤ v4 then True else (if v4 = v1 then True else p_X4_nerveOf R v1 ∧ ((p_X4_comesTo P R v4 0 (v_X4_nerveOf R v1) 0) ∧ (p_X4_nerveOf R v1 ∧ (p_X4_nerveOf R v4 ∧ (p_X4_slowAt P R v1 (R.1 6) (v_X4_nerveOf R v1) (v_X4_nerveOf R v4) 0 (if (v_X4_comesTo P R v4 0 (v_X4_nerveOf R v1) 0) = 1 then (1 : Int32) else 0)))))) ∧ (kk (if v4 = v1 then v2 else (if (if (v_X4_slowAt P R v1 (R.1 6) (v_X4_nerveOf R v1) (v_X4_nerveOf R v4) 0 (if (v_X4_comesTo P R v4 0 (v_X4_nerveOf R v1) 0) = 1 then (1 : Int32) else 0)) = (-1) then 21 else (v_X4_slowAt P R v1 (R.1 6) (v_X4_nerveOf R v1) (v_X4_nerveOf R v4) 0 (if (v_X4_comesTo P R v4 0 (v_X4_nerveOf R v1) 0) = 1 then (1 : Int32) else 0))) ≤ v3 then v2 else v4)) (fun m34 : Int32 => kk (if v4 = v1 then v3 else (if (if (v_X4_slowAt P R v1 (R.1 6) (v_X4_nerveOf R v1) (v_X4_nerveOf R v4) 0 (if (v_X4_comesTo P R v4 0 (v_X4_nerveOf R v1) 0) = 1 then (1 : Int32) else 0)) = (-1) then 21 else (v_X4_slowAt P R v1 (R.1 6) (v_X4_nerveOf R v1) (v_X4_nerveOf R v4) 0 (if (v_X4_comesTo P R v4 0 (v_X4_nerveOf R v1) 0) = 1 then (1 : Int32) else 0))) ≤ v3 then v3 else (if (v_X4_slowAt P R v1 (R.1 6) (v_X4_nerveOf R v1) (v_X4_nerveOf R v4) 0 (if (v_X4_comesTo P R v4 0 (v_X4_nerveOf R v1) 0) = 1 then (1 : Int32) else 0)) = (-1) then 21 else (v_X4_slowAt P R v1 (R.1 6) (v_X4_nerveOf R v1) (v_X4_nerveOf R v4) 0 (if (v_X4_comesTo P R v4 0 (v_X4_nerveOf R v1) 0) = 1 then (1 : Int32) else 0))))) (fun m35 : Int32 => p_X6_leader_r P R n N v1 m34 m35 (v4 + 1))))
def v_X6_leader (P : pT) (N : nT) (R : rT) (x1 : Int32) : Int32 × nT := if (v_X4_has R x1) = 0 then kk (v_X6_refuse N 1) (fun q4 : Int32 × nT => (q4.1 - 10, q4.2)) else v_X6_leader_r P R 200 N x1 (-1) (-1) 0
def p_X6_leader (P : pT) (N : nT) (R : rT) (x1 : Int32) : Prop := p_X4_has R x1 ∧ (if (v_X4_has R x1) = 0 then p_X6_refuse N 1 else p_X6_leader_r P R 200 N x1 (-1) (-1) 0)
set_option maxHeartbeats 800000 in
theorem w_X6_leader {G : zG} {P : pT} {Γ : zT} {A : Nat → Prop} {res : Int32 × nT} (a : Nat → Nat) (R : rT) (hw : wk (gX G P) A Γ.2.2.1.1.heap) (hQ : zQ Γ (Qwi G (fun r w => r = (res).1 ∧ w = maW G a ((res).2) ++ rdW G (sh a 10) R) A) 0 0 A) : ∀ n : Nat, (∀ (N : nT) (v1 : Int32) (v2 : Int32) (v3 : Int32) (v4 : Int32), p_X6_leader_r P R n N v1 v2 v3 v4 → v_X6_leader_r P R n N v1 v2 v3 v4 = res → Z k_X6_leader G Γ (wr G A Γ.2.2.1.1.heap (maW G a N ++ rdW G (sh a 10) R)) 0 0 [(0, .ref (a 0)), (1, .int v1), (2, .int v2), (3, .int v3), (4, .int v4)] 27 []) := by
  intro n
  induction n with
  | zero => exact fun N v1 v2 v3 v4 hp => absurd hp (by rw [p_X6_leader_r]; exact not_false)
  | succ n ih =>
    intro N v1 v2 v3 v4 hp hv
    rw [p_X6_leader_r] at hp
    rw [v_X6_leader_r] at hv
    refine z_iload dX6_leader_27 rfl ?_
    refine z_aload_n dX6_leader_29 rfl ?_
    refine z_get (v := .ref ((sh a 10) 0)) wr_P 0 rfl rfl uin_X6 0 (Nat.le_of_ble_eq_true rfl) tw_f_RX6_10 rfl rfl dX6_leader_30 ?_
    refine z_get (v := .int (R.1 4)) wr_P 3 rfl rfl uin_X4 4 (Nat.le_of_ble_eq_true rfl) tw_f_RX6_157 rfl rfl dX6_leader_33 ?_
    refine z_icmp_ge (tgt := 148) dX6_leader_36 (by decide) (fun c5 => ?_) (fun c5 => ?_)
    · have hp := ip_t hp c5; have hv := it_t hv c5
      refine z_iload_n dX6_leader_148 rfl ?_
      subst hv; exact z_iret_W hQ rfl rfl rfl ⟨rfl, rfl⟩ dX6_leader_149
    · have hp := ip_f hp c5; have hv := it_f hv c5
      refine z_iload dX6_leader_39 rfl ?_
      refine z_iload_n dX6_leader_41 rfl ?_
      obtain ⟨hpm, hp⟩ := hp
      have J36 : ∀ m34 : Int32, m34 = (if v4 = v1 then v2 else (if (if (v_X4_slowAt P R v1 (R.1 6) (v_X4_nerveOf R v1) (v_X4_nerveOf R v4) 0 (if (v_X4_comesTo P R v4 0 (v_X4_nerveOf R v1) 0) = 1 then (1 : Int32) else 0)) = (-1) then 21 else (v_X4_slowAt P R v1 (R.1 6) (v_X4_nerveOf R v1) (v_X4_nerveOf R v4) 0 (if (v_X4_comesTo P R v4 0 (v_X4_nerveOf R v1) 0) = 1 then (1 : Int32) else 0))) ≤ v3 then v2 else v4)) → ∀ m35 : Int32, m35 = (if v4 = v1 then v3 else (if (if (v_X4_slowAt P R v1 (R.1 6) (v_X4_nerveOf R v1) (v_X4_nerveOf R v4) 0 (if (v_X4_comesTo P R v4 0 (v_X4_nerveOf R v1) 0) = 1 then (1 : Int32) else 0)) = (-1) then 21 else (v_X4_slowAt P R v1 (R.1 6) (v_X4_nerveOf R v1) (v_X4_nerveOf R v4) 0 (if (v_X4_comesTo P R v4 0 (v_X4_nerveOf R v1) 0) = 1 then (1 : Int32) else 0))) ≤ v3 then v3 else (if (v_X4_slowAt P R v1 (R.1 6) (v_X4_nerveOf R v1) (v_X4_nerveOf R v4) 0 (if (v_X4_comesTo P R v4 0 (v_X4_nerveOf R v1) 0) = 1 then (1 : Int32) else 0)) = (-1) then 21 else (v_X4_slowAt P R v1 (R.1 6) (v_X4_nerveOf R v1) (v_X4_nerveOf R v4) 0 (if (v_X4_comesTo P R v4 0 (v_X4_nerveOf R v1) 0) = 1 then (1 : Int32) else 0))))) → Z k_X6_leader G Γ (wr G A Γ.2.2.1.1.heap (maW G a N ++ rdW G (sh a 10) R)) 0 0 [(0, .ref (a 0)), (1, .int v1), (2, .int m34), (3, .int m35), (4, .int v4)] 142 [] := by
        intro m34 em34 m35 em35
        have hp := kk_pq hp em34
        have hv := kk_vq hv em34
        clear em34
        have hp := kk_pq hp em35
        have hv := kk_vq hv em35
        clear em35
        refine z_iinc (v := v4 + 1) (lv' := [(4, .int (v4 + 1)), (0, .ref (a 0)), (1, .int v1), (2, .int m34), (3, .int m35)]) dX6_leader_142 4 rfl rfl (Nat.le_of_ble_eq_true rfl) rfl ?_
        refine z_goto (tgt := 27) dX6_leader_145 (by decide) ?_
        exact z_lv rfl ((ih) N v1 m34 m35 (v4 + 1) hp hv)
      refine z_icmp_ne (tgt := 48) dX6_leader_42 (by decide) (fun c21 => ?_) (fun c21 => ?_)
      · have hp := ip_f hpm c21
        refine z_aload_n dX6_leader_48 rfl ?_
        refine z_get (v := .ref ((sh a 10) 0)) wr_P 0 rfl rfl uin_X6 0 (Nat.le_of_ble_eq_true rfl) tw_f_RX6_10 rfl rfl dX6_leader_49 ?_
        refine z_iload dX6_leader_52 rfl ?_
        refine z_iconst (v := 0) dX6_leader_54 rfl ?_
        refine z_aload_n dX6_leader_55 rfl ?_
        refine z_get (v := .ref ((sh a 10) 0)) wr_P 0 rfl rfl uin_X6 0 (Nat.le_of_ble_eq_true rfl) tw_f_RX6_10 rfl rfl dX6_leader_56 ?_
        refine z_iload_n dX6_leader_59 rfl ?_
        obtain ⟨q22, hp⟩ := hp
        refine z_cvi (c_X4_nerveOf G P (sh a 10) R v1 q22) zc_X4_nerveOf zv_X4_nerveOf tw_m_RX6_147 (zrec_of wr_P 3 rfl rfl) (fr_all (sub_P wr_P [3, 4, 5, 6, 7] rfl) (wr_G hw)) (zroom_of rfl) rfl (Nat.le_of_ble_eq_true rfl) dX6_leader_60 ?_
        refine z_iconst (v := 0) dX6_leader_63 rfl ?_
        obtain ⟨q23, hp⟩ := hp
        refine z_cvi (c_X4_comesTo G P (sh a 10) R v4 0 (v_X4_nerveOf R v1) 0 q23) zc_X4_comesTo zv_X4_comesTo tw_m_RX6_276 (zrec_of wr_P 3 rfl rfl) (fr_all (sub_P wr_P [3, 4, 5, 6, 7] rfl) (wr_G hw)) (zroom_of rfl) rfl (Nat.le_of_ble_eq_true rfl) dX6_leader_64 ?_
        refine z_iconst (v := 1) dX6_leader_67 rfl ?_
        have J37 : ∀ m25 : Int32, m25 = (if (v_X4_comesTo P R v4 0 (v_X4_nerveOf R v1) 0) = 1 then (1 : Int32) else 0) → Z k_X6_leader G Γ (wr G A Γ.2.2.1.1.heap (maW G a N ++ rdW G (sh a 10) R)) 0 0 [(0, .ref (a 0)), (1, .int v1), (2, .int v2), (3, .int v3), (4, .int v4)] 76 [.int m25] := by
          intro m25 em25
          rewrite [em25]; clear em25
          refine z_istore (lv' := [(5, .int (if (v_X4_comesTo P R v4 0 (v_X4_nerveOf R v1) 0) = 1 then (1 : Int32) else 0)), (0, .ref (a 0)), (1, .int v1), (2, .int v2), (3, .int v3), (4, .int v4)]) dX6_leader_76 (Nat.le_of_ble_eq_true rfl) rfl ?_
          refine z_aload_n dX6_leader_78 rfl ?_
          refine z_get (v := .ref ((sh a 10) 0)) wr_P 0 rfl rfl uin_X6 0 (Nat.le_of_ble_eq_true rfl) tw_f_RX6_10 rfl rfl dX6_leader_79 ?_
          refine z_iload_n dX6_leader_82 rfl ?_
          refine z_aload_n dX6_leader_83 rfl ?_
          refine z_get (v := .ref ((sh a 10) 0)) wr_P 0 rfl rfl uin_X6 0 (Nat.le_of_ble_eq_true rfl) tw_f_RX6_10 rfl rfl dX6_leader_84 ?_
          refine z_get (v := .int (R.1 6)) wr_P 3 rfl rfl uin_X4 6 (Nat.le_of_ble_eq_true rfl) tw_f_RX6_163 rfl rfl dX6_leader_87 ?_
          refine z_aload_n dX6_leader_90 rfl ?_
          refine z_get (v := .ref ((sh a 10) 0)) wr_P 0 rfl rfl uin_X6 0 (Nat.le_of_ble_eq_true rfl) tw_f_RX6_10 rfl rfl dX6_leader_91 ?_
          refine z_iload_n dX6_leader_94 rfl ?_
          obtain ⟨q26, hp⟩ := hp
          refine z_cvi (c_X4_nerveOf G P (sh a 10) R v1 q26) zc_X4_nerveOf zv_X4_nerveOf tw_m_RX6_147 (zrec_of wr_P 3 rfl rfl) (fr_all (sub_P wr_P [3, 4, 5, 6, 7] rfl) (wr_G hw)) (zroom_of rfl) rfl (Nat.le_of_ble_eq_true rfl) dX6_leader_95 ?_
          refine z_aload_n dX6_leader_98 rfl ?_
          refine z_get (v := .ref ((sh a 10) 0)) wr_P 0 rfl rfl uin_X6 0 (Nat.le_of_ble_eq_true rfl) tw_f_RX6_10 rfl rfl dX6_leader_99 ?_
          refine z_iload dX6_leader_102 rfl ?_
          obtain ⟨q27, hp⟩ := hp
          refine z_cvi (c_X4_nerveOf G P (sh a 10) R v4 q27) zc_X4_nerveOf zv_X4_nerveOf tw_m_RX6_147 (zrec_of wr_P 3 rfl rfl) (fr_all (sub_P wr_P [3, 4, 5, 6, 7] rfl) (wr_G hw)) (zroom_of rfl) rfl (Nat.le_of_ble_eq_true rfl) dX6_leader_104 ?_
          refine z_iconst (v := 0) dX6_leader_107 rfl ?_
          refine z_iload dX6_leader_108 rfl ?_
          have q28 := hp
          refine z_cvi (c_X4_slowAt G P (sh a 10) R v1 (R.1 6) (v_X4_nerveOf R v1) (v_X4_nerveOf R v4) 0 (if (v_X4_comesTo P R v4 0 (v_X4_nerveOf R v1) 0) = 1 then (1 : Int32) else 0) q28) zc_X4_slowAt zv_X4_slowAt tw_m_RX6_280 (zrec_of wr_P 3 rfl rfl) (fr_all (sub_P wr_P [3, 4, 5, 6, 7] rfl) (wr_G hw)) (zroom_of rfl) rfl (Nat.le_of_ble_eq_true rfl) dX6_leader_110 ?_
          refine z_istore (lv' := [(6, .int (v_X4_slowAt P R v1 (R.1 6) (v_X4_nerveOf R v1) (v_X4_nerveOf R v4) 0 (if (v_X4_comesTo P R v4 0 (v_X4_nerveOf R v1) 0) = 1 then (1 : Int32) else 0))), (5, .int (if (v_X4_comesTo P R v4 0 (v_X4_nerveOf R v1) 0) = 1 then (1 : Int32) else 0)), (0, .ref (a 0)), (1, .int v1), (2, .int v2), (3, .int v3), (4, .int v4)]) dX6_leader_113 (Nat.le_of_ble_eq_true rfl) rfl ?_
          refine z_iload dX6_leader_115 rfl ?_
          refine z_iconst (v := (-1)) dX6_leader_117 rfl ?_
          have J38 : ∀ m30 : Int32, m30 = (if (v_X4_slowAt P R v1 (R.1 6) (v_X4_nerveOf R v1) (v_X4_nerveOf R v4) 0 (if (v_X4_comesTo P R v4 0 (v_X4_nerveOf R v1) 0) = 1 then (1 : Int32) else 0)) = (-1) then 21 else (v_X4_slowAt P R v1 (R.1 6) (v_X4_nerveOf R v1) (v_X4_nerveOf R v4) 0 (if (v_X4_comesTo P R v4 0 (v_X4_nerveOf R v1) 0) = 1 then (1 : Int32) else 0))) → Z k_X6_leader G Γ (wr G A Γ.2.2.1.1.heap (maW G a N ++ rdW G (sh a 10) R)) 0 0 [(6, .int (v_X4_slowAt P R v1 (R.1 6) (v_X4_nerveOf R v1) (v_X4_nerveOf R v4) 0 (if (v_X4_comesTo P R v4 0 (v_X4_nerveOf R v1) 0) = 1 then (1 : Int32) else 0))), (5, .int (if (v_X4_comesTo P R v4 0 (v_X4_nerveOf R v1) 0) = 1 then (1 : Int32) else 0)), (0, .ref (a 0)), (1, .int v1), (2, .int v2), (3, .int v3), (4, .int v4)] 128 [.int m30] := by
            intro m30 em30
            rewrite [em30]; clear em30
            refine z_istore (lv' := [(7, .int (if (v_X4_slowAt P R v1 (R.1 6) (v_X4_nerveOf R v1) (v_X4_nerveOf R v4) 0 (if (v_X4_comesTo P R v4 0 (v_X4_nerveOf R v1) 0) = 1 then (1 : Int32) else 0)) = (-1) then 21 else (v_X4_slowAt P R v1 (R.1 6) (v_X4_nerveOf R v1) (v_X4_nerveOf R v4) 0 (if (v_X4_comesTo P R v4 0 (v_X4_nerveOf R v1) 0) = 1 then (1 : Int32) else 0)))), (6, .int (v_X4_slowAt P R v1 (R.1 6) (v_X4_nerveOf R v1) (v_X4_nerveOf R v4) 0 (if (v_X4_comesTo P R v4 0 (v_X4_nerveOf R v1) 0) = 1 then (1 : Int32) else 0))), (5, .int (if (v_X4_comesTo P R v4 0 (v_X4_nerveOf R v1) 0) = 1 then (1 : Int32) else 0)), (0, .ref (a 0)), (1, .int v1), (2, .int v2), (3, .int v3), (4, .int v4)]) dX6_leader_128 (Nat.le_of_ble_eq_true rfl) rfl ?_
            refine z_iload dX6_leader_130 rfl ?_
            refine z_iload_n dX6_leader_132 rfl ?_
            have J39 : ∀ m32 : Int32, m32 = (if (if (v_X4_slowAt P R v1 (R.1 6) (v_X4_nerveOf R v1) (v_X4_nerveOf R v4) 0 (if (v_X4_comesTo P R v4 0 (v_X4_nerveOf R v1) 0) = 1 then (1 : Int32) else 0)) = (-1) then 21 else (v_X4_slowAt P R v1 (R.1 6) (v_X4_nerveOf R v1) (v_X4_nerveOf R v4) 0 (if (v_X4_comesTo P R v4 0 (v_X4_nerveOf R v1) 0) = 1 then (1 : Int32) else 0))) ≤ v3 then v2 else v4) → ∀ m33 : Int32, m33 = (if (if (v_X4_slowAt P R v1 (R.1 6) (v_X4_nerveOf R v1) (v_X4_nerveOf R v4) 0 (if (v_X4_comesTo P R v4 0 (v_X4_nerveOf R v1) 0) = 1 then (1 : Int32) else 0)) = (-1) then 21 else (v_X4_slowAt P R v1 (R.1 6) (v_X4_nerveOf R v1) (v_X4_nerveOf R v4) 0 (if (v_X4_comesTo P R v4 0 (v_X4_nerveOf R v1) 0) = 1 then (1 : Int32) else 0))) ≤ v3 then v3 else (if (v_X4_slowAt P R v1 (R.1 6) (v_X4_nerveOf R v1) (v_X4_nerveOf R v4) 0 (if (v_X4_comesTo P R v4 0 (v_X4_nerveOf R v1) 0) = 1 then (1 : Int32) else 0)) = (-1) then 21 else (v_X4_slowAt P R v1 (R.1 6) (v_X4_nerveOf R v1) (v_X4_nerveOf R v4) 0 (if (v_X4_comesTo P R v4 0 (v_X4_nerveOf R v1) 0) = 1 then (1 : Int32) else 0)))) → Z k_X6_leader G Γ (wr G A Γ.2.2.1.1.heap (maW G a N ++ rdW G (sh a 10) R)) 0 0 [(7, .int (if (v_X4_slowAt P R v1 (R.1 6) (v_X4_nerveOf R v1) (v_X4_nerveOf R v4) 0 (if (v_X4_comesTo P R v4 0 (v_X4_nerveOf R v1) 0) = 1 then (1 : Int32) else 0)) = (-1) then 21 else (v_X4_slowAt P R v1 (R.1 6) (v_X4_nerveOf R v1) (v_X4_nerveOf R v4) 0 (if (v_X4_comesTo P R v4 0 (v_X4_nerveOf R v1) 0) = 1 then (1 : Int32) else 0)))), (6, .int (v_X4_slowAt P R v1 (R.1 6) (v_X4_nerveOf R v1) (v_X4_nerveOf R v4) 0 (if (v_X4_comesTo P R v4 0 (v_X4_nerveOf R v1) 0) = 1 then (1 : Int32) else 0))), (5, .int (if (v_X4_comesTo P R v4 0 (v_X4_nerveOf R v1) 0) = 1 then (1 : Int32) else 0)), (0, .ref (a 0)), (1, .int v1), (2, .int m32), (3, .int m33), (4, .int v4)] 142 [] := by
              intro m32 em32 m33 em33
              rewrite [em32]; clear em32
              rewrite [em33]; clear em33
              exact z_lv rfl (J36 _ (if_neg c21).symm _ (if_neg c21).symm)
            refine z_icmp_le (tgt := 142) dX6_leader_133 (by decide) (fun c31 => ?_) (fun c31 => ?_)
            · skip
              exact z_lv rfl (J39 _ (if_pos c31).symm _ (if_pos c31).symm)
            · skip
              refine z_iload dX6_leader_136 rfl ?_
              refine z_istore_n (lv' := [(2, .int v4), (7, .int (if (v_X4_slowAt P R v1 (R.1 6) (v_X4_nerveOf R v1) (v_X4_nerveOf R v4) 0 (if (v_X4_comesTo P R v4 0 (v_X4_nerveOf R v1) 0) = 1 then (1 : Int32) else 0)) = (-1) then 21 else (v_X4_slowAt P R v1 (R.1 6) (v_X4_nerveOf R v1) (v_X4_nerveOf R v4) 0 (if (v_X4_comesTo P R v4 0 (v_X4_nerveOf R v1) 0) = 1 then (1 : Int32) else 0)))), (6, .int (v_X4_slowAt P R v1 (R.1 6) (v_X4_nerveOf R v1) (v_X4_nerveOf R v4) 0 (if (v_X4_comesTo P R v4 0 (v_X4_nerveOf R v1) 0) = 1 then (1 : Int32) else 0))), (5, .int (if (v_X4_comesTo P R v4 0 (v_X4_nerveOf R v1) 0) = 1 then (1 : Int32) else 0)), (0, .ref (a 0)), (1, .int v1), (3, .int v3), (4, .int v4)]) dX6_leader_138 (Nat.le_of_ble_eq_true rfl) rfl ?_
              refine z_iload dX6_leader_139 rfl ?_
              refine z_istore_n (lv' := [(3, .int (if (v_X4_slowAt P R v1 (R.1 6) (v_X4_nerveOf R v1) (v_X4_nerveOf R v4) 0 (if (v_X4_comesTo P R v4 0 (v_X4_nerveOf R v1) 0) = 1 then (1 : Int32) else 0)) = (-1) then 21 else (v_X4_slowAt P R v1 (R.1 6) (v_X4_nerveOf R v1) (v_X4_nerveOf R v4) 0 (if (v_X4_comesTo P R v4 0 (v_X4_nerveOf R v1) 0) = 1 then (1 : Int32) else 0)))), (2, .int v4), (7, .int (if (v_X4_slowAt P R v1 (R.1 6) (v_X4_nerveOf R v1) (v_X4_nerveOf R v4) 0 (if (v_X4_comesTo P R v4 0 (v_X4_nerveOf R v1) 0) = 1 then (1 : Int32) else 0)) = (-1) then 21 else (v_X4_slowAt P R v1 (R.1 6) (v_X4_nerveOf R v1) (v_X4_nerveOf R v4) 0 (if (v_X4_comesTo P R v4 0 (v_X4_nerveOf R v1) 0) = 1 then (1 : Int32) else 0)))), (6, .int (v_X4_slowAt P R v1 (R.1 6) (v_X4_nerveOf R v1) (v_X4_nerveOf R v4) 0 (if (v_X4_comesTo P R v4 0 (v_X4_nerveOf R v1) 0) = 1 then (1 : Int32) else 0))), (5, .int (if (v_X4_comesTo P R v4 0 (v_X4_nerveOf R v1) 0) = 1 then (1 : Int32) else 0)), (0, .ref (a 0)), (1, .int v1), (4, .int v4)]) dX6_leader_141 (Nat.le_of_ble_eq_true rfl) rfl ?_
              exact z_lv rfl (J39 _ (if_neg c31).symm _ (if_neg c31).symm)
          refine z_icmp_ne (tgt := 126) dX6_leader_118 (by decide) (fun c29 => ?_) (fun c29 => ?_)
          · skip
            refine z_iload dX6_leader_126 rfl ?_
            exact z_lv rfl (J38 _ (if_neg c29).symm)
          · skip
            refine z_bipush (v := 21) dX6_leader_121 rfl ?_
            refine z_goto (tgt := 128) dX6_leader_123 (by decide) ?_
            exact z_lv rfl (J38 _ (if_pos c29).symm)
        refine z_icmp_ne (tgt := 75) dX6_leader_68 (by decide) (fun c24 => ?_) (fun c24 => ?_)
        · skip
          refine z_iconst (v := 0) dX6_leader_75 rfl ?_
          exact z_lv rfl (J37 _ (if_neg c24).symm)
        · skip
          refine z_iconst (v := 1) dX6_leader_71 rfl ?_
          refine z_goto (tgt := 76) dX6_leader_72 (by decide) ?_
          exact z_lv rfl (J37 _ (if_pos c24).symm)
      · have hp := ip_t hpm c21
        refine z_goto (tgt := 142) dX6_leader_45 (by decide) ?_
        exact z_lv rfl (J36 _ (if_pos c21).symm _ (if_pos c21).symm)
set_option maxHeartbeats 800000 in
theorem c_X6_leader {l : Launch} (G : zG) (P : pT) (a : Nat → Nat) (sz : Nat) (N : nT) (R : rT) (x1 : Int32) (hp : p_X6_leader P N R x1) : Met l yX6_leader (.code yX6_leader k_X6_leader.1 k_X6_leader.2.1 k_X6_leader.2.2.2.1 :: TS) k_X6_leader.2.2.2.2 (Pz G [.ref (a 0), .int x1] (Fw G (gX G P) (maW G a N ++ rdW G (sh a 10) R) sz)) (Qwi G (fun r w => r = (v_X6_leader P N R x1).1 ∧ w = maW G a ((v_X6_leader P N R x1).2) ++ rdW G (sh a 10) R) (va_A (maW G a N ++ rdW G (sh a 10) R) sz)) 0 0 (va_A (maW G a N ++ rdW G (sh a 10) R) sz) := by
  refine zmet (K := k_X6_leader) (by decide +kernel) rfl rfl (fun Γ hl0 hQ hN hF => ?_)
  refine z_start (gX_ok G P) hF (fun hw => ?_)
  generalize va_A (maW G a N ++ rdW G (sh a 10) R) sz = A at hQ hw ⊢
  obtain ⟨res, hv⟩ : ∃ res, v_X6_leader P N R x1 = res := ⟨_, rfl⟩
  rw [hv] at hQ
  unfold v_X6_leader at hv
  unfold p_X6_leader at hp
  show Z k_X6_leader G Γ _ 0 0 [(0, .ref (a 0)), (1, .int x1)] 0 []
  refine z_aload_n dX6_leader_0 rfl ?_
  refine z_get (v := .ref ((sh a 10) 0)) wr_P 0 rfl rfl uin_X6 0 (Nat.le_of_ble_eq_true rfl) tw_f_RX6_10 rfl rfl dX6_leader_1 ?_
  refine z_iload_n dX6_leader_4 rfl ?_
  obtain ⟨q1, hp⟩ := hp
  refine z_cvi (c_X4_has G P (sh a 10) R x1 q1) zc_X4_has zv_X4_has tw_m_RX6_121 (zrec_of wr_P 3 rfl rfl) (fr_all (sub_P wr_P [3, 4, 5, 6, 7] rfl) (wr_G hw)) (zroom_of rfl) rfl (Nat.le_of_ble_eq_true rfl) dX6_leader_5 ?_
  refine z_if_ne (tgt := 20) dX6_leader_8 (by decide) (fun c2 => ?_) (fun c2 => ?_)
  · have hp := ip_f hp c2; have hv := it_f hv c2
    refine z_iconst (v := (-1)) dX6_leader_20 rfl ?_
    refine z_istore_n (lv' := [(2, .int (-1)), (0, .ref (a 0)), (1, .int x1)]) dX6_leader_21 (Nat.le_of_ble_eq_true rfl) rfl ?_
    refine z_iconst (v := (-1)) dX6_leader_22 rfl ?_
    refine z_istore_n (lv' := [(3, .int (-1)), (2, .int (-1)), (0, .ref (a 0)), (1, .int x1)]) dX6_leader_23 (Nat.le_of_ble_eq_true rfl) rfl ?_
    refine z_iconst (v := 0) dX6_leader_24 rfl ?_
    refine z_istore (lv' := [(4, .int 0), (3, .int (-1)), (2, .int (-1)), (0, .ref (a 0)), (1, .int x1)]) dX6_leader_25 (Nat.le_of_ble_eq_true rfl) rfl ?_
    exact z_lv rfl ((w_X6_leader a R hw hQ 200) N x1 (-1) (-1) 0 hp hv)
  · have hp := ip_t hp c2; have hv := it_t hv c2
    refine z_aload_n dX6_leader_11 rfl ?_
    refine z_iconst (v := 1) dX6_leader_12 rfl ?_
    have q3 := hp
    refine z_cwviD (ws' := maW G a ((v_X6_refuse N 1).2) ++ rdW G (sh a 10) R) hw (fun sz => c_X6_refuse G P a sz N 1 q3) [0, 1, 2] [3, 4, 5, 6, 7] [5, 6, 7, 0, 1, 2, 3, 4] 8 rfl rfl rfl rfl zc_X6_refuse zv_X6_refuse tw_m_RX6_70 (zrec_of wr_P 0 rfl rfl) (zroom_of rfl) rfl (Nat.le_of_ble_eq_true rfl) dX6_leader_13 ?_
    suffices z40 : ∀ q4 : Int32 × nT, q4 = (v_X6_refuse N 1) → Z k_X6_leader G Γ (wr G A Γ.2.2.1.1.heap (maW G a q4.2 ++ rdW G (sh a 10) R)) 0 0 [(0, .ref (a 0)), (1, .int x1)] 16 [.int q4.1] from z40 _ rfl
    intro q4 hq4
    have hv := kk_vq hv hq4
    clear hq4
    refine z_bipush (v := 10) dX6_leader_16 rfl ?_
    refine z_isub dX6_leader_18 ?_
    subst hv; exact z_iret_W hQ rfl rfl rfl ⟨rfl, rfl⟩ dX6_leader_19
theorem dX6_rest_0 : decode cX6_rest 0 = .ok (.iload_n 1, 1) := by decide +kernel
theorem dX6_rest_1 : decode cX6_rest 1 = .ok (.iconst 2, 1) := by decide +kernel
theorem dX6_rest_2 : decode cX6_rest 2 = .ok (.if_icmp .lt 10, 3) := by decide +kernel
theorem dX6_rest_5 : decode cX6_rest 5 = .ok (.iload_n 1, 1) := by decide +kernel
theorem dX6_rest_6 : decode cX6_rest 6 = .ok (.sipush 999, 3) := by decide +kernel
theorem dX6_rest_9 : decode cX6_rest 9 = .ok (.if_icmp .le 10, 3) := by decide +kernel
theorem dX6_rest_12 : decode cX6_rest 12 = .ok (.aload_n 0, 1) := by decide +kernel
theorem dX6_rest_13 : decode cX6_rest 13 = .ok (.bipush 6, 2) := by decide +kernel
theorem dX6_rest_15 : decode cX6_rest 15 = .ok (.invokevirtual 70, 3) := by decide +kernel
theorem dX6_rest_18 : decode cX6_rest 18 = .ok (.ireturn, 1) := by decide +kernel
theorem dX6_rest_19 : decode cX6_rest 19 = .ok (.iload_n 1, 1) := by decide +kernel
theorem dX6_rest_20 : decode cX6_rest 20 = .ok (.aload_n 0, 1) := by decide +kernel
theorem dX6_rest_21 : decode cX6_rest 21 = .ok (.getfield 10, 3) := by decide +kernel
theorem dX6_rest_24 : decode cX6_rest 24 = .ok (.getfield 166, 3) := by decide +kernel
theorem dX6_rest_27 : decode cX6_rest 27 = .ok (.if_icmp .gt 9, 3) := by decide +kernel
theorem dX6_rest_30 : decode cX6_rest 30 = .ok (.sipush 1000, 3) := by decide +kernel
theorem dX6_rest_33 : decode cX6_rest 33 = .ok (.goto 16, 3) := by decide +kernel
theorem dX6_rest_36 : decode cX6_rest 36 = .ok (.sipush 1000, 3) := by decide +kernel
theorem dX6_rest_39 : decode cX6_rest 39 = .ok (.aload_n 0, 1) := by decide +kernel
theorem dX6_rest_40 : decode cX6_rest 40 = .ok (.getfield 10, 3) := by decide +kernel
theorem dX6_rest_43 : decode cX6_rest 43 = .ok (.getfield 166, 3) := by decide +kernel
theorem dX6_rest_46 : decode cX6_rest 46 = .ok (.imul, 1) := by decide +kernel
theorem dX6_rest_47 : decode cX6_rest 47 = .ok (.iload_n 1, 1) := by decide +kernel
theorem dX6_rest_48 : decode cX6_rest 48 = .ok (.idiv, 1) := by decide +kernel
theorem dX6_rest_49 : decode cX6_rest 49 = .ok (.ireturn, 1) := by decide +kernel
abbrev k_X6_rest : zK := (cX6_rest, 2, RX6, (some .int), ({ frames := 1, cells := 0, slots := 0, locals := 21 } : Room))
theorem zc_X6_rest : zcal yX6_rest k_X6_rest.1 k_X6_rest.2.1 k_X6_rest.2.2.2.1 1 := ⟨tw_code_yX6_rest, tw_i_TollForHesitators, ⟨by decide +kernel, by decide +kernel⟩, by decide +kernel⟩
theorem zv_X6_rest : Cond.instanceMethod yX6_rest ∈ TS ∧ Cond.selects RX6 yX6_rest yX6_rest ∈ TS := ⟨tw_inst_yX6_rest, tw_s_yX6_rest⟩
def v_X6_rest (N : nT) (R : rT) (x1 : Int32) : Int32 × nT := if x1 < 2 then kk (v_X6_refuse N 6) (fun q3 : Int32 × nT => (q3.1, q3.2)) else if x1 ≤ 999 then ((if (R.1 7) < x1 then (1000 * (R.1 7)) / x1 else 1000), N) else kk (v_X6_refuse N 6) (fun q9 : Int32 × nT => (q9.1, q9.2))
def p_X6_rest (N : nT) (R : rT) (x1 : Int32) : Prop := if x1 < 2 then p_X6_refuse N 6 else if x1 ≤ 999 then if (R.1 7) < x1 then ¬ x1 = 0 else True else p_X6_refuse N 6
set_option maxHeartbeats 800000 in
theorem c_X6_rest {l : Launch} (G : zG) (P : pT) (a : Nat → Nat) (sz : Nat) (N : nT) (R : rT) (x1 : Int32) (hp : p_X6_rest N R x1) : Met l yX6_rest (.code yX6_rest k_X6_rest.1 k_X6_rest.2.1 k_X6_rest.2.2.2.1 :: TS) k_X6_rest.2.2.2.2 (Pz G [.ref (a 0), .int x1] (Fw G (gX G P) (maW G a N ++ rdW G (sh a 10) R) sz)) (Qwi G (fun r w => r = (v_X6_rest N R x1).1 ∧ w = maW G a ((v_X6_rest N R x1).2) ++ rdW G (sh a 10) R) (va_A (maW G a N ++ rdW G (sh a 10) R) sz)) 0 0 (va_A (maW G a N ++ rdW G (sh a 10) R) sz) := by
  refine zmet (K := k_X6_rest) (by decide +kernel) rfl rfl (fun Γ hl0 hQ hN hF => ?_)
  refine z_start (gX_ok G P) hF (fun hw => ?_)
  generalize va_A (maW G a N ++ rdW G (sh a 10) R) sz = A at hQ hw ⊢
  obtain ⟨res, hv⟩ : ∃ res, v_X6_rest N R x1 = res := ⟨_, rfl⟩
  rw [hv] at hQ
  unfold v_X6_rest at hv
  unfold p_X6_rest at hp
  show Z k_X6_rest G Γ _ 0 0 [(0, .ref (a 0)), (1, .int x1)] 0 []
  refine z_iload_n dX6_rest_0 rfl ?_
  refine z_iconst (v := 2) dX6_rest_1 rfl ?_
  refine z_icmp_lt (tgt := 12) dX6_rest_2 (by decide) (fun c1 => ?_) (fun c1 => ?_)
  · have hp := ip_t hp c1; have hv := it_t hv c1
    refine z_aload_n dX6_rest_12 rfl ?_
    refine z_bipush (v := 6) dX6_rest_13 rfl ?_
    have q2 := hp
    refine z_cwviD (ws' := maW G a ((v_X6_refuse N 6).2) ++ rdW G (sh a 10) R) hw (fun sz => c_X6_refuse G P a sz N 6 q2) [0, 1, 2] [3, 4, 5, 6, 7] [5, 6, 7, 0, 1, 2, 3, 4] 8 rfl rfl rfl rfl zc_X6_refuse zv_X6_refuse tw_m_RX6_70 (zrec_of wr_P 0 rfl rfl) (zroom_of rfl) rfl (Nat.le_of_ble_eq_true rfl) dX6_rest_15 ?_
    suffices z10 : ∀ q3 : Int32 × nT, q3 = (v_X6_refuse N 6) → Z k_X6_rest G Γ (wr G A Γ.2.2.1.1.heap (maW G a q3.2 ++ rdW G (sh a 10) R)) 0 0 [(0, .ref (a 0)), (1, .int x1)] 18 [.int q3.1] from z10 _ rfl
    intro q3 hq3
    have hv := kk_vq hv hq3
    clear hq3
    subst hv; exact z_iret_W hQ rfl rfl rfl ⟨rfl, rfl⟩ dX6_rest_18
  · have hp := ip_f hp c1; have hv := it_f hv c1
    refine z_iload_n dX6_rest_5 rfl ?_
    refine z_sipush (v := 999) dX6_rest_6 rfl ?_
    refine z_icmp_le (tgt := 19) dX6_rest_9 (by decide) (fun c4 => ?_) (fun c4 => ?_)
    · have hp := ip_t hp c4; have hv := it_t hv c4
      refine z_iload_n dX6_rest_19 rfl ?_
      refine z_aload_n dX6_rest_20 rfl ?_
      refine z_get (v := .ref ((sh a 10) 0)) wr_P 0 rfl rfl uin_X6 0 (Nat.le_of_ble_eq_true rfl) tw_f_RX6_10 rfl rfl dX6_rest_21 ?_
      refine z_get (v := .int (R.1 7)) wr_P 3 rfl rfl uin_X4 7 (Nat.le_of_ble_eq_true rfl) tw_f_RX6_166 rfl rfl dX6_rest_24 ?_
      have hpm := hp
      have J11 : ∀ m7 : Int32, m7 = (if (R.1 7) < x1 then (1000 * (R.1 7)) / x1 else 1000) → Z k_X6_rest G Γ (wr G A Γ.2.2.1.1.heap (maW G a N ++ rdW G (sh a 10) R)) 0 0 [(0, .ref (a 0)), (1, .int x1)] 49 [.int m7] := by
        intro m7 em7
        rewrite [em7]; clear em7
        subst hv; exact z_iret_W hQ rfl rfl rfl ⟨rfl, rfl⟩ dX6_rest_49
      refine z_icmp_gt (tgt := 36) dX6_rest_27 (by decide) (fun c5 => ?_) (fun c5 => ?_)
      · have hp := ip_t hpm c5
        refine z_sipush (v := 1000) dX6_rest_36 rfl ?_
        refine z_aload_n dX6_rest_39 rfl ?_
        refine z_get (v := .ref ((sh a 10) 0)) wr_P 0 rfl rfl uin_X6 0 (Nat.le_of_ble_eq_true rfl) tw_f_RX6_10 rfl rfl dX6_rest_40 ?_
        refine z_get (v := .int (R.1 7)) wr_P 3 rfl rfl uin_X4 7 (Nat.le_of_ble_eq_true rfl) tw_f_RX6_166 rfl rfl dX6_rest_43 ?_
        refine z_imul dX6_rest_46 ?_
        refine z_iload_n dX6_rest_47 rfl ?_
        have q6 := hp
        refine z_idiv dX6_rest_48 q6 ?_
        exact z_lv rfl (J11 _ (if_pos c5).symm)
      · have hp := ip_f hpm c5
        refine z_sipush (v := 1000) dX6_rest_30 rfl ?_
        refine z_goto (tgt := 49) dX6_rest_33 (by decide) ?_
        exact z_lv rfl (J11 _ (if_neg c5).symm)
    · have hp := ip_f hp c4; have hv := it_f hv c4
      refine z_aload_n dX6_rest_12 rfl ?_
      refine z_bipush (v := 6) dX6_rest_13 rfl ?_
      have q8 := hp
      refine z_cwviD (ws' := maW G a ((v_X6_refuse N 6).2) ++ rdW G (sh a 10) R) hw (fun sz => c_X6_refuse G P a sz N 6 q8) [0, 1, 2] [3, 4, 5, 6, 7] [5, 6, 7, 0, 1, 2, 3, 4] 8 rfl rfl rfl rfl zc_X6_refuse zv_X6_refuse tw_m_RX6_70 (zrec_of wr_P 0 rfl rfl) (zroom_of rfl) rfl (Nat.le_of_ble_eq_true rfl) dX6_rest_15 ?_
      suffices z12 : ∀ q9 : Int32 × nT, q9 = (v_X6_refuse N 6) → Z k_X6_rest G Γ (wr G A Γ.2.2.1.1.heap (maW G a q9.2 ++ rdW G (sh a 10) R)) 0 0 [(0, .ref (a 0)), (1, .int x1)] 18 [.int q9.1] from z12 _ rfl
      intro q9 hq9
      have hv := kk_vq hv hq9
      clear hq9
      subst hv; exact z_iret_W hQ rfl rfl rfl ⟨rfl, rfl⟩ dX6_rest_18
theorem dX6_painted_0 : decode cX6_painted 0 = .ok (.iload_n 1, 1) := by decide +kernel
theorem dX6_painted_1 : decode cX6_painted 1 = .ok (.iconst 0, 1) := by decide +kernel
theorem dX6_painted_2 : decode cX6_painted 2 = .ok (.sipush 1000, 3) := by decide +kernel
theorem dX6_painted_5 : decode cX6_painted 5 = .ok (.invokestatic 74, 3) := by decide +kernel
theorem dX6_painted_8 : decode cX6_painted 8 = .ok (.ifCond .eq 24, 3) := by decide +kernel
theorem dX6_painted_11 : decode cX6_painted 11 = .ok (.iload_n 3, 1) := by decide +kernel
theorem dX6_painted_12 : decode cX6_painted 12 = .ok (.iconst 0, 1) := by decide +kernel
theorem dX6_painted_13 : decode cX6_painted 13 = .ok (.sipush 1000, 3) := by decide +kernel
theorem dX6_painted_16 : decode cX6_painted 16 = .ok (.invokestatic 74, 3) := by decide +kernel
theorem dX6_painted_19 : decode cX6_painted 19 = .ok (.ifCond .eq 13, 3) := by decide +kernel
theorem dX6_painted_22 : decode cX6_painted 22 = .ok (.iload_n 2, 1) := by decide +kernel
theorem dX6_painted_23 : decode cX6_painted 23 = .ok (.iconst 0, 1) := by decide +kernel
theorem dX6_painted_24 : decode cX6_painted 24 = .ok (.bipush 20, 2) := by decide +kernel
theorem dX6_painted_26 : decode cX6_painted 26 = .ok (.invokestatic 74, 3) := by decide +kernel
theorem dX6_painted_29 : decode cX6_painted 29 = .ok (.ifCond .ne 10, 3) := by decide +kernel
theorem dX6_painted_32 : decode cX6_painted 32 = .ok (.aload_n 0, 1) := by decide +kernel
theorem dX6_painted_33 : decode cX6_painted 33 = .ok (.bipush 6, 2) := by decide +kernel
theorem dX6_painted_35 : decode cX6_painted 35 = .ok (.invokevirtual 70, 3) := by decide +kernel
theorem dX6_painted_38 : decode cX6_painted 38 = .ok (.ireturn, 1) := by decide +kernel
theorem dX6_painted_39 : decode cX6_painted 39 = .ok (.iload_n 1, 1) := by decide +kernel
theorem dX6_painted_40 : decode cX6_painted 40 = .ok (.i2l, 1) := by decide +kernel
theorem dX6_painted_41 : decode cX6_painted 41 = .ok (.ldc2_w 284, 3) := by decide +kernel
theorem dX6_painted_44 : decode cX6_painted 44 = .ok (.lmul, 1) := by decide +kernel
theorem dX6_painted_45 : decode cX6_painted 45 = .ok (.lstore 4, 2) := by decide +kernel
theorem dX6_painted_47 : decode cX6_painted 47 = .ok (.sipush 1000, 3) := by decide +kernel
theorem dX6_painted_50 : decode cX6_painted 50 = .ok (.iload_n 1, 1) := by decide +kernel
theorem dX6_painted_51 : decode cX6_painted 51 = .ok (.isub, 1) := by decide +kernel
theorem dX6_painted_52 : decode cX6_painted 52 = .ok (.i2l, 1) := by decide +kernel
theorem dX6_painted_53 : decode cX6_painted 53 = .ok (.ldc2_w 284, 3) := by decide +kernel
theorem dX6_painted_56 : decode cX6_painted 56 = .ok (.lmul, 1) := by decide +kernel
theorem dX6_painted_57 : decode cX6_painted 57 = .ok (.lstore 6, 2) := by decide +kernel
theorem dX6_painted_59 : decode cX6_painted 59 = .ok (.iconst 0, 1) := by decide +kernel
theorem dX6_painted_60 : decode cX6_painted 60 = .ok (.istore 8, 2) := by decide +kernel
theorem dX6_painted_62 : decode cX6_painted 62 = .ok (.iload 8, 2) := by decide +kernel
theorem dX6_painted_64 : decode cX6_painted 64 = .ok (.iload_n 2, 1) := by decide +kernel
theorem dX6_painted_65 : decode cX6_painted 65 = .ok (.if_icmp .ge 20, 3) := by decide +kernel
theorem dX6_painted_68 : decode cX6_painted 68 = .ok (.lload 6, 2) := by decide +kernel
theorem dX6_painted_70 : decode cX6_painted 70 = .ok (.iload_n 3, 1) := by decide +kernel
theorem dX6_painted_71 : decode cX6_painted 71 = .ok (.i2l, 1) := by decide +kernel
theorem dX6_painted_72 : decode cX6_painted 72 = .ok (.lmul, 1) := by decide +kernel
theorem dX6_painted_73 : decode cX6_painted 73 = .ok (.ldc2_w 284, 3) := by decide +kernel
theorem dX6_painted_76 : decode cX6_painted 76 = .ok (.ldiv, 1) := by decide +kernel
theorem dX6_painted_77 : decode cX6_painted 77 = .ok (.lstore 6, 2) := by decide +kernel
theorem dX6_painted_79 : decode cX6_painted 79 = .ok (.iinc 8 1, 3) := by decide +kernel
theorem dX6_painted_82 : decode cX6_painted 82 = .ok (.goto (-20), 3) := by decide +kernel
theorem dX6_painted_85 : decode cX6_painted 85 = .ok (.lload 4, 2) := by decide +kernel
theorem dX6_painted_87 : decode cX6_painted 87 = .ok (.lload 6, 2) := by decide +kernel
theorem dX6_painted_89 : decode cX6_painted 89 = .ok (.ladd, 1) := by decide +kernel
theorem dX6_painted_90 : decode cX6_painted 90 = .ok (.lstore 8, 2) := by decide +kernel
theorem dX6_painted_92 : decode cX6_painted 92 = .ok (.lload 8, 2) := by decide +kernel
theorem dX6_painted_94 : decode cX6_painted 94 = .ok (.lconst 0, 1) := by decide +kernel
theorem dX6_painted_95 : decode cX6_painted 95 = .ok (.lcmp, 1) := by decide +kernel
theorem dX6_painted_96 : decode cX6_painted 96 = .ok (.ifCond .gt 7, 3) := by decide +kernel
theorem dX6_painted_99 : decode cX6_painted 99 = .ok (.iconst 0, 1) := by decide +kernel
theorem dX6_painted_100 : decode cX6_painted 100 = .ok (.goto 13, 3) := by decide +kernel
theorem dX6_painted_103 : decode cX6_painted 103 = .ok (.lload 4, 2) := by decide +kernel
theorem dX6_painted_105 : decode cX6_painted 105 = .ok (.ldc2_w 284, 3) := by decide +kernel
theorem dX6_painted_108 : decode cX6_painted 108 = .ok (.lmul, 1) := by decide +kernel
theorem dX6_painted_109 : decode cX6_painted 109 = .ok (.lload 8, 2) := by decide +kernel
theorem dX6_painted_111 : decode cX6_painted 111 = .ok (.ldiv, 1) := by decide +kernel
theorem dX6_painted_112 : decode cX6_painted 112 = .ok (.l2i, 1) := by decide +kernel
theorem dX6_painted_113 : decode cX6_painted 113 = .ok (.ireturn, 1) := by decide +kernel
abbrev k_X6_painted : zK := (cX6_painted, 10, RX6, (some .int), ({ frames := 1, cells := 0, slots := 0, locals := 22 } : Room))
theorem zc_X6_painted : zcal yX6_painted k_X6_painted.1 k_X6_painted.2.1 k_X6_painted.2.2.2.1 3 := ⟨tw_code_yX6_painted, tw_i_TollForHesitators, ⟨by decide +kernel, by decide +kernel⟩, by decide +kernel⟩
theorem zv_X6_painted : Cond.instanceMethod yX6_painted ∈ TS ∧ Cond.selects RX6 yX6_painted yX6_painted ∈ TS := ⟨tw_inst_yX6_painted, tw_s_yX6_painted⟩
def v_X6_painted_r : Nat → nT → Int32 → Int32 → Int64 → Int64 → Int32 → Int32 × nT
  | 0, N, _, _, _, _, _ => (0, N)
  | n + 1, N, v2, v3, v4, v6, v8 => if v2 ≤ v8 then ((if 0 < (lg_cmp (v4 + v6) 0) then ((v4 * 1000) / (v4 + v6)).toInt32 else 0), N) else v_X6_painted_r n N v2 v3 v4 ((v6 * v3.toInt64) / 1000) (v8 + 1)
def p_X6_painted_r : Nat → nT → Int32 → Int32 → Int64 → Int64 → Int32 → Prop
  | 0, _, _, _, _, _, _ => False
  | n + 1, N, v2, v3, v4, v6, v8 => if v2 ≤ v8 then if 0 < (lg_cmp (v4 + v6) 0) then ¬ (v4 + v6) = 0 else True else p_X6_painted_r n N v2 v3 v4 ((v6 * v3.toInt64) / 1000) (v8 + 1)
def v_X6_painted (N : nT) (x1 : Int32) (x2 : Int32) (x3 : Int32) : Int32 × nT := if (v_X6_within x1 0 1000) = 0 then kk (v_X6_refuse N 6) (fun q3 : Int32 × nT => (q3.1, q3.2)) else if (v_X6_within x3 0 1000) = 0 then kk (v_X6_refuse N 6) (fun q6 : Int32 × nT => (q6.1, q6.2)) else if (v_X6_within x2 0 20) = 0 then kk (v_X6_refuse N 6) (fun q9 : Int32 × nT => (q9.1, q9.2)) else v_X6_painted_r 200 N x2 x3 (x1.toInt64 * 1000) (((1000 - x1).toInt64) * 1000) 0
def p_X6_painted (N : nT) (x1 : Int32) (x2 : Int32) (x3 : Int32) : Prop := if (v_X6_within x1 0 1000) = 0 then p_X6_refuse N 6 else if (v_X6_within x3 0 1000) = 0 then p_X6_refuse N 6 else if (v_X6_within x2 0 20) = 0 then p_X6_refuse N 6 else p_X6_painted_r 200 N x2 x3 (x1.toInt64 * 1000) (((1000 - x1).toInt64) * 1000) 0
set_option maxHeartbeats 800000 in
theorem w_X6_painted {G : zG} {P : pT} {Γ : zT} {A : Nat → Prop} {res : Int32 × nT} (a : Nat → Nat) (hw : wk (gX G P) A Γ.2.2.1.1.heap) (hQ : zQ Γ (Qwi G (fun r w => r = (res).1 ∧ w = maW G a ((res).2)) A) 0 0 A) : ∀ n : Nat, (∀ (N : nT) (v2 : Int32) (v3 : Int32) (v4 : Int64) (v6 : Int64) (v8 : Int32), p_X6_painted_r n N v2 v3 v4 v6 v8 → v_X6_painted_r n N v2 v3 v4 v6 v8 = res → Z k_X6_painted G Γ (wr G A Γ.2.2.1.1.heap (maW G a N)) 0 0 [(0, .ref (a 0)), (2, .int v2), (3, .int v3), (4, .long v4), (6, .long v6), (8, .int v8)] 62 []) := by
  intro n
  induction n with
  | zero => exact fun N v2 v3 v4 v6 v8 hp => absurd hp (by rw [p_X6_painted_r]; exact not_false)
  | succ n ih =>
    intro N v2 v3 v4 v6 v8 hp hv
    rw [p_X6_painted_r] at hp
    rw [v_X6_painted_r] at hv
    refine z_iload dX6_painted_62 rfl ?_
    refine z_iload_n dX6_painted_64 rfl ?_
    refine z_icmp_ge (tgt := 85) dX6_painted_65 (by decide) (fun c10 => ?_) (fun c10 => ?_)
    · have hp := ip_t hp c10; have hv := it_t hv c10
      refine z_lload dX6_painted_85 rfl ?_
      refine z_lload dX6_painted_87 rfl ?_
      refine z_ladd dX6_painted_89 ?_
      refine z_lstore (lv' := [(8, .long (v4 + v6)), (0, .ref (a 0)), (2, .int v2), (3, .int v3), (4, .long v4), (6, .long v6)]) dX6_painted_90 (Nat.le_of_ble_eq_true rfl) rfl ?_
      refine z_lload dX6_painted_92 rfl ?_
      refine z_lconst (v := 0) dX6_painted_94 rfl ?_
      refine z_lcmp dX6_painted_95 ?_
      have hpm := hp
      have J14 : ∀ m13 : Int32, m13 = (if 0 < (lg_cmp (v4 + v6) 0) then ((v4 * 1000) / (v4 + v6)).toInt32 else 0) → Z k_X6_painted G Γ (wr G A Γ.2.2.1.1.heap (maW G a N)) 0 0 [(8, .long (v4 + v6)), (0, .ref (a 0)), (2, .int v2), (3, .int v3), (4, .long v4), (6, .long v6)] 113 [.int m13] := by
        intro m13 em13
        rewrite [em13]; clear em13
        subst hv; exact z_iret_W hQ rfl rfl rfl ⟨rfl, rfl⟩ dX6_painted_113
      refine z_if_gt (tgt := 103) dX6_painted_96 (by decide) (fun c11 => ?_) (fun c11 => ?_)
      · have hp := ip_t hpm c11
        refine z_lload dX6_painted_103 rfl ?_
        refine z_ldc2 tw_l_RX6_284 dX6_painted_105 ?_
        refine z_lmul dX6_painted_108 ?_
        refine z_lload dX6_painted_109 rfl ?_
        have q12 := hp
        refine z_ldiv dX6_painted_111 q12 ?_
        refine z_l2i dX6_painted_112 ?_
        exact z_lv rfl (J14 _ (if_pos c11).symm)
      · have hp := ip_f hpm c11
        refine z_iconst (v := 0) dX6_painted_99 rfl ?_
        refine z_goto (tgt := 113) dX6_painted_100 (by decide) ?_
        exact z_lv rfl (J14 _ (if_neg c11).symm)
    · have hp := ip_f hp c10; have hv := it_f hv c10
      refine z_lload dX6_painted_68 rfl ?_
      refine z_iload_n dX6_painted_70 rfl ?_
      refine z_i2l dX6_painted_71 ?_
      refine z_lmul dX6_painted_72 ?_
      refine z_ldc2 tw_l_RX6_284 dX6_painted_73 ?_
      refine z_ldiv dX6_painted_76 (by decide) ?_
      refine z_lstore (lv' := [(6, .long ((v6 * v3.toInt64) / 1000)), (0, .ref (a 0)), (2, .int v2), (3, .int v3), (4, .long v4), (8, .int v8)]) dX6_painted_77 (Nat.le_of_ble_eq_true rfl) rfl ?_
      refine z_iinc (v := v8 + 1) (lv' := [(8, .int (v8 + 1)), (6, .long ((v6 * v3.toInt64) / 1000)), (0, .ref (a 0)), (2, .int v2), (3, .int v3), (4, .long v4)]) dX6_painted_79 5 rfl rfl (Nat.le_of_ble_eq_true rfl) rfl ?_
      refine z_goto (tgt := 62) dX6_painted_82 (by decide) ?_
      exact z_lv rfl ((ih) N v2 v3 v4 ((v6 * v3.toInt64) / 1000) (v8 + 1) hp hv)
set_option maxHeartbeats 800000 in
theorem c_X6_painted {l : Launch} (G : zG) (P : pT) (a : Nat → Nat) (sz : Nat) (N : nT) (x1 : Int32) (x2 : Int32) (x3 : Int32) (hp : p_X6_painted N x1 x2 x3) : Met l yX6_painted (.code yX6_painted k_X6_painted.1 k_X6_painted.2.1 k_X6_painted.2.2.2.1 :: TS) k_X6_painted.2.2.2.2 (Pz G [.ref (a 0), .int x1, .int x2, .int x3] (Fw G (gX G P) (maW G a N) sz)) (Qwi G (fun r w => r = (v_X6_painted N x1 x2 x3).1 ∧ w = maW G a ((v_X6_painted N x1 x2 x3).2)) (va_A (maW G a N) sz)) 0 0 (va_A (maW G a N) sz) := by
  refine zmet (K := k_X6_painted) (by decide +kernel) rfl rfl (fun Γ hl0 hQ hN hF => ?_)
  refine z_start (gX_ok G P) hF (fun hw => ?_)
  generalize va_A (maW G a N) sz = A at hQ hw ⊢
  obtain ⟨res, hv⟩ : ∃ res, v_X6_painted N x1 x2 x3 = res := ⟨_, rfl⟩
  rw [hv] at hQ
  unfold v_X6_painted at hv
  unfold p_X6_painted at hp
  show Z k_X6_painted G Γ _ 0 0 [(0, .ref (a 0)), (1, .int x1), (2, .int x2), (3, .int x3)] 0 []
  refine z_iload_n dX6_painted_0 rfl ?_
  refine z_iconst (v := 0) dX6_painted_1 rfl ?_
  refine z_sipush (v := 1000) dX6_painted_2 rfl ?_
  refine z_csi (c_X6_within G P x1 0 1000 ) zc_X6_within tw_st_yX6_within tw_m_RX6_74 (fr_all (sub_P wr_P [] rfl) (wr_G hw)) (zroom_of rfl) rfl (Nat.le_of_ble_eq_true rfl) dX6_painted_5 ?_
  refine z_if_eq (tgt := 32) dX6_painted_8 (by decide) (fun c1 => ?_) (fun c1 => ?_)
  · have hp := ip_t hp c1; have hv := it_t hv c1
    refine z_aload_n dX6_painted_32 rfl ?_
    refine z_bipush (v := 6) dX6_painted_33 rfl ?_
    have q2 := hp
    refine z_caviD (W' := maW G a ((v_X6_refuse N 6).2)) hw (fun sz => c_X6_refuse G P a sz N 6 q2) zc_X6_refuse zv_X6_refuse tw_m_RX6_70 (zrec_of wr_P 0 rfl rfl) (zroom_of rfl) rfl (Nat.le_of_ble_eq_true rfl) dX6_painted_35 ?_
    suffices z15 : ∀ q3 : Int32 × nT, q3 = (v_X6_refuse N 6) → Z k_X6_painted G Γ (wr G A Γ.2.2.1.1.heap (maW G a q3.2)) 0 0 [(0, .ref (a 0)), (1, .int x1), (2, .int x2), (3, .int x3)] 38 [.int q3.1] from z15 _ rfl
    intro q3 hq3
    have hv := kk_vq hv hq3
    clear hq3
    subst hv; exact z_iret_W hQ rfl rfl rfl ⟨rfl, rfl⟩ dX6_painted_38
  · have hp := ip_f hp c1; have hv := it_f hv c1
    refine z_iload_n dX6_painted_11 rfl ?_
    refine z_iconst (v := 0) dX6_painted_12 rfl ?_
    refine z_sipush (v := 1000) dX6_painted_13 rfl ?_
    refine z_csi (c_X6_within G P x3 0 1000 ) zc_X6_within tw_st_yX6_within tw_m_RX6_74 (fr_all (sub_P wr_P [] rfl) (wr_G hw)) (zroom_of rfl) rfl (Nat.le_of_ble_eq_true rfl) dX6_painted_16 ?_
    refine z_if_eq (tgt := 32) dX6_painted_19 (by decide) (fun c4 => ?_) (fun c4 => ?_)
    · have hp := ip_t hp c4; have hv := it_t hv c4
      refine z_aload_n dX6_painted_32 rfl ?_
      refine z_bipush (v := 6) dX6_painted_33 rfl ?_
      have q5 := hp
      refine z_caviD (W' := maW G a ((v_X6_refuse N 6).2)) hw (fun sz => c_X6_refuse G P a sz N 6 q5) zc_X6_refuse zv_X6_refuse tw_m_RX6_70 (zrec_of wr_P 0 rfl rfl) (zroom_of rfl) rfl (Nat.le_of_ble_eq_true rfl) dX6_painted_35 ?_
      suffices z16 : ∀ q6 : Int32 × nT, q6 = (v_X6_refuse N 6) → Z k_X6_painted G Γ (wr G A Γ.2.2.1.1.heap (maW G a q6.2)) 0 0 [(0, .ref (a 0)), (1, .int x1), (2, .int x2), (3, .int x3)] 38 [.int q6.1] from z16 _ rfl
      intro q6 hq6
      have hv := kk_vq hv hq6
      clear hq6
      subst hv; exact z_iret_W hQ rfl rfl rfl ⟨rfl, rfl⟩ dX6_painted_38
    · have hp := ip_f hp c4; have hv := it_f hv c4
      refine z_iload_n dX6_painted_22 rfl ?_
      refine z_iconst (v := 0) dX6_painted_23 rfl ?_
      refine z_bipush (v := 20) dX6_painted_24 rfl ?_
      refine z_csi (c_X6_within G P x2 0 20 ) zc_X6_within tw_st_yX6_within tw_m_RX6_74 (fr_all (sub_P wr_P [] rfl) (wr_G hw)) (zroom_of rfl) rfl (Nat.le_of_ble_eq_true rfl) dX6_painted_26 ?_
      refine z_if_ne (tgt := 39) dX6_painted_29 (by decide) (fun c7 => ?_) (fun c7 => ?_)
      · have hp := ip_f hp c7; have hv := it_f hv c7
        refine z_iload_n dX6_painted_39 rfl ?_
        refine z_i2l dX6_painted_40 ?_
        refine z_ldc2 tw_l_RX6_284 dX6_painted_41 ?_
        refine z_lmul dX6_painted_44 ?_
        refine z_lstore (lv' := [(4, .long (x1.toInt64 * 1000)), (0, .ref (a 0)), (1, .int x1), (2, .int x2), (3, .int x3)]) dX6_painted_45 (Nat.le_of_ble_eq_true rfl) rfl ?_
        refine z_sipush (v := 1000) dX6_painted_47 rfl ?_
        refine z_iload_n dX6_painted_50 rfl ?_
        refine z_isub dX6_painted_51 ?_
        refine z_i2l dX6_painted_52 ?_
        refine z_ldc2 tw_l_RX6_284 dX6_painted_53 ?_
        refine z_lmul dX6_painted_56 ?_
        refine z_lstore (lv' := [(6, .long (((1000 - x1).toInt64) * 1000)), (4, .long (x1.toInt64 * 1000)), (0, .ref (a 0)), (1, .int x1), (2, .int x2), (3, .int x3)]) dX6_painted_57 (Nat.le_of_ble_eq_true rfl) rfl ?_
        refine z_iconst (v := 0) dX6_painted_59 rfl ?_
        refine z_istore (lv' := [(8, .int 0), (6, .long (((1000 - x1).toInt64) * 1000)), (4, .long (x1.toInt64 * 1000)), (0, .ref (a 0)), (1, .int x1), (2, .int x2), (3, .int x3)]) dX6_painted_60 (Nat.le_of_ble_eq_true rfl) rfl ?_
        exact z_lv rfl ((w_X6_painted a hw hQ 200) N x2 x3 (x1.toInt64 * 1000) (((1000 - x1).toInt64) * 1000) 0 hp hv)
      · have hp := ip_t hp c7; have hv := it_t hv c7
        refine z_aload_n dX6_painted_32 rfl ?_
        refine z_bipush (v := 6) dX6_painted_33 rfl ?_
        have q8 := hp
        refine z_caviD (W' := maW G a ((v_X6_refuse N 6).2)) hw (fun sz => c_X6_refuse G P a sz N 6 q8) zc_X6_refuse zv_X6_refuse tw_m_RX6_70 (zrec_of wr_P 0 rfl rfl) (zroom_of rfl) rfl (Nat.le_of_ble_eq_true rfl) dX6_painted_35 ?_
        suffices z17 : ∀ q9 : Int32 × nT, q9 = (v_X6_refuse N 6) → Z k_X6_painted G Γ (wr G A Γ.2.2.1.1.heap (maW G a q9.2)) 0 0 [(0, .ref (a 0)), (1, .int x1), (2, .int x2), (3, .int x3)] 38 [.int q9.1] from z17 _ rfl
        intro q9 hq9
        have hv := kk_vq hv hq9
        clear hq9
        subst hv; exact z_iret_W hQ rfl rfl rfl ⟨rfl, rfl⟩ dX6_painted_38
