theorem tw_c_RJ6_265 : Cond.constant RJ6 265 1431655765 ∈ TS := ts_mem 668 (by decide +kernel) rfl
theorem tw_c_RJ6_266 : Cond.constant RJ6 266 858993459 ∈ TS := ts_mem 669 (by decide +kernel) rfl
theorem tw_c_RJ6_267 : Cond.constant RJ6 267 252645135 ∈ TS := ts_mem 670 (by decide +kernel) rfl
theorem tw_code_yJ6_bitCount_0f7a4 : Cond.code yJ6_bitCount_0f7a4 cJ6_bitCount_0f7a4 1 (some .int) ∈ TS := ts_mem 667 (by decide +kernel) rfl
theorem tw_i_java_lang_Integer : Cond.initialized RJ6 ∈ TS := ts_mem 82 (by decide +kernel) rfl
theorem tw_f_RX4_40 : Cond.fieldLink RX4 40 RX4 "push" "I" ∈ TS := ts_mem 121 (by decide +kernel) rfl
theorem tw_f_RX4_43 : Cond.fieldLink RX4 43 RX4 "days" "I" ∈ TS := ts_mem 124 (by decide +kernel) rfl
theorem tw_f_RX4_46 : Cond.fieldLink RX4 46 RX4 "seed" "I" ∈ TS := ts_mem 126 (by decide +kernel) rfl
theorem tw_code_yX4_become : Cond.code yX4_become cX4_become 3 none ∈ TS := ts_mem 465 (by decide +kernel) rfl
theorem tw_inst_yX4_become : Cond.instanceMethod yX4_become ∈ TS := ts_mem 463 (by decide +kernel) rfl
theorem tw_s_yX4_become : Cond.selects RX4 yX4_become yX4_become ∈ TS := ts_mem 464 (by decide +kernel) rfl
theorem tw_code_yX4_together : Cond.code yX4_together cX4_together 4 (some .int) ∈ TS := ts_mem 847 (by decide +kernel) rfl
theorem tw_inst_yX4_together : Cond.instanceMethod yX4_together ∈ TS := ts_mem 845 (by decide +kernel) rfl
theorem tw_s_yX4_together : Cond.selects RX4 yX4_together yX4_together ∈ TS := ts_mem 846 (by decide +kernel) rfl
theorem tw_m_RX4_82 : Cond.methodLink RX4 82 yJ9_min_7cf53 ∈ TS := ts_mem 784 (by decide +kernel) rfl
theorem tw_m_RX4_88 : Cond.methodLink RX4 88 yJ9_max_7cf53 ∈ TS := ts_mem 785 (by decide +kernel) rfl
theorem tw_code_yX4_passDay : Cond.code yX4_passDay cX4_passDay 4 none ∈ TS := ts_mem 783 (by decide +kernel) rfl
theorem tw_inst_yX4_passDay : Cond.instanceMethod yX4_passDay ∈ TS := ts_mem 781 (by decide +kernel) rfl
theorem tw_s_yX4_passDay : Cond.selects RX4 yX4_passDay yX4_passDay ∈ TS := ts_mem 782 (by decide +kernel) rfl
theorem tw_c_RX4_91 : Cond.constant RX4 91 1103515245 ∈ TS := ts_mem 794 (by decide +kernel) rfl
theorem tw_code_yX4_draw : Cond.code yX4_draw cX4_draw 2 (some .int) ∈ TS := ts_mem 793 (by decide +kernel) rfl
theorem tw_inst_yX4_draw : Cond.instanceMethod yX4_draw ∈ TS := ts_mem 791 (by decide +kernel) rfl
theorem tw_s_yX4_draw : Cond.selects RX4 yX4_draw yX4_draw ∈ TS := ts_mem 792 (by decide +kernel) rfl
theorem tw_f_RX2_18 : Cond.fieldLink RX2 18 RX2 "n" "I" ∈ TS := ts_mem 214 (by decide +kernel) rfl
theorem tw_f_RX2_9 : Cond.fieldLink RX2 9 RX2 "members" "[I" ∈ TS := ts_mem 212 (by decide +kernel) rfl
theorem tw_code_yX2_memberAt : Cond.code yX2_memberAt cX2_memberAt 2 (some .int) ∈ TS := ts_mem 655 (by decide +kernel) rfl
theorem tw_i_TollForHesitators_Order : Cond.initialized RX2 ∈ TS := ts_mem 72 (by decide +kernel) rfl
theorem tw_inst_yX2_memberAt : Cond.instanceMethod yX2_memberAt ∈ TS := ts_mem 653 (by decide +kernel) rfl
theorem tw_s_yX2_memberAt : Cond.selects RX2 yX2_memberAt yX2_memberAt ∈ TS := ts_mem 654 (by decide +kernel) rfl
theorem tw_f_RX2_34 : Cond.fieldLink RX2 34 RX2 "road" "LTollForHesitators$Road;" ∈ TS := ts_mem 211 (by decide +kernel) rfl
theorem tw_m_RX2_38 : Cond.methodLink RX2 38 yX2_memberAt ∈ TS := ts_mem 652 (by decide +kernel) rfl
theorem tw_m_RX2_42 : Cond.methodLink RX2 42 yX4_nerveOf ∈ TS := ts_mem 660 (by decide +kernel) rfl
theorem tw_code_yX2_nerveAt : Cond.code yX2_nerveAt cX2_nerveAt 2 (some .int) ∈ TS := ts_mem 659 (by decide +kernel) rfl
theorem tw_inst_yX2_nerveAt : Cond.instanceMethod yX2_nerveAt ∈ TS := ts_mem 657 (by decide +kernel) rfl
theorem tw_s_yX2_nerveAt : Cond.selects RX2 yX2_nerveAt yX2_nerveAt ∈ TS := ts_mem 658 (by decide +kernel) rfl
theorem tw_f_RX2_47 : Cond.fieldLink RX2 47 RX4 "toll" "I" ∈ TS := ts_mem 118 (by decide +kernel) rfl
theorem tw_f_RX2_25 : Cond.fieldLink RX2 25 RX2 "pay" "I" ∈ TS := ts_mem 217 (by decide +kernel) rfl
theorem tw_st_yJ6_bitCount_0f7a4 : Cond.static yJ6_bitCount_0f7a4 ∈ TS := ts_mem 666 (by decide +kernel) rfl
theorem tw_m_RX2_50 : Cond.methodLink RX2 50 yJ6_bitCount_0f7a4 ∈ TS := ts_mem 665 (by decide +kernel) rfl
theorem tw_code_yX2_paid : Cond.code yX2_paid cX2_paid 1 (some .int) ∈ TS := ts_mem 684 (by decide +kernel) rfl
theorem tw_inst_yX2_paid : Cond.instanceMethod yX2_paid ∈ TS := ts_mem 682 (by decide +kernel) rfl
theorem tw_s_yX2_paid : Cond.selects RX2 yX2_paid yX2_paid ∈ TS := ts_mem 683 (by decide +kernel) rfl
theorem tw_f_RX2_22 : Cond.fieldLink RX2 22 RX2 "free" "I" ∈ TS := ts_mem 215 (by decide +kernel) rfl
theorem tw_f_RX2_28 : Cond.fieldLink RX2 28 RX2 "back" "I" ∈ TS := ts_mem 219 (by decide +kernel) rfl
theorem tw_code_yX2_begin : Cond.code yX2_begin cX2_begin 1 none ∈ TS := ts_mem 651 (by decide +kernel) rfl
theorem tw_inst_yX2_begin : Cond.instanceMethod yX2_begin ∈ TS := ts_mem 650 (by decide +kernel) rfl
theorem tw_s_yX2_begin : Cond.selects RX2 yX2_begin yX2_begin ∈ TS := ts_mem 12 (by decide +kernel) rfl
theorem tw_code_yX2_count : Cond.code yX2_count cX2_count 3 none ∈ TS := ts_mem 679 (by decide +kernel) rfl
theorem tw_inst_yX2_count : Cond.instanceMethod yX2_count ∈ TS := ts_mem 678 (by decide +kernel) rfl
theorem tw_s_yX2_count : Cond.selects RX2 yX2_count yX2_count ∈ TS := ts_mem 14 (by decide +kernel) rfl
theorem tw_m_RX2_90 : Cond.methodLink RX2 90 yJ9_max_7cf53 ∈ TS := ts_mem 671 (by decide +kernel) rfl
theorem tw_code_yX2_seen : Cond.code yX2_seen cX2_seen 1 (some .int) ∈ TS := ts_mem 664 (by decide +kernel) rfl
theorem tw_inst_yX2_seen : Cond.instanceMethod yX2_seen ∈ TS := ts_mem 663 (by decide +kernel) rfl
theorem tw_s_yX2_seen : Cond.selects RX2 yX2_seen yX2_seen ∈ TS := ts_mem 13 (by decide +kernel) rfl
theorem tw_f_RX2_55 : Cond.fieldLink RX2 55 RX4 "count" "I" ∈ TS := ts_mem 108 (by decide +kernel) rfl
theorem tw_code_yX2_byNumbers : Cond.code yX2_byNumbers cX2_byNumbers 2 none ∈ TS := ts_mem 695 (by decide +kernel) rfl
theorem tw_inst_yX2_byNumbers : Cond.instanceMethod yX2_byNumbers ∈ TS := ts_mem 693 (by decide +kernel) rfl
theorem tw_s_yX2_byNumbers : Cond.selects RX2 yX2_byNumbers yX2_byNumbers ∈ TS := ts_mem 694 (by decide +kernel) rfl
theorem dJ6_bitCount_0f7a4_0 : decode cJ6_bitCount_0f7a4 0 = .ok (.iload_n 0, 1) := by decide +kernel
theorem dJ6_bitCount_0f7a4_1 : decode cJ6_bitCount_0f7a4 1 = .ok (.iload_n 0, 1) := by decide +kernel
theorem dJ6_bitCount_0f7a4_2 : decode cJ6_bitCount_0f7a4 2 = .ok (.iconst 1, 1) := by decide +kernel
theorem dJ6_bitCount_0f7a4_3 : decode cJ6_bitCount_0f7a4 3 = .ok (.iushr, 1) := by decide +kernel
theorem dJ6_bitCount_0f7a4_4 : decode cJ6_bitCount_0f7a4 4 = .ok (.ldc_w 265, 3) := by decide +kernel
theorem dJ6_bitCount_0f7a4_7 : decode cJ6_bitCount_0f7a4 7 = .ok (.iand, 1) := by decide +kernel
theorem dJ6_bitCount_0f7a4_8 : decode cJ6_bitCount_0f7a4 8 = .ok (.isub, 1) := by decide +kernel
theorem dJ6_bitCount_0f7a4_9 : decode cJ6_bitCount_0f7a4 9 = .ok (.istore_n 0, 1) := by decide +kernel
theorem dJ6_bitCount_0f7a4_10 : decode cJ6_bitCount_0f7a4 10 = .ok (.iload_n 0, 1) := by decide +kernel
theorem dJ6_bitCount_0f7a4_11 : decode cJ6_bitCount_0f7a4 11 = .ok (.ldc_w 266, 3) := by decide +kernel
theorem dJ6_bitCount_0f7a4_14 : decode cJ6_bitCount_0f7a4 14 = .ok (.iand, 1) := by decide +kernel
theorem dJ6_bitCount_0f7a4_15 : decode cJ6_bitCount_0f7a4 15 = .ok (.iload_n 0, 1) := by decide +kernel
theorem dJ6_bitCount_0f7a4_16 : decode cJ6_bitCount_0f7a4 16 = .ok (.iconst 2, 1) := by decide +kernel
theorem dJ6_bitCount_0f7a4_17 : decode cJ6_bitCount_0f7a4 17 = .ok (.iushr, 1) := by decide +kernel
theorem dJ6_bitCount_0f7a4_18 : decode cJ6_bitCount_0f7a4 18 = .ok (.ldc_w 266, 3) := by decide +kernel
theorem dJ6_bitCount_0f7a4_21 : decode cJ6_bitCount_0f7a4 21 = .ok (.iand, 1) := by decide +kernel
theorem dJ6_bitCount_0f7a4_22 : decode cJ6_bitCount_0f7a4 22 = .ok (.iadd, 1) := by decide +kernel
theorem dJ6_bitCount_0f7a4_23 : decode cJ6_bitCount_0f7a4 23 = .ok (.istore_n 0, 1) := by decide +kernel
theorem dJ6_bitCount_0f7a4_24 : decode cJ6_bitCount_0f7a4 24 = .ok (.iload_n 0, 1) := by decide +kernel
theorem dJ6_bitCount_0f7a4_25 : decode cJ6_bitCount_0f7a4 25 = .ok (.iload_n 0, 1) := by decide +kernel
theorem dJ6_bitCount_0f7a4_26 : decode cJ6_bitCount_0f7a4 26 = .ok (.iconst 4, 1) := by decide +kernel
theorem dJ6_bitCount_0f7a4_27 : decode cJ6_bitCount_0f7a4 27 = .ok (.iushr, 1) := by decide +kernel
theorem dJ6_bitCount_0f7a4_28 : decode cJ6_bitCount_0f7a4 28 = .ok (.iadd, 1) := by decide +kernel
theorem dJ6_bitCount_0f7a4_29 : decode cJ6_bitCount_0f7a4 29 = .ok (.ldc_w 267, 3) := by decide +kernel
theorem dJ6_bitCount_0f7a4_32 : decode cJ6_bitCount_0f7a4 32 = .ok (.iand, 1) := by decide +kernel
theorem dJ6_bitCount_0f7a4_33 : decode cJ6_bitCount_0f7a4 33 = .ok (.istore_n 0, 1) := by decide +kernel
theorem dJ6_bitCount_0f7a4_34 : decode cJ6_bitCount_0f7a4 34 = .ok (.iload_n 0, 1) := by decide +kernel
theorem dJ6_bitCount_0f7a4_35 : decode cJ6_bitCount_0f7a4 35 = .ok (.iload_n 0, 1) := by decide +kernel
theorem dJ6_bitCount_0f7a4_36 : decode cJ6_bitCount_0f7a4 36 = .ok (.bipush 8, 2) := by decide +kernel
theorem dJ6_bitCount_0f7a4_38 : decode cJ6_bitCount_0f7a4 38 = .ok (.iushr, 1) := by decide +kernel
theorem dJ6_bitCount_0f7a4_39 : decode cJ6_bitCount_0f7a4 39 = .ok (.iadd, 1) := by decide +kernel
theorem dJ6_bitCount_0f7a4_40 : decode cJ6_bitCount_0f7a4 40 = .ok (.istore_n 0, 1) := by decide +kernel
theorem dJ6_bitCount_0f7a4_41 : decode cJ6_bitCount_0f7a4 41 = .ok (.iload_n 0, 1) := by decide +kernel
theorem dJ6_bitCount_0f7a4_42 : decode cJ6_bitCount_0f7a4 42 = .ok (.iload_n 0, 1) := by decide +kernel
theorem dJ6_bitCount_0f7a4_43 : decode cJ6_bitCount_0f7a4 43 = .ok (.bipush 16, 2) := by decide +kernel
theorem dJ6_bitCount_0f7a4_45 : decode cJ6_bitCount_0f7a4 45 = .ok (.iushr, 1) := by decide +kernel
theorem dJ6_bitCount_0f7a4_46 : decode cJ6_bitCount_0f7a4 46 = .ok (.iadd, 1) := by decide +kernel
theorem dJ6_bitCount_0f7a4_47 : decode cJ6_bitCount_0f7a4 47 = .ok (.istore_n 0, 1) := by decide +kernel
theorem dJ6_bitCount_0f7a4_48 : decode cJ6_bitCount_0f7a4 48 = .ok (.iload_n 0, 1) := by decide +kernel
theorem dJ6_bitCount_0f7a4_49 : decode cJ6_bitCount_0f7a4 49 = .ok (.bipush 63, 2) := by decide +kernel
theorem dJ6_bitCount_0f7a4_51 : decode cJ6_bitCount_0f7a4 51 = .ok (.iand, 1) := by decide +kernel
theorem dJ6_bitCount_0f7a4_52 : decode cJ6_bitCount_0f7a4 52 = .ok (.ireturn, 1) := by decide +kernel
abbrev k_J6_bitCount_0f7a4 : zK := (cJ6_bitCount_0f7a4, 1, RJ6, (some .int), ({ frames := 0, cells := 0, slots := 0, locals := 0 } : Room))
theorem zc_J6_bitCount_0f7a4 : zcal yJ6_bitCount_0f7a4 k_J6_bitCount_0f7a4.1 k_J6_bitCount_0f7a4.2.1 k_J6_bitCount_0f7a4.2.2.2.1 1 := ⟨tw_code_yJ6_bitCount_0f7a4, tw_i_java_lang_Integer, ⟨by decide +kernel, by decide +kernel⟩, by decide +kernel⟩
def v_J6_bitCount_0f7a4 (x0 : Int32) : Int32 := kk (x0 - (((x0.toUInt32 >>> (((1) : Int32).toUInt32 &&& Int32.toUInt32 31)).toInt32) &&& 1431655765)) (fun y1 : Int32 => kk ((y1 &&& 858993459) + (((y1.toUInt32 >>> (((2) : Int32).toUInt32 &&& Int32.toUInt32 31)).toInt32) &&& 858993459)) (fun y2 : Int32 => kk ((y2 + ((y2.toUInt32 >>> (((4) : Int32).toUInt32 &&& Int32.toUInt32 31)).toInt32)) &&& 252645135) (fun y3 : Int32 => kk (y3 + ((y3.toUInt32 >>> (((8) : Int32).toUInt32 &&& Int32.toUInt32 31)).toInt32)) (fun y4 : Int32 => kk (y4 + ((y4.toUInt32 >>> (((16) : Int32).toUInt32 &&& Int32.toUInt32 31)).toInt32)) (fun y5 : Int32 => y5 &&& 63)))))
set_option maxHeartbeats 4000000 in
theorem c_J6_bitCount_0f7a4 {l : Launch} (G : zG) (P : pT) (x0 : Int32) : Met l yJ6_bitCount_0f7a4 (.code yJ6_bitCount_0f7a4 k_J6_bitCount_0f7a4.1 k_J6_bitCount_0f7a4.2.1 k_J6_bitCount_0f7a4.2.2.2.1 :: TS) k_J6_bitCount_0f7a4.2.2.2.2 (Pz G [.int x0] (Fr G P ([]))) (vp_Si (fun r => r = v_J6_bitCount_0f7a4 x0)) 0 0 (fun _ => False) := by
  refine zmet (K := k_J6_bitCount_0f7a4) (by decide +kernel) rfl rfl (fun Γ hl0 hQ hN hF => ?_)
  have hI := rd_P (G := G) hF.1
  have hG := rd_F hF.2
  obtain ⟨res, hv⟩ : ∃ res, v_J6_bitCount_0f7a4 x0 = res := ⟨_, rfl⟩
  rw [hv] at hQ
  unfold v_J6_bitCount_0f7a4 at hv
  show Z k_J6_bitCount_0f7a4 G Γ _ 0 0 [(0, .int x0)] 0 []
  refine z_iload_n dJ6_bitCount_0f7a4_0 rfl ?_
  refine z_iload_n dJ6_bitCount_0f7a4_1 rfl ?_
  refine z_iconst (v := 1) dJ6_bitCount_0f7a4_2 rfl ?_
  refine z_iushr dJ6_bitCount_0f7a4_3 ?_
  refine z_ldcw tw_c_RJ6_265 dJ6_bitCount_0f7a4_4 ?_
  refine z_iand dJ6_bitCount_0f7a4_7 ?_
  refine z_isub dJ6_bitCount_0f7a4_8 ?_
  suffices z6 : ∀ y1 : Int32, y1 = (x0 - (((x0.toUInt32 >>> (((1) : Int32).toUInt32 &&& Int32.toUInt32 31)).toInt32) &&& 1431655765)) → Z k_J6_bitCount_0f7a4 G Γ (rd Γ.2.2.1.1.heap) 0 0 [(0, .int x0)] 9 [.int y1] from z6 _ rfl
  intro y1 hy1
  have hv := kk_vq hv hy1
  clear hy1
  refine z_istore_n (lv' := [(0, .int y1)]) dJ6_bitCount_0f7a4_9 (Nat.le_of_ble_eq_true rfl) rfl ?_
  refine z_iload_n dJ6_bitCount_0f7a4_10 rfl ?_
  refine z_ldcw tw_c_RJ6_266 dJ6_bitCount_0f7a4_11 ?_
  refine z_iand dJ6_bitCount_0f7a4_14 ?_
  refine z_iload_n dJ6_bitCount_0f7a4_15 rfl ?_
  refine z_iconst (v := 2) dJ6_bitCount_0f7a4_16 rfl ?_
  refine z_iushr dJ6_bitCount_0f7a4_17 ?_
  refine z_ldcw tw_c_RJ6_266 dJ6_bitCount_0f7a4_18 ?_
  refine z_iand dJ6_bitCount_0f7a4_21 ?_
  refine z_iadd dJ6_bitCount_0f7a4_22 ?_
  suffices z7 : ∀ y2 : Int32, y2 = ((y1 &&& 858993459) + (((y1.toUInt32 >>> (((2) : Int32).toUInt32 &&& Int32.toUInt32 31)).toInt32) &&& 858993459)) → Z k_J6_bitCount_0f7a4 G Γ (rd Γ.2.2.1.1.heap) 0 0 [(0, .int y1)] 23 [.int y2] from z7 _ rfl
  intro y2 hy2
  have hv := kk_vq hv hy2
  clear hy2
  refine z_istore_n (lv' := [(0, .int y2)]) dJ6_bitCount_0f7a4_23 (Nat.le_of_ble_eq_true rfl) rfl ?_
  refine z_iload_n dJ6_bitCount_0f7a4_24 rfl ?_
  refine z_iload_n dJ6_bitCount_0f7a4_25 rfl ?_
  refine z_iconst (v := 4) dJ6_bitCount_0f7a4_26 rfl ?_
  refine z_iushr dJ6_bitCount_0f7a4_27 ?_
  refine z_iadd dJ6_bitCount_0f7a4_28 ?_
  refine z_ldcw tw_c_RJ6_267 dJ6_bitCount_0f7a4_29 ?_
  refine z_iand dJ6_bitCount_0f7a4_32 ?_
  suffices z8 : ∀ y3 : Int32, y3 = ((y2 + ((y2.toUInt32 >>> (((4) : Int32).toUInt32 &&& Int32.toUInt32 31)).toInt32)) &&& 252645135) → Z k_J6_bitCount_0f7a4 G Γ (rd Γ.2.2.1.1.heap) 0 0 [(0, .int y2)] 33 [.int y3] from z8 _ rfl
  intro y3 hy3
  have hv := kk_vq hv hy3
  clear hy3
  refine z_istore_n (lv' := [(0, .int y3)]) dJ6_bitCount_0f7a4_33 (Nat.le_of_ble_eq_true rfl) rfl ?_
  refine z_iload_n dJ6_bitCount_0f7a4_34 rfl ?_
  refine z_iload_n dJ6_bitCount_0f7a4_35 rfl ?_
  refine z_bipush (v := 8) dJ6_bitCount_0f7a4_36 rfl ?_
  refine z_iushr dJ6_bitCount_0f7a4_38 ?_
  refine z_iadd dJ6_bitCount_0f7a4_39 ?_
  suffices z9 : ∀ y4 : Int32, y4 = (y3 + ((y3.toUInt32 >>> (((8) : Int32).toUInt32 &&& Int32.toUInt32 31)).toInt32)) → Z k_J6_bitCount_0f7a4 G Γ (rd Γ.2.2.1.1.heap) 0 0 [(0, .int y3)] 40 [.int y4] from z9 _ rfl
  intro y4 hy4
  have hv := kk_vq hv hy4
  clear hy4
  refine z_istore_n (lv' := [(0, .int y4)]) dJ6_bitCount_0f7a4_40 (Nat.le_of_ble_eq_true rfl) rfl ?_
  refine z_iload_n dJ6_bitCount_0f7a4_41 rfl ?_
  refine z_iload_n dJ6_bitCount_0f7a4_42 rfl ?_
  refine z_bipush (v := 16) dJ6_bitCount_0f7a4_43 rfl ?_
  refine z_iushr dJ6_bitCount_0f7a4_45 ?_
  refine z_iadd dJ6_bitCount_0f7a4_46 ?_
  suffices z10 : ∀ y5 : Int32, y5 = (y4 + ((y4.toUInt32 >>> (((16) : Int32).toUInt32 &&& Int32.toUInt32 31)).toInt32)) → Z k_J6_bitCount_0f7a4 G Γ (rd Γ.2.2.1.1.heap) 0 0 [(0, .int y4)] 47 [.int y5] from z10 _ rfl
  intro y5 hy5
  have hv := kk_vq hv hy5
  clear hy5
  refine z_istore_n (lv' := [(0, .int y5)]) dJ6_bitCount_0f7a4_47 (Nat.le_of_ble_eq_true rfl) rfl ?_
  refine z_iload_n dJ6_bitCount_0f7a4_48 rfl ?_
  refine z_bipush (v := 63) dJ6_bitCount_0f7a4_49 rfl ?_
  refine z_iand dJ6_bitCount_0f7a4_51 ?_
  exact z_iret_S hQ rfl hv dJ6_bitCount_0f7a4_52
theorem dX4_become_0 : decode cX4_become 0 = .ok (.iconst 0, 1) := by decide +kernel
theorem dX4_become_1 : decode cX4_become 1 = .ok (.istore_n 2, 1) := by decide +kernel
theorem dX4_become_2 : decode cX4_become 2 = .ok (.iload_n 2, 1) := by decide +kernel
theorem dX4_become_3 : decode cX4_become 3 = .ok (.bipush 7, 2) := by decide +kernel
theorem dX4_become_5 : decode cX4_become 5 = .ok (.if_icmp .ge 57, 3) := by decide +kernel
theorem dX4_become_8 : decode cX4_become 8 = .ok (.aload_n 0, 1) := by decide +kernel
theorem dX4_become_9 : decode cX4_become 9 = .ok (.getfield 11, 3) := by decide +kernel
theorem dX4_become_12 : decode cX4_become 12 = .ok (.iload_n 2, 1) := by decide +kernel
theorem dX4_become_13 : decode cX4_become 13 = .ok (.aload_n 1, 1) := by decide +kernel
theorem dX4_become_14 : decode cX4_become 14 = .ok (.getfield 11, 3) := by decide +kernel
theorem dX4_become_17 : decode cX4_become 17 = .ok (.iload_n 2, 1) := by decide +kernel
theorem dX4_become_18 : decode cX4_become 18 = .ok (.aaload, 1) := by decide +kernel
theorem dX4_become_19 : decode cX4_become 19 = .ok (.aastore, 1) := by decide +kernel
theorem dX4_become_20 : decode cX4_become 20 = .ok (.aload_n 0, 1) := by decide +kernel
theorem dX4_become_21 : decode cX4_become 21 = .ok (.getfield 17, 3) := by decide +kernel
theorem dX4_become_24 : decode cX4_become 24 = .ok (.iload_n 2, 1) := by decide +kernel
theorem dX4_become_25 : decode cX4_become 25 = .ok (.aload_n 1, 1) := by decide +kernel
theorem dX4_become_26 : decode cX4_become 26 = .ok (.getfield 17, 3) := by decide +kernel
theorem dX4_become_29 : decode cX4_become 29 = .ok (.iload_n 2, 1) := by decide +kernel
theorem dX4_become_30 : decode cX4_become 30 = .ok (.iaload, 1) := by decide +kernel
theorem dX4_become_31 : decode cX4_become 31 = .ok (.iastore, 1) := by decide +kernel
theorem dX4_become_32 : decode cX4_become 32 = .ok (.aload_n 0, 1) := by decide +kernel
theorem dX4_become_33 : decode cX4_become 33 = .ok (.getfield 21, 3) := by decide +kernel
theorem dX4_become_36 : decode cX4_become 36 = .ok (.iload_n 2, 1) := by decide +kernel
theorem dX4_become_37 : decode cX4_become 37 = .ok (.aload_n 1, 1) := by decide +kernel
theorem dX4_become_38 : decode cX4_become 38 = .ok (.getfield 21, 3) := by decide +kernel
theorem dX4_become_41 : decode cX4_become 41 = .ok (.iload_n 2, 1) := by decide +kernel
theorem dX4_become_42 : decode cX4_become 42 = .ok (.iaload, 1) := by decide +kernel
theorem dX4_become_43 : decode cX4_become 43 = .ok (.iastore, 1) := by decide +kernel
theorem dX4_become_44 : decode cX4_become 44 = .ok (.aload_n 0, 1) := by decide +kernel
theorem dX4_become_45 : decode cX4_become 45 = .ok (.getfield 24, 3) := by decide +kernel
theorem dX4_become_48 : decode cX4_become 48 = .ok (.iload_n 2, 1) := by decide +kernel
theorem dX4_become_49 : decode cX4_become 49 = .ok (.aload_n 1, 1) := by decide +kernel
theorem dX4_become_50 : decode cX4_become 50 = .ok (.getfield 24, 3) := by decide +kernel
theorem dX4_become_53 : decode cX4_become 53 = .ok (.iload_n 2, 1) := by decide +kernel
theorem dX4_become_54 : decode cX4_become 54 = .ok (.iaload, 1) := by decide +kernel
theorem dX4_become_55 : decode cX4_become 55 = .ok (.iastore, 1) := by decide +kernel
theorem dX4_become_56 : decode cX4_become 56 = .ok (.iinc 2 1, 3) := by decide +kernel
theorem dX4_become_59 : decode cX4_become 59 = .ok (.goto (-57), 3) := by decide +kernel
theorem dX4_become_62 : decode cX4_become 62 = .ok (.aload_n 0, 1) := by decide +kernel
theorem dX4_become_63 : decode cX4_become 63 = .ok (.aload_n 1, 1) := by decide +kernel
theorem dX4_become_64 : decode cX4_become 64 = .ok (.getfield 27, 3) := by decide +kernel
theorem dX4_become_67 : decode cX4_become 67 = .ok (.putfield 27, 3) := by decide +kernel
theorem dX4_become_70 : decode cX4_become 70 = .ok (.aload_n 0, 1) := by decide +kernel
theorem dX4_become_71 : decode cX4_become 71 = .ok (.aload_n 1, 1) := by decide +kernel
theorem dX4_become_72 : decode cX4_become 72 = .ok (.getfield 31, 3) := by decide +kernel
theorem dX4_become_75 : decode cX4_become 75 = .ok (.putfield 31, 3) := by decide +kernel
theorem dX4_become_78 : decode cX4_become 78 = .ok (.aload_n 0, 1) := by decide +kernel
theorem dX4_become_79 : decode cX4_become 79 = .ok (.aload_n 1, 1) := by decide +kernel
theorem dX4_become_80 : decode cX4_become 80 = .ok (.getfield 34, 3) := by decide +kernel
theorem dX4_become_83 : decode cX4_become 83 = .ok (.putfield 34, 3) := by decide +kernel
theorem dX4_become_86 : decode cX4_become 86 = .ok (.aload_n 0, 1) := by decide +kernel
theorem dX4_become_87 : decode cX4_become 87 = .ok (.aload_n 1, 1) := by decide +kernel
theorem dX4_become_88 : decode cX4_become 88 = .ok (.getfield 37, 3) := by decide +kernel
theorem dX4_become_91 : decode cX4_become 91 = .ok (.putfield 37, 3) := by decide +kernel
theorem dX4_become_94 : decode cX4_become 94 = .ok (.aload_n 0, 1) := by decide +kernel
theorem dX4_become_95 : decode cX4_become 95 = .ok (.aload_n 1, 1) := by decide +kernel
theorem dX4_become_96 : decode cX4_become 96 = .ok (.getfield 40, 3) := by decide +kernel
theorem dX4_become_99 : decode cX4_become 99 = .ok (.putfield 40, 3) := by decide +kernel
theorem dX4_become_102 : decode cX4_become 102 = .ok (.aload_n 0, 1) := by decide +kernel
theorem dX4_become_103 : decode cX4_become 103 = .ok (.aload_n 1, 1) := by decide +kernel
theorem dX4_become_104 : decode cX4_become 104 = .ok (.getfield 43, 3) := by decide +kernel
theorem dX4_become_107 : decode cX4_become 107 = .ok (.putfield 43, 3) := by decide +kernel
theorem dX4_become_110 : decode cX4_become 110 = .ok (.aload_n 0, 1) := by decide +kernel
theorem dX4_become_111 : decode cX4_become 111 = .ok (.aload_n 1, 1) := by decide +kernel
theorem dX4_become_112 : decode cX4_become 112 = .ok (.getfield 46, 3) := by decide +kernel
theorem dX4_become_115 : decode cX4_become 115 = .ok (.putfield 46, 3) := by decide +kernel
theorem dX4_become_118 : decode cX4_become 118 = .ok (.return_, 1) := by decide +kernel
abbrev k_X4_become : zK := (cX4_become, 3, RX4, none, ({ frames := 0, cells := 0, slots := 0, locals := 0 } : Room))
theorem zc_X4_become : zcal yX4_become k_X4_become.1 k_X4_become.2.1 k_X4_become.2.2.2.1 1 := ⟨tw_code_yX4_become, tw_i_TollForHesitators_Road, ⟨by decide +kernel, by decide +kernel⟩, by decide +kernel⟩
theorem zv_X4_become : Cond.instanceMethod yX4_become ∈ TS ∧ Cond.selects RX4 yX4_become yX4_become ∈ TS := ⟨tw_inst_yX4_become, tw_s_yX4_become⟩
def v_X4_become_r (P : pT) (Q : rT) : Nat → rT → Int32 → rT
  | 0, R, _ => R
  | n + 1, R, v2 => if 7 ≤ v2 then rsf (rsf (rsf (rsf (rsf (rsf (rsf R 4 (Q.1 4)) 5 (Q.1 5)) 6 (Q.1 6)) 7 (Q.1 7)) 8 (Q.1 8)) 9 (Q.1 9)) 10 (Q.1 10) else v_X4_become_r P Q n (rsa (rsa (rsa (rsc R (va_up R.2.2 v2.toNatClampNeg (Q.2.2 v2.toNatClampNeg))) 1 (upd (R.2.1 1) v2.toNatClampNeg ((Q.2.1 1) v2.toNatClampNeg))) 2 (upd (R.2.1 2) v2.toNatClampNeg ((Q.2.1 2) v2.toNatClampNeg))) 3 (upd (R.2.1 3) v2.toNatClampNeg ((Q.2.1 3) v2.toNatClampNeg))) (v2 + 1)
def p_X4_become_r (P : pT) (Q : rT) : Nat → rT → Int32 → Prop
  | 0, _, _ => False
  | n + 1, R, v2 => if 7 ≤ v2 then True else vp_in v2 7 ∧ ((∀ v : Nat, Q.2.2 v2.toNatClampNeg = some v → v ∈ P.1) ∧ (vp_in v2 7 ∧ (vp_in v2 7 ∧ (vp_in v2 7 ∧ (vp_in v2 7 ∧ (vp_in v2 7 ∧ (vp_in v2 7 ∧ (vp_in v2 7 ∧ (p_X4_become_r P Q n (rsa (rsa (rsa (rsc R (va_up R.2.2 v2.toNatClampNeg (Q.2.2 v2.toNatClampNeg))) 1 (upd (R.2.1 1) v2.toNatClampNeg ((Q.2.1 1) v2.toNatClampNeg))) 2 (upd (R.2.1 2) v2.toNatClampNeg ((Q.2.1 2) v2.toNatClampNeg))) 3 (upd (R.2.1 3) v2.toNatClampNeg ((Q.2.1 3) v2.toNatClampNeg))) (v2 + 1))))))))))
def v_X4_become (P : pT) (R : rT) (Q : rT) : rT := v_X4_become_r P Q 200 R 0
def p_X4_become (P : pT) (R : rT) (Q : rT) : Prop := p_X4_become_r P Q 200 R 0
set_option maxHeartbeats 4000000 in
theorem w_X4_become {G : zG} {P : pT} {Γ : zT} {A : Nat → Prop} {res : rT} (a : Nat → Nat) (b : Nat → Nat) (Q : rT) (hw : wk (gX G P) A Γ.2.2.1.1.heap) (hQ : zQ Γ (Qwv G (fun w => w = rdW G a (res) ++ rdW G b Q) A) 0 0 A) : ∀ n : Nat, (∀ (R : rT) (v2 : Int32), p_X4_become_r P Q n R v2 → v_X4_become_r P Q n R v2 = res → Z k_X4_become G Γ (wr G A Γ.2.2.1.1.heap (rdW G a R ++ rdW G b Q)) 0 0 [(0, .ref (a 0)), (1, .ref (b 0)), (2, .int v2)] 2 []) := by
  intro n
  induction n with
  | zero => exact fun R v2 hp => absurd hp (by rw [p_X4_become_r]; exact not_false)
  | succ n ih =>
    intro R v2 hp hv
    rw [p_X4_become_r] at hp
    rw [v_X4_become_r] at hv
    refine z_iload_n dX4_become_2 rfl ?_
    refine z_bipush (v := 7) dX4_become_3 rfl ?_
    refine z_icmp_ge (tgt := 62) dX4_become_5 (by decide) (fun c1 => ?_) (fun c1 => ?_)
    · have hp := ip_t hp c1; have hv := it_t hv c1
      refine z_aload_n dX4_become_62 rfl ?_
      refine z_aload_n dX4_become_63 rfl ?_
      refine z_get (v := .int (Q.1 4)) wr_P 5 rfl rfl uin_X4 4 (Nat.le_of_ble_eq_true rfl) tw_f_RX4_27 rfl rfl dX4_become_64 ?_
      refine z_put (fs := rdF a R) (v := .int (Q.1 4)) (ws' := rdW G a (rsf R 4 (Q.1 4)) ++ rdW G b Q) 0 rfl rfl uin_X4 tyX4 tyX4_ok nmX4 4 (Nat.le_of_ble_eq_true rfl) tw_f_RX4_27 rfl rfl (ty := .int) rfl rfl rfl (Nat.le_of_ble_eq_true rfl) rfl dX4_become_67 ?_
      refine z_aload_n dX4_become_70 rfl ?_
      refine z_aload_n dX4_become_71 rfl ?_
      refine z_get (v := .int (Q.1 5)) wr_P 5 rfl rfl uin_X4 5 (Nat.le_of_ble_eq_true rfl) tw_f_RX4_31 rfl rfl dX4_become_72 ?_
      refine z_put (fs := rdF a (rsf R 4 (Q.1 4))) (v := .int (Q.1 5)) (ws' := rdW G a (rsf (rsf R 4 (Q.1 4)) 5 (Q.1 5)) ++ rdW G b Q) 0 rfl rfl uin_X4 tyX4 tyX4_ok nmX4 5 (Nat.le_of_ble_eq_true rfl) tw_f_RX4_31 rfl rfl (ty := .int) rfl rfl rfl (Nat.le_of_ble_eq_true rfl) rfl dX4_become_75 ?_
      refine z_aload_n dX4_become_78 rfl ?_
      refine z_aload_n dX4_become_79 rfl ?_
      refine z_get (v := .int (Q.1 6)) wr_P 5 rfl rfl uin_X4 6 (Nat.le_of_ble_eq_true rfl) tw_f_RX4_34 rfl rfl dX4_become_80 ?_
      refine z_put (fs := rdF a (rsf (rsf R 4 (Q.1 4)) 5 (Q.1 5))) (v := .int (Q.1 6)) (ws' := rdW G a (rsf (rsf (rsf R 4 (Q.1 4)) 5 (Q.1 5)) 6 (Q.1 6)) ++ rdW G b Q) 0 rfl rfl uin_X4 tyX4 tyX4_ok nmX4 6 (Nat.le_of_ble_eq_true rfl) tw_f_RX4_34 rfl rfl (ty := .int) rfl rfl rfl (Nat.le_of_ble_eq_true rfl) rfl dX4_become_83 ?_
      refine z_aload_n dX4_become_86 rfl ?_
      refine z_aload_n dX4_become_87 rfl ?_
      refine z_get (v := .int (Q.1 7)) wr_P 5 rfl rfl uin_X4 7 (Nat.le_of_ble_eq_true rfl) tw_f_RX4_37 rfl rfl dX4_become_88 ?_
      refine z_put (fs := rdF a (rsf (rsf (rsf R 4 (Q.1 4)) 5 (Q.1 5)) 6 (Q.1 6))) (v := .int (Q.1 7)) (ws' := rdW G a (rsf (rsf (rsf (rsf R 4 (Q.1 4)) 5 (Q.1 5)) 6 (Q.1 6)) 7 (Q.1 7)) ++ rdW G b Q) 0 rfl rfl uin_X4 tyX4 tyX4_ok nmX4 7 (Nat.le_of_ble_eq_true rfl) tw_f_RX4_37 rfl rfl (ty := .int) rfl rfl rfl (Nat.le_of_ble_eq_true rfl) rfl dX4_become_91 ?_
      refine z_aload_n dX4_become_94 rfl ?_
      refine z_aload_n dX4_become_95 rfl ?_
      refine z_get (v := .int (Q.1 8)) wr_P 5 rfl rfl uin_X4 8 (Nat.le_of_ble_eq_true rfl) tw_f_RX4_40 rfl rfl dX4_become_96 ?_
      refine z_put (fs := rdF a (rsf (rsf (rsf (rsf R 4 (Q.1 4)) 5 (Q.1 5)) 6 (Q.1 6)) 7 (Q.1 7))) (v := .int (Q.1 8)) (ws' := rdW G a (rsf (rsf (rsf (rsf (rsf R 4 (Q.1 4)) 5 (Q.1 5)) 6 (Q.1 6)) 7 (Q.1 7)) 8 (Q.1 8)) ++ rdW G b Q) 0 rfl rfl uin_X4 tyX4 tyX4_ok nmX4 8 (Nat.le_of_ble_eq_true rfl) tw_f_RX4_40 rfl rfl (ty := .int) rfl rfl rfl (Nat.le_of_ble_eq_true rfl) rfl dX4_become_99 ?_
      refine z_aload_n dX4_become_102 rfl ?_
      refine z_aload_n dX4_become_103 rfl ?_
      refine z_get (v := .int (Q.1 9)) wr_P 5 rfl rfl uin_X4 9 (Nat.le_of_ble_eq_true rfl) tw_f_RX4_43 rfl rfl dX4_become_104 ?_
      refine z_put (fs := rdF a (rsf (rsf (rsf (rsf (rsf R 4 (Q.1 4)) 5 (Q.1 5)) 6 (Q.1 6)) 7 (Q.1 7)) 8 (Q.1 8))) (v := .int (Q.1 9)) (ws' := rdW G a (rsf (rsf (rsf (rsf (rsf (rsf R 4 (Q.1 4)) 5 (Q.1 5)) 6 (Q.1 6)) 7 (Q.1 7)) 8 (Q.1 8)) 9 (Q.1 9)) ++ rdW G b Q) 0 rfl rfl uin_X4 tyX4 tyX4_ok nmX4 9 (Nat.le_of_ble_eq_true rfl) tw_f_RX4_43 rfl rfl (ty := .int) rfl rfl rfl (Nat.le_of_ble_eq_true rfl) rfl dX4_become_107 ?_
      refine z_aload_n dX4_become_110 rfl ?_
      refine z_aload_n dX4_become_111 rfl ?_
      refine z_get (v := .int (Q.1 10)) wr_P 5 rfl rfl uin_X4 10 (Nat.le_of_ble_eq_true rfl) tw_f_RX4_46 rfl rfl dX4_become_112 ?_
      refine z_put (fs := rdF a (rsf (rsf (rsf (rsf (rsf (rsf R 4 (Q.1 4)) 5 (Q.1 5)) 6 (Q.1 6)) 7 (Q.1 7)) 8 (Q.1 8)) 9 (Q.1 9))) (v := .int (Q.1 10)) (ws' := rdW G a (rsf (rsf (rsf (rsf (rsf (rsf (rsf R 4 (Q.1 4)) 5 (Q.1 5)) 6 (Q.1 6)) 7 (Q.1 7)) 8 (Q.1 8)) 9 (Q.1 9)) 10 (Q.1 10)) ++ rdW G b Q) 0 rfl rfl uin_X4 tyX4 tyX4_ok nmX4 10 (Nat.le_of_ble_eq_true rfl) tw_f_RX4_46 rfl rfl (ty := .int) rfl rfl rfl (Nat.le_of_ble_eq_true rfl) rfl dX4_become_115 ?_
      subst hv; exact z_vret_W hQ rfl rfl rfl rfl dX4_become_118
    · have hp := ip_f hp c1; have hv := it_f hv c1
      refine z_aload_n dX4_become_8 rfl ?_
      refine z_get (v := .ref (a 1)) wr_P 0 rfl rfl uin_X4 0 (Nat.le_of_ble_eq_true rfl) tw_f_RX4_11 rfl rfl dX4_become_9 ?_
      refine z_iload_n dX4_become_12 rfl ?_
      refine z_aload_n dX4_become_13 rfl ?_
      refine z_get (v := .ref (b 1)) wr_P 5 rfl rfl uin_X4 0 (Nat.le_of_ble_eq_true rfl) tw_f_RX4_11 rfl rfl dX4_become_14 ?_
      refine z_iload_n dX4_become_17 rfl ?_
      obtain ⟨q11, hp⟩ := hp
      refine z_aaldc (x := Q.2.2 v2.toNatClampNeg) wr_P 6 rfl q11 rfl dX4_become_18 ?_
      obtain ⟨q13, hp⟩ := hp
      skip
      obtain ⟨q12, hp⟩ := hp
      refine z_aastc (F := va_up R.2.2 v2.toNatClampNeg (Q.2.2 v2.toNatClampNeg)) (ws' := rdW G a (rsc R (va_up R.2.2 v2.toNatClampNeg (Q.2.2 v2.toNatClampNeg))) ++ rdW G b Q) (wr_G hw) 1 rfl q12 q13 rfl rfl dX4_become_19 ?_
      refine z_aload_n dX4_become_20 rfl ?_
      refine z_get (v := .ref (a 2)) wr_P 0 rfl rfl uin_X4 1 (Nat.le_of_ble_eq_true rfl) tw_f_RX4_17 rfl rfl dX4_become_21 ?_
      refine z_iload_n dX4_become_24 rfl ?_
      refine z_aload_n dX4_become_25 rfl ?_
      refine z_get (v := .ref (b 2)) wr_P 5 rfl rfl uin_X4 1 (Nat.le_of_ble_eq_true rfl) tw_f_RX4_17 rfl rfl dX4_become_26 ?_
      refine z_iload_n dX4_become_29 rfl ?_
      obtain ⟨q14, hp⟩ := hp
      refine z_ialdx (x := (Q.2.1 1) v2.toNatClampNeg) wr_P 7 rfl q14 rfl dX4_become_30 ?_
      obtain ⟨q15, hp⟩ := hp
      refine z_iastx (F := upd (R.2.1 1) v2.toNatClampNeg ((Q.2.1 1) v2.toNatClampNeg)) (ws' := rdW G a (rsa (rsc R (va_up R.2.2 v2.toNatClampNeg (Q.2.2 v2.toNatClampNeg))) 1 (upd (R.2.1 1) v2.toNatClampNeg ((Q.2.1 1) v2.toNatClampNeg))) ++ rdW G b Q) 2 rfl q15 rfl rfl dX4_become_31 ?_
      refine z_aload_n dX4_become_32 rfl ?_
      refine z_get (v := .ref (a 3)) wr_P 0 rfl rfl uin_X4 2 (Nat.le_of_ble_eq_true rfl) tw_f_RX4_21 rfl rfl dX4_become_33 ?_
      refine z_iload_n dX4_become_36 rfl ?_
      refine z_aload_n dX4_become_37 rfl ?_
      refine z_get (v := .ref (b 3)) wr_P 5 rfl rfl uin_X4 2 (Nat.le_of_ble_eq_true rfl) tw_f_RX4_21 rfl rfl dX4_become_38 ?_
      refine z_iload_n dX4_become_41 rfl ?_
      obtain ⟨q16, hp⟩ := hp
      refine z_ialdx (x := (Q.2.1 2) v2.toNatClampNeg) wr_P 8 rfl q16 rfl dX4_become_42 ?_
      obtain ⟨q17, hp⟩ := hp
      refine z_iastx (F := upd (R.2.1 2) v2.toNatClampNeg ((Q.2.1 2) v2.toNatClampNeg)) (ws' := rdW G a (rsa (rsa (rsc R (va_up R.2.2 v2.toNatClampNeg (Q.2.2 v2.toNatClampNeg))) 1 (upd (R.2.1 1) v2.toNatClampNeg ((Q.2.1 1) v2.toNatClampNeg))) 2 (upd (R.2.1 2) v2.toNatClampNeg ((Q.2.1 2) v2.toNatClampNeg))) ++ rdW G b Q) 3 rfl q17 rfl rfl dX4_become_43 ?_
      refine z_aload_n dX4_become_44 rfl ?_
      refine z_get (v := .ref (a 4)) wr_P 0 rfl rfl uin_X4 3 (Nat.le_of_ble_eq_true rfl) tw_f_RX4_24 rfl rfl dX4_become_45 ?_
      refine z_iload_n dX4_become_48 rfl ?_
      refine z_aload_n dX4_become_49 rfl ?_
      refine z_get (v := .ref (b 4)) wr_P 5 rfl rfl uin_X4 3 (Nat.le_of_ble_eq_true rfl) tw_f_RX4_24 rfl rfl dX4_become_50 ?_
      refine z_iload_n dX4_become_53 rfl ?_
      obtain ⟨q18, hp⟩ := hp
      refine z_ialdx (x := (Q.2.1 3) v2.toNatClampNeg) wr_P 9 rfl q18 rfl dX4_become_54 ?_
      obtain ⟨q19, hp⟩ := hp
      refine z_iastx (F := upd (R.2.1 3) v2.toNatClampNeg ((Q.2.1 3) v2.toNatClampNeg)) (ws' := rdW G a (rsa (rsa (rsa (rsc R (va_up R.2.2 v2.toNatClampNeg (Q.2.2 v2.toNatClampNeg))) 1 (upd (R.2.1 1) v2.toNatClampNeg ((Q.2.1 1) v2.toNatClampNeg))) 2 (upd (R.2.1 2) v2.toNatClampNeg ((Q.2.1 2) v2.toNatClampNeg))) 3 (upd (R.2.1 3) v2.toNatClampNeg ((Q.2.1 3) v2.toNatClampNeg))) ++ rdW G b Q) 4 rfl q19 rfl rfl dX4_become_55 ?_
      refine z_iinc (v := v2 + 1) (lv' := [(2, .int (v2 + 1)), (0, .ref (a 0)), (1, .ref (b 0))]) dX4_become_56 2 rfl rfl (Nat.le_of_ble_eq_true rfl) rfl ?_
      refine z_goto (tgt := 2) dX4_become_59 (by decide) ?_
      exact z_lv rfl ((ih) (rsa (rsa (rsa (rsc R (va_up R.2.2 v2.toNatClampNeg (Q.2.2 v2.toNatClampNeg))) 1 (upd (R.2.1 1) v2.toNatClampNeg ((Q.2.1 1) v2.toNatClampNeg))) 2 (upd (R.2.1 2) v2.toNatClampNeg ((Q.2.1 2) v2.toNatClampNeg))) 3 (upd (R.2.1 3) v2.toNatClampNeg ((Q.2.1 3) v2.toNatClampNeg))) (v2 + 1) hp hv)
set_option maxHeartbeats 4000000 in
theorem c_X4_become {l : Launch} (G : zG) (P : pT) (a : Nat → Nat) (b : Nat → Nat) (sz : Nat) (R : rT) (Q : rT) (hp : p_X4_become P R Q) : Met l yX4_become (.code yX4_become k_X4_become.1 k_X4_become.2.1 k_X4_become.2.2.2.1 :: TS) k_X4_become.2.2.2.2 (Pz G [.ref (a 0), .ref (b 0)] (Fw G (gX G P) (rdW G a R ++ rdW G b Q) sz)) (Qwv G (fun w => w = rdW G a (v_X4_become P R Q) ++ rdW G b Q) (va_A (rdW G a R ++ rdW G b Q) sz)) 0 0 (va_A (rdW G a R ++ rdW G b Q) sz) := by
  refine zmet (K := k_X4_become) (by decide +kernel) rfl rfl (fun Γ hl0 hQ hN hF => ?_)
  refine z_start (gX_ok G P) hF (fun hw => ?_)
  generalize va_A (rdW G a R ++ rdW G b Q) sz = A at hQ hw ⊢
  obtain ⟨res, hv⟩ : ∃ res, v_X4_become P R Q = res := ⟨_, rfl⟩
  rw [hv] at hQ
  unfold v_X4_become at hv
  unfold p_X4_become at hp
  show Z k_X4_become G Γ _ 0 0 [(0, .ref (a 0)), (1, .ref (b 0))] 0 []
  refine z_iconst (v := 0) dX4_become_0 rfl ?_
  refine z_istore_n (lv' := [(2, .int 0), (0, .ref (a 0)), (1, .ref (b 0))]) dX4_become_1 (Nat.le_of_ble_eq_true rfl) rfl ?_
  exact z_lv rfl ((w_X4_become a b Q hw hQ 200) R 0 hp hv)
theorem dX4_together_0 : decode cX4_together 0 = .ok (.iconst 0, 1) := by decide +kernel
theorem dX4_together_1 : decode cX4_together 1 = .ok (.istore_n 2, 1) := by decide +kernel
theorem dX4_together_2 : decode cX4_together 2 = .ok (.iconst 0, 1) := by decide +kernel
theorem dX4_together_3 : decode cX4_together 3 = .ok (.istore_n 3, 1) := by decide +kernel
theorem dX4_together_4 : decode cX4_together 4 = .ok (.iload_n 3, 1) := by decide +kernel
theorem dX4_together_5 : decode cX4_together 5 = .ok (.aload_n 0, 1) := by decide +kernel
theorem dX4_together_6 : decode cX4_together 6 = .ok (.getfield 27, 3) := by decide +kernel
theorem dX4_together_9 : decode cX4_together 9 = .ok (.if_icmp .ge 21, 3) := by decide +kernel
theorem dX4_together_12 : decode cX4_together 12 = .ok (.iload_n 3, 1) := by decide +kernel
theorem dX4_together_13 : decode cX4_together 13 = .ok (.aload_n 1, 1) := by decide +kernel
theorem dX4_together_14 : decode cX4_together 14 = .ok (.arraylength, 1) := by decide +kernel
theorem dX4_together_15 : decode cX4_together 15 = .ok (.if_icmp .ge 15, 3) := by decide +kernel
theorem dX4_together_18 : decode cX4_together 18 = .ok (.iload_n 2, 1) := by decide +kernel
theorem dX4_together_19 : decode cX4_together 19 = .ok (.aload_n 1, 1) := by decide +kernel
theorem dX4_together_20 : decode cX4_together 20 = .ok (.iload_n 3, 1) := by decide +kernel
theorem dX4_together_21 : decode cX4_together 21 = .ok (.iaload, 1) := by decide +kernel
theorem dX4_together_22 : decode cX4_together 22 = .ok (.iadd, 1) := by decide +kernel
theorem dX4_together_23 : decode cX4_together 23 = .ok (.istore_n 2, 1) := by decide +kernel
theorem dX4_together_24 : decode cX4_together 24 = .ok (.iinc 3 1, 3) := by decide +kernel
theorem dX4_together_27 : decode cX4_together 27 = .ok (.goto (-23), 3) := by decide +kernel
theorem dX4_together_30 : decode cX4_together 30 = .ok (.iload_n 2, 1) := by decide +kernel
theorem dX4_together_31 : decode cX4_together 31 = .ok (.ireturn, 1) := by decide +kernel
abbrev k_X4_together_1 : zK := (cX4_together, 4, RX4, (some .int), ({ frames := 0, cells := 0, slots := 0, locals := 0 } : Room))
theorem zc_X4_together_1 : zcal yX4_together k_X4_together_1.1 k_X4_together_1.2.1 k_X4_together_1.2.2.2.1 1 := ⟨tw_code_yX4_together, tw_i_TollForHesitators_Road, ⟨by decide +kernel, by decide +kernel⟩, by decide +kernel⟩
theorem zv_X4_together_1 : Cond.instanceMethod yX4_together ∈ TS ∧ Cond.selects RX4 yX4_together yX4_together ∈ TS := ⟨tw_inst_yX4_together, tw_s_yX4_together⟩
def v_X4_together_1_r (R : rT) : Nat → Int32 → Int32 → Int32
  | 0, _, _ => 0
  | n + 1, v2, v3 => if (R.1 4) ≤ v3 then v2 else if 7 ≤ v3 then v2 else v_X4_together_1_r R n (v2 + ((R.2.1 1) v3.toNatClampNeg)) (v3 + 1)
def p_X4_together_1_r (R : rT) : Nat → Int32 → Int32 → Prop
  | 0, _, _ => False
  | n + 1, v2, v3 => if (R.1 4) ≤ v3 then True else if 7 ≤ v3 then True else vp_in v3 7 ∧ (p_X4_together_1_r R n (v2 + ((R.2.1 1) v3.toNatClampNeg)) (v3 + 1))
def v_X4_together_1 (R : rT) : Int32 := v_X4_together_1_r R 200 0 0
def p_X4_together_1 (R : rT) : Prop := p_X4_together_1_r R 200 0 0
set_option maxHeartbeats 4000000 in
theorem w_X4_together_1 {G : zG} {P : pT} {Γ : zT} {res : Int32} (a : Nat → Nat) (R : rT) (hF : Fr G P (rdW G a R) Γ.2.2.1.1.heap) (hQ : zQ Γ (vp_Si (fun r => r = res)) 0 0 (fun _ => False)) : ∀ n : Nat, (∀ (v2 : Int32) (v3 : Int32), p_X4_together_1_r R n v2 v3 → v_X4_together_1_r R n v2 v3 = res → Z k_X4_together_1 G Γ (rd Γ.2.2.1.1.heap) 0 0 [(0, .ref (a 0)), (1, .ref (a 2)), (2, .int v2), (3, .int v3)] 4 []) := by
  have hI := rd_P (G := G) hF.1
  have hG := rd_F hF.2
  intro n
  induction n with
  | zero => exact fun v2 v3 hp => absurd hp (by rw [p_X4_together_1_r]; exact not_false)
  | succ n ih =>
    intro v2 v3 hp hv
    rw [p_X4_together_1_r] at hp
    rw [v_X4_together_1_r] at hv
    refine z_iload_n dX4_together_4 rfl ?_
    refine z_aload_n dX4_together_5 rfl ?_
    refine z_get (v := .int (R.1 4)) hI 0 rfl rfl uin_X4 4 (Nat.le_of_ble_eq_true rfl) tw_f_RX4_27 rfl rfl dX4_together_6 ?_
    refine z_icmp_ge (tgt := 30) dX4_together_9 (by decide) (fun c1 => ?_) (fun c1 => ?_)
    · have hp := ip_t hp c1; have hv := it_t hv c1
      refine z_iload_n dX4_together_30 rfl ?_
      exact z_iret_S hQ rfl hv dX4_together_31
    · have hp := ip_f hp c1; have hv := it_f hv c1
      refine z_iload_n dX4_together_12 rfl ?_
      refine z_aload_n dX4_together_13 rfl ?_
      refine z_alen (cA := G.2.2.1 0) (v := 7) 0 (fun _ => rfl) hI 2 rfl rfl dX4_together_14 ?_
      refine z_icmp_ge (tgt := 30) dX4_together_15 (by decide) (fun c4 => ?_) (fun c4 => ?_)
      · have hp := ip_t hp c4; have hv := it_t hv c4
        refine z_iload_n dX4_together_30 rfl ?_
        exact z_iret_S hQ rfl hv dX4_together_31
      · have hp := ip_f hp c4; have hv := it_f hv c4
        refine z_iload_n dX4_together_18 rfl ?_
        refine z_aload_n dX4_together_19 rfl ?_
        refine z_iload_n dX4_together_20 rfl ?_
        obtain ⟨q6, hp⟩ := hp
        refine z_ialdx (x := (R.2.1 1) v3.toNatClampNeg) hI 2 rfl q6 rfl dX4_together_21 ?_
        refine z_iadd dX4_together_22 ?_
        refine z_istore_n (lv' := [(2, .int (v2 + ((R.2.1 1) v3.toNatClampNeg))), (0, .ref (a 0)), (1, .ref (a 2)), (3, .int v3)]) dX4_together_23 (Nat.le_of_ble_eq_true rfl) rfl ?_
        refine z_iinc (v := v3 + 1) (lv' := [(3, .int (v3 + 1)), (2, .int (v2 + ((R.2.1 1) v3.toNatClampNeg))), (0, .ref (a 0)), (1, .ref (a 2))]) dX4_together_24 3 rfl rfl (Nat.le_of_ble_eq_true rfl) rfl ?_
        refine z_goto (tgt := 4) dX4_together_27 (by decide) ?_
        exact z_lv rfl ((ih) (v2 + ((R.2.1 1) v3.toNatClampNeg)) (v3 + 1) hp hv)
set_option maxHeartbeats 4000000 in
theorem c_X4_together_1 {l : Launch} (G : zG) (P : pT) (a : Nat → Nat) (R : rT) (hp : p_X4_together_1 R) : Met l yX4_together (.code yX4_together k_X4_together_1.1 k_X4_together_1.2.1 k_X4_together_1.2.2.2.1 :: TS) k_X4_together_1.2.2.2.2 (Pz G [.ref (a 0), .ref (a 2)] (Fr G P (rdW G a R))) (vp_Si (fun r => r = v_X4_together_1 R)) 0 0 (fun _ => False) := by
  refine zmet (K := k_X4_together_1) (by decide +kernel) rfl rfl (fun Γ hl0 hQ hN hF => ?_)
  have hI := rd_P (G := G) hF.1
  have hG := rd_F hF.2
  obtain ⟨res, hv⟩ : ∃ res, v_X4_together_1 R = res := ⟨_, rfl⟩
  rw [hv] at hQ
  unfold v_X4_together_1 at hv
  unfold p_X4_together_1 at hp
  show Z k_X4_together_1 G Γ _ 0 0 [(0, .ref (a 0)), (1, .ref (a 2))] 0 []
  refine z_iconst (v := 0) dX4_together_0 rfl ?_
  refine z_istore_n (lv' := [(2, .int 0), (0, .ref (a 0)), (1, .ref (a 2))]) dX4_together_1 (Nat.le_of_ble_eq_true rfl) rfl ?_
  refine z_iconst (v := 0) dX4_together_2 rfl ?_
  refine z_istore_n (lv' := [(3, .int 0), (2, .int 0), (0, .ref (a 0)), (1, .ref (a 2))]) dX4_together_3 (Nat.le_of_ble_eq_true rfl) rfl ?_
  exact z_lv rfl ((w_X4_together_1 a R hF hQ 200) 0 0 hp hv)
abbrev k_X4_together_2 : zK := (cX4_together, 4, RX4, (some .int), ({ frames := 0, cells := 0, slots := 0, locals := 0 } : Room))
theorem zc_X4_together_2 : zcal yX4_together k_X4_together_2.1 k_X4_together_2.2.1 k_X4_together_2.2.2.2.1 1 := ⟨tw_code_yX4_together, tw_i_TollForHesitators_Road, ⟨by decide +kernel, by decide +kernel⟩, by decide +kernel⟩
theorem zv_X4_together_2 : Cond.instanceMethod yX4_together ∈ TS ∧ Cond.selects RX4 yX4_together yX4_together ∈ TS := ⟨tw_inst_yX4_together, tw_s_yX4_together⟩
def v_X4_together_2_r (R : rT) : Nat → Int32 → Int32 → Int32
  | 0, _, _ => 0
  | n + 1, v2, v3 => if (R.1 4) ≤ v3 then v2 else if 7 ≤ v3 then v2 else v_X4_together_2_r R n (v2 + ((R.2.1 2) v3.toNatClampNeg)) (v3 + 1)
def p_X4_together_2_r (R : rT) : Nat → Int32 → Int32 → Prop
  | 0, _, _ => False
  | n + 1, v2, v3 => if (R.1 4) ≤ v3 then True else if 7 ≤ v3 then True else vp_in v3 7 ∧ (p_X4_together_2_r R n (v2 + ((R.2.1 2) v3.toNatClampNeg)) (v3 + 1))
def v_X4_together_2 (R : rT) : Int32 := v_X4_together_2_r R 200 0 0
def p_X4_together_2 (R : rT) : Prop := p_X4_together_2_r R 200 0 0
set_option maxHeartbeats 4000000 in
theorem w_X4_together_2 {G : zG} {P : pT} {Γ : zT} {res : Int32} (a : Nat → Nat) (R : rT) (hF : Fr G P (rdW G a R) Γ.2.2.1.1.heap) (hQ : zQ Γ (vp_Si (fun r => r = res)) 0 0 (fun _ => False)) : ∀ n : Nat, (∀ (v2 : Int32) (v3 : Int32), p_X4_together_2_r R n v2 v3 → v_X4_together_2_r R n v2 v3 = res → Z k_X4_together_2 G Γ (rd Γ.2.2.1.1.heap) 0 0 [(0, .ref (a 0)), (1, .ref (a 3)), (2, .int v2), (3, .int v3)] 4 []) := by
  have hI := rd_P (G := G) hF.1
  have hG := rd_F hF.2
  intro n
  induction n with
  | zero => exact fun v2 v3 hp => absurd hp (by rw [p_X4_together_2_r]; exact not_false)
  | succ n ih =>
    intro v2 v3 hp hv
    rw [p_X4_together_2_r] at hp
    rw [v_X4_together_2_r] at hv
    refine z_iload_n dX4_together_4 rfl ?_
    refine z_aload_n dX4_together_5 rfl ?_
    refine z_get (v := .int (R.1 4)) hI 0 rfl rfl uin_X4 4 (Nat.le_of_ble_eq_true rfl) tw_f_RX4_27 rfl rfl dX4_together_6 ?_
    refine z_icmp_ge (tgt := 30) dX4_together_9 (by decide) (fun c1 => ?_) (fun c1 => ?_)
    · have hp := ip_t hp c1; have hv := it_t hv c1
      refine z_iload_n dX4_together_30 rfl ?_
      exact z_iret_S hQ rfl hv dX4_together_31
    · have hp := ip_f hp c1; have hv := it_f hv c1
      refine z_iload_n dX4_together_12 rfl ?_
      refine z_aload_n dX4_together_13 rfl ?_
      refine z_alen (cA := G.2.2.1 0) (v := 7) 0 (fun _ => rfl) hI 3 rfl rfl dX4_together_14 ?_
      refine z_icmp_ge (tgt := 30) dX4_together_15 (by decide) (fun c4 => ?_) (fun c4 => ?_)
      · have hp := ip_t hp c4; have hv := it_t hv c4
        refine z_iload_n dX4_together_30 rfl ?_
        exact z_iret_S hQ rfl hv dX4_together_31
      · have hp := ip_f hp c4; have hv := it_f hv c4
        refine z_iload_n dX4_together_18 rfl ?_
        refine z_aload_n dX4_together_19 rfl ?_
        refine z_iload_n dX4_together_20 rfl ?_
        obtain ⟨q6, hp⟩ := hp
        refine z_ialdx (x := (R.2.1 2) v3.toNatClampNeg) hI 3 rfl q6 rfl dX4_together_21 ?_
        refine z_iadd dX4_together_22 ?_
        refine z_istore_n (lv' := [(2, .int (v2 + ((R.2.1 2) v3.toNatClampNeg))), (0, .ref (a 0)), (1, .ref (a 3)), (3, .int v3)]) dX4_together_23 (Nat.le_of_ble_eq_true rfl) rfl ?_
        refine z_iinc (v := v3 + 1) (lv' := [(3, .int (v3 + 1)), (2, .int (v2 + ((R.2.1 2) v3.toNatClampNeg))), (0, .ref (a 0)), (1, .ref (a 3))]) dX4_together_24 3 rfl rfl (Nat.le_of_ble_eq_true rfl) rfl ?_
        refine z_goto (tgt := 4) dX4_together_27 (by decide) ?_
        exact z_lv rfl ((ih) (v2 + ((R.2.1 2) v3.toNatClampNeg)) (v3 + 1) hp hv)
set_option maxHeartbeats 4000000 in
theorem c_X4_together_2 {l : Launch} (G : zG) (P : pT) (a : Nat → Nat) (R : rT) (hp : p_X4_together_2 R) : Met l yX4_together (.code yX4_together k_X4_together_2.1 k_X4_together_2.2.1 k_X4_together_2.2.2.2.1 :: TS) k_X4_together_2.2.2.2.2 (Pz G [.ref (a 0), .ref (a 3)] (Fr G P (rdW G a R))) (vp_Si (fun r => r = v_X4_together_2 R)) 0 0 (fun _ => False) := by
  refine zmet (K := k_X4_together_2) (by decide +kernel) rfl rfl (fun Γ hl0 hQ hN hF => ?_)
  have hI := rd_P (G := G) hF.1
  have hG := rd_F hF.2
  obtain ⟨res, hv⟩ : ∃ res, v_X4_together_2 R = res := ⟨_, rfl⟩
  rw [hv] at hQ
  unfold v_X4_together_2 at hv
  unfold p_X4_together_2 at hp
  show Z k_X4_together_2 G Γ _ 0 0 [(0, .ref (a 0)), (1, .ref (a 3))] 0 []
  refine z_iconst (v := 0) dX4_together_0 rfl ?_
  refine z_istore_n (lv' := [(2, .int 0), (0, .ref (a 0)), (1, .ref (a 3))]) dX4_together_1 (Nat.le_of_ble_eq_true rfl) rfl ?_
  refine z_iconst (v := 0) dX4_together_2 rfl ?_
  refine z_istore_n (lv' := [(3, .int 0), (2, .int 0), (0, .ref (a 0)), (1, .ref (a 3))]) dX4_together_3 (Nat.le_of_ble_eq_true rfl) rfl ?_
  exact z_lv rfl ((w_X4_together_2 a R hF hQ 200) 0 0 hp hv)
theorem dX4_passDay_0 : decode cX4_passDay 0 = .ok (.iconst 0, 1) := by decide +kernel
theorem dX4_passDay_1 : decode cX4_passDay 1 = .ok (.istore_n 3, 1) := by decide +kernel
theorem dX4_passDay_2 : decode cX4_passDay 2 = .ok (.iload_n 3, 1) := by decide +kernel
theorem dX4_passDay_3 : decode cX4_passDay 3 = .ok (.aload_n 0, 1) := by decide +kernel
theorem dX4_passDay_4 : decode cX4_passDay 4 = .ok (.getfield 27, 3) := by decide +kernel
theorem dX4_passDay_7 : decode cX4_passDay 7 = .ok (.if_icmp .ge 103, 3) := by decide +kernel
theorem dX4_passDay_10 : decode cX4_passDay 10 = .ok (.iload_n 3, 1) := by decide +kernel
theorem dX4_passDay_11 : decode cX4_passDay 11 = .ok (.bipush 7, 2) := by decide +kernel
theorem dX4_passDay_13 : decode cX4_passDay 13 = .ok (.if_icmp .ge 97, 3) := by decide +kernel
theorem dX4_passDay_16 : decode cX4_passDay 16 = .ok (.iload_n 2, 1) := by decide +kernel
theorem dX4_passDay_17 : decode cX4_passDay 17 = .ok (.iload_n 3, 1) := by decide +kernel
theorem dX4_passDay_18 : decode cX4_passDay 18 = .ok (.ishr, 1) := by decide +kernel
theorem dX4_passDay_19 : decode cX4_passDay 19 = .ok (.iconst 1, 1) := by decide +kernel
theorem dX4_passDay_20 : decode cX4_passDay 20 = .ok (.iand, 1) := by decide +kernel
theorem dX4_passDay_21 : decode cX4_passDay 21 = .ok (.ifCond .eq 38, 3) := by decide +kernel
theorem dX4_passDay_24 : decode cX4_passDay 24 = .ok (.aload_n 0, 1) := by decide +kernel
theorem dX4_passDay_25 : decode cX4_passDay 25 = .ok (.getfield 21, 3) := by decide +kernel
theorem dX4_passDay_28 : decode cX4_passDay 28 = .ok (.iload_n 3, 1) := by decide +kernel
theorem dX4_passDay_29 : decode cX4_passDay 29 = .ok (.dup2, 1) := by decide +kernel
theorem dX4_passDay_30 : decode cX4_passDay 30 = .ok (.iaload, 1) := by decide +kernel
theorem dX4_passDay_31 : decode cX4_passDay 31 = .ok (.aload_n 0, 1) := by decide +kernel
theorem dX4_passDay_32 : decode cX4_passDay 32 = .ok (.getfield 37, 3) := by decide +kernel
theorem dX4_passDay_35 : decode cX4_passDay 35 = .ok (.isub, 1) := by decide +kernel
theorem dX4_passDay_36 : decode cX4_passDay 36 = .ok (.iastore, 1) := by decide +kernel
theorem dX4_passDay_37 : decode cX4_passDay 37 = .ok (.aload_n 0, 1) := by decide +kernel
theorem dX4_passDay_38 : decode cX4_passDay 38 = .ok (.getfield 24, 3) := by decide +kernel
theorem dX4_passDay_41 : decode cX4_passDay 41 = .ok (.iload_n 3, 1) := by decide +kernel
theorem dX4_passDay_42 : decode cX4_passDay 42 = .ok (.bipush 30, 2) := by decide +kernel
theorem dX4_passDay_44 : decode cX4_passDay 44 = .ok (.aload_n 0, 1) := by decide +kernel
theorem dX4_passDay_45 : decode cX4_passDay 45 = .ok (.getfield 24, 3) := by decide +kernel
theorem dX4_passDay_48 : decode cX4_passDay 48 = .ok (.iload_n 3, 1) := by decide +kernel
theorem dX4_passDay_49 : decode cX4_passDay 49 = .ok (.iaload, 1) := by decide +kernel
theorem dX4_passDay_50 : decode cX4_passDay 50 = .ok (.iconst 1, 1) := by decide +kernel
theorem dX4_passDay_51 : decode cX4_passDay 51 = .ok (.iadd, 1) := by decide +kernel
theorem dX4_passDay_52 : decode cX4_passDay 52 = .ok (.invokestatic 82, 3) := by decide +kernel
theorem dX4_passDay_55 : decode cX4_passDay 55 = .ok (.iastore, 1) := by decide +kernel
theorem dX4_passDay_56 : decode cX4_passDay 56 = .ok (.goto 48, 3) := by decide +kernel
theorem dX4_passDay_59 : decode cX4_passDay 59 = .ok (.iload_n 1, 1) := by decide +kernel
theorem dX4_passDay_60 : decode cX4_passDay 60 = .ok (.iload_n 3, 1) := by decide +kernel
theorem dX4_passDay_61 : decode cX4_passDay 61 = .ok (.ishr, 1) := by decide +kernel
theorem dX4_passDay_62 : decode cX4_passDay 62 = .ok (.iconst 1, 1) := by decide +kernel
theorem dX4_passDay_63 : decode cX4_passDay 63 = .ok (.iand, 1) := by decide +kernel
theorem dX4_passDay_64 : decode cX4_passDay 64 = .ok (.ifCond .eq 40, 3) := by decide +kernel
theorem dX4_passDay_67 : decode cX4_passDay 67 = .ok (.aload_n 0, 1) := by decide +kernel
theorem dX4_passDay_68 : decode cX4_passDay 68 = .ok (.getfield 17, 3) := by decide +kernel
theorem dX4_passDay_71 : decode cX4_passDay 71 = .ok (.iload_n 3, 1) := by decide +kernel
theorem dX4_passDay_72 : decode cX4_passDay 72 = .ok (.bipush 30, 2) := by decide +kernel
theorem dX4_passDay_74 : decode cX4_passDay 74 = .ok (.aload_n 0, 1) := by decide +kernel
theorem dX4_passDay_75 : decode cX4_passDay 75 = .ok (.getfield 17, 3) := by decide +kernel
theorem dX4_passDay_78 : decode cX4_passDay 78 = .ok (.iload_n 3, 1) := by decide +kernel
theorem dX4_passDay_79 : decode cX4_passDay 79 = .ok (.iaload, 1) := by decide +kernel
theorem dX4_passDay_80 : decode cX4_passDay 80 = .ok (.iconst 1, 1) := by decide +kernel
theorem dX4_passDay_81 : decode cX4_passDay 81 = .ok (.iadd, 1) := by decide +kernel
theorem dX4_passDay_82 : decode cX4_passDay 82 = .ok (.invokestatic 82, 3) := by decide +kernel
theorem dX4_passDay_85 : decode cX4_passDay 85 = .ok (.iastore, 1) := by decide +kernel
theorem dX4_passDay_86 : decode cX4_passDay 86 = .ok (.aload_n 0, 1) := by decide +kernel
theorem dX4_passDay_87 : decode cX4_passDay 87 = .ok (.getfield 24, 3) := by decide +kernel
theorem dX4_passDay_90 : decode cX4_passDay 90 = .ok (.iload_n 3, 1) := by decide +kernel
theorem dX4_passDay_91 : decode cX4_passDay 91 = .ok (.iconst 0, 1) := by decide +kernel
theorem dX4_passDay_92 : decode cX4_passDay 92 = .ok (.aload_n 0, 1) := by decide +kernel
theorem dX4_passDay_93 : decode cX4_passDay 93 = .ok (.getfield 24, 3) := by decide +kernel
theorem dX4_passDay_96 : decode cX4_passDay 96 = .ok (.iload_n 3, 1) := by decide +kernel
theorem dX4_passDay_97 : decode cX4_passDay 97 = .ok (.iaload, 1) := by decide +kernel
theorem dX4_passDay_98 : decode cX4_passDay 98 = .ok (.iconst 1, 1) := by decide +kernel
theorem dX4_passDay_99 : decode cX4_passDay 99 = .ok (.isub, 1) := by decide +kernel
theorem dX4_passDay_100 : decode cX4_passDay 100 = .ok (.invokestatic 88, 3) := by decide +kernel
theorem dX4_passDay_103 : decode cX4_passDay 103 = .ok (.iastore, 1) := by decide +kernel
theorem dX4_passDay_104 : decode cX4_passDay 104 = .ok (.iinc 3 1, 3) := by decide +kernel
theorem dX4_passDay_107 : decode cX4_passDay 107 = .ok (.goto (-105), 3) := by decide +kernel
theorem dX4_passDay_110 : decode cX4_passDay 110 = .ok (.aload_n 0, 1) := by decide +kernel
theorem dX4_passDay_111 : decode cX4_passDay 111 = .ok (.dup, 1) := by decide +kernel
theorem dX4_passDay_112 : decode cX4_passDay 112 = .ok (.getfield 43, 3) := by decide +kernel
theorem dX4_passDay_115 : decode cX4_passDay 115 = .ok (.iconst 1, 1) := by decide +kernel
theorem dX4_passDay_116 : decode cX4_passDay 116 = .ok (.iadd, 1) := by decide +kernel
theorem dX4_passDay_117 : decode cX4_passDay 117 = .ok (.putfield 43, 3) := by decide +kernel
theorem dX4_passDay_120 : decode cX4_passDay 120 = .ok (.return_, 1) := by decide +kernel
abbrev k_X4_passDay : zK := (cX4_passDay, 4, RX4, none, ({ frames := 1, cells := 0, slots := 0, locals := 17 } : Room))
theorem zc_X4_passDay : zcal yX4_passDay k_X4_passDay.1 k_X4_passDay.2.1 k_X4_passDay.2.2.2.1 2 := ⟨tw_code_yX4_passDay, tw_i_TollForHesitators_Road, ⟨by decide +kernel, by decide +kernel⟩, by decide +kernel⟩
theorem zv_X4_passDay : Cond.instanceMethod yX4_passDay ∈ TS ∧ Cond.selects RX4 yX4_passDay yX4_passDay ∈ TS := ⟨tw_inst_yX4_passDay, tw_s_yX4_passDay⟩
def v_X4_passDay_r : Nat → rT → Int32 → Int32 → Int32 → rT
  | 0, R, _, _, _ => R
  | n + 1, R, v1, v2, v3 => if (R.1 4) ≤ v3 then rsf R 9 ((R.1 9) + 1) else if 7 ≤ v3 then rsf R 9 ((R.1 9) + 1) else kk (if ((v2 >>> (v3 &&& 31)) &&& 1) = 0 then (if ((v1 >>> (v3 &&& 31)) &&& 1) = 0 then R else rsa (rsa R 1 (upd (R.2.1 1) v3.toNatClampNeg (if (((R.2.1 1) v3.toNatClampNeg) + 1) < 30 then ((R.2.1 1) v3.toNatClampNeg) + 1 else 30))) 3 (upd (R.2.1 3) v3.toNatClampNeg (if 0 < (((R.2.1 3) v3.toNatClampNeg) - 1) then ((R.2.1 3) v3.toNatClampNeg) - 1 else 0))) else rsa (rsa R 2 (upd (R.2.1 2) v3.toNatClampNeg (((R.2.1 2) v3.toNatClampNeg) - (R.1 7)))) 3 (upd (R.2.1 3) v3.toNatClampNeg (if (((R.2.1 3) v3.toNatClampNeg) + 1) < 30 then ((R.2.1 3) v3.toNatClampNeg) + 1 else 30))) (fun M39 : rT => v_X4_passDay_r n M39 v1 v2 (v3 + 1))
def p_X4_passDay_r : Nat → rT → Int32 → Int32 → Int32 → Prop
  | 0, _, _, _, _ => False
  | n + 1, R, v1, v2, v3 => if (R.1 4) ≤ v3 then True else if 7 ≤ v3 then True else (if ((v2 >>> (v3 &&& 31)) &&& 1) = 0 then if ((v1 >>> (v3 &&& 31)) &&& 1) = 0 then True else vp_in v3 7 ∧ (vp_in v3 7 ∧ (vp_in v3 7 ∧ vp_in v3 7)) else vp_in v3 7 ∧ (vp_in v3 7 ∧ (vp_in v3 7 ∧ vp_in v3 7))) ∧ (kk (if ((v2 >>> (v3 &&& 31)) &&& 1) = 0 then (if ((v1 >>> (v3 &&& 31)) &&& 1) = 0 then R else rsa (rsa R 1 (upd (R.2.1 1) v3.toNatClampNeg (if (((R.2.1 1) v3.toNatClampNeg) + 1) < 30 then ((R.2.1 1) v3.toNatClampNeg) + 1 else 30))) 3 (upd (R.2.1 3) v3.toNatClampNeg (if 0 < (((R.2.1 3) v3.toNatClampNeg) - 1) then ((R.2.1 3) v3.toNatClampNeg) - 1 else 0))) else rsa (rsa R 2 (upd (R.2.1 2) v3.toNatClampNeg (((R.2.1 2) v3.toNatClampNeg) - (R.1 7)))) 3 (upd (R.2.1 3) v3.toNatClampNeg (if (((R.2.1 3) v3.toNatClampNeg) + 1) < 30 then ((R.2.1 3) v3.toNatClampNeg) + 1 else 30))) (fun M39 : rT => p_X4_passDay_r n M39 v1 v2 (v3 + 1)))
def v_X4_passDay (R : rT) (x1 : Int32) (x2 : Int32) : rT := v_X4_passDay_r 200 R x1 x2 0
def p_X4_passDay (R : rT) (x1 : Int32) (x2 : Int32) : Prop := p_X4_passDay_r 200 R x1 x2 0
set_option maxHeartbeats 4000000 in
theorem w_X4_passDay {G : zG} {P : pT} {Γ : zT} {A : Nat → Prop} {res : rT} (a : Nat → Nat) (hw : wk (gX G P) A Γ.2.2.1.1.heap) (hQ : zQ Γ (Qwv G (fun w => w = rdW G a (res)) A) 0 0 A) : ∀ n : Nat, (∀ (R : rT) (v1 : Int32) (v2 : Int32) (v3 : Int32), p_X4_passDay_r n R v1 v2 v3 → v_X4_passDay_r n R v1 v2 v3 = res → Z k_X4_passDay G Γ (wr G A Γ.2.2.1.1.heap (rdW G a R)) 0 0 [(0, .ref (a 0)), (1, .int v1), (2, .int v2), (3, .int v3)] 2 []) := by
  intro n
  induction n with
  | zero => exact fun R v1 v2 v3 hp => absurd hp (by rw [p_X4_passDay_r]; exact not_false)
  | succ n ih =>
    intro R v1 v2 v3 hp hv
    rw [p_X4_passDay_r] at hp
    rw [v_X4_passDay_r] at hv
    refine z_iload_n dX4_passDay_2 rfl ?_
    refine z_aload_n dX4_passDay_3 rfl ?_
    refine z_get (v := .int (R.1 4)) wr_P 0 rfl rfl uin_X4 4 (Nat.le_of_ble_eq_true rfl) tw_f_RX4_27 rfl rfl dX4_passDay_4 ?_
    refine z_icmp_ge (tgt := 110) dX4_passDay_7 (by decide) (fun c1 => ?_) (fun c1 => ?_)
    · have hp := ip_t hp c1; have hv := it_t hv c1
      refine z_aload_n dX4_passDay_110 rfl ?_
      refine z_dup dX4_passDay_111 rfl ?_
      refine z_get (v := .int (R.1 9)) wr_P 0 rfl rfl uin_X4 9 (Nat.le_of_ble_eq_true rfl) tw_f_RX4_43 rfl rfl dX4_passDay_112 ?_
      refine z_iconst (v := 1) dX4_passDay_115 rfl ?_
      refine z_iadd dX4_passDay_116 ?_
      refine z_put (fs := rdF a R) (v := .int ((R.1 9) + 1)) (ws' := rdW G a (rsf R 9 ((R.1 9) + 1))) 0 rfl rfl uin_X4 tyX4 tyX4_ok nmX4 9 (Nat.le_of_ble_eq_true rfl) tw_f_RX4_43 rfl rfl (ty := .int) rfl rfl rfl (Nat.le_of_ble_eq_true rfl) rfl dX4_passDay_117 ?_
      subst hv; exact z_vret_W hQ rfl rfl rfl rfl dX4_passDay_120
    · have hp := ip_f hp c1; have hv := it_f hv c1
      refine z_iload_n dX4_passDay_10 rfl ?_
      refine z_bipush (v := 7) dX4_passDay_11 rfl ?_
      refine z_icmp_ge (tgt := 110) dX4_passDay_13 (by decide) (fun c15 => ?_) (fun c15 => ?_)
      · have hp := ip_t hp c15; have hv := it_t hv c15
        refine z_aload_n dX4_passDay_110 rfl ?_
        refine z_dup dX4_passDay_111 rfl ?_
        refine z_get (v := .int (R.1 9)) wr_P 0 rfl rfl uin_X4 9 (Nat.le_of_ble_eq_true rfl) tw_f_RX4_43 rfl rfl dX4_passDay_112 ?_
        refine z_iconst (v := 1) dX4_passDay_115 rfl ?_
        refine z_iadd dX4_passDay_116 ?_
        refine z_put (fs := rdF a R) (v := .int ((R.1 9) + 1)) (ws' := rdW G a (rsf R 9 ((R.1 9) + 1))) 0 rfl rfl uin_X4 tyX4 tyX4_ok nmX4 9 (Nat.le_of_ble_eq_true rfl) tw_f_RX4_43 rfl rfl (ty := .int) rfl rfl rfl (Nat.le_of_ble_eq_true rfl) rfl dX4_passDay_117 ?_
        subst hv; exact z_vret_W hQ rfl rfl rfl rfl dX4_passDay_120
      · have hp := ip_f hp c15; have hv := it_f hv c15
        refine z_iload_n dX4_passDay_16 rfl ?_
        refine z_iload_n dX4_passDay_17 rfl ?_
        refine z_ishr dX4_passDay_18 ?_
        refine z_iconst (v := 1) dX4_passDay_19 rfl ?_
        refine z_iand dX4_passDay_20 ?_
        obtain ⟨hpm, hp⟩ := hp
        have J40 : ∀ M39 : rT, M39 = (if ((v2 >>> (v3 &&& 31)) &&& 1) = 0 then (if ((v1 >>> (v3 &&& 31)) &&& 1) = 0 then R else rsa (rsa R 1 (upd (R.2.1 1) v3.toNatClampNeg (if (((R.2.1 1) v3.toNatClampNeg) + 1) < 30 then ((R.2.1 1) v3.toNatClampNeg) + 1 else 30))) 3 (upd (R.2.1 3) v3.toNatClampNeg (if 0 < (((R.2.1 3) v3.toNatClampNeg) - 1) then ((R.2.1 3) v3.toNatClampNeg) - 1 else 0))) else rsa (rsa R 2 (upd (R.2.1 2) v3.toNatClampNeg (((R.2.1 2) v3.toNatClampNeg) - (R.1 7)))) 3 (upd (R.2.1 3) v3.toNatClampNeg (if (((R.2.1 3) v3.toNatClampNeg) + 1) < 30 then ((R.2.1 3) v3.toNatClampNeg) + 1 else 30))) → Z k_X4_passDay G Γ (wr G A Γ.2.2.1.1.heap (rdW G a M39)) 0 0 [(0, .ref (a 0)), (1, .int v1), (2, .int v2), (3, .int v3)] 104 [] := by
          intro M39 eM39
          have hp := kk_pq hp eM39
          have hv := kk_vq hv eM39
          clear eM39
          refine z_iinc (v := v3 + 1) (lv' := [(3, .int (v3 + 1)), (0, .ref (a 0)), (1, .int v1), (2, .int v2)]) dX4_passDay_104 3 rfl rfl (Nat.le_of_ble_eq_true rfl) rfl ?_
          refine z_goto (tgt := 2) dX4_passDay_107 (by decide) ?_
          exact z_lv rfl ((ih) M39 v1 v2 (v3 + 1) hp hv)
        refine z_if_eq (tgt := 59) dX4_passDay_21 (by decide) (fun c28 => ?_) (fun c28 => ?_)
        · have hp := ip_t hpm c28
          refine z_iload_n dX4_passDay_59 rfl ?_
          refine z_iload_n dX4_passDay_60 rfl ?_
          refine z_ishr dX4_passDay_61 ?_
          refine z_iconst (v := 1) dX4_passDay_62 rfl ?_
          refine z_iand dX4_passDay_63 ?_
          have hpm := hp
          have J41 : ∀ M34 : rT, M34 = (if ((v1 >>> (v3 &&& 31)) &&& 1) = 0 then R else rsa (rsa R 1 (upd (R.2.1 1) v3.toNatClampNeg (if (((R.2.1 1) v3.toNatClampNeg) + 1) < 30 then ((R.2.1 1) v3.toNatClampNeg) + 1 else 30))) 3 (upd (R.2.1 3) v3.toNatClampNeg (if 0 < (((R.2.1 3) v3.toNatClampNeg) - 1) then ((R.2.1 3) v3.toNatClampNeg) - 1 else 0))) → Z k_X4_passDay G Γ (wr G A Γ.2.2.1.1.heap (rdW G a M34)) 0 0 [(0, .ref (a 0)), (1, .int v1), (2, .int v2), (3, .int v3)] 104 [] := by
            intro M34 eM34
            rewrite [eM34]; clear eM34
            exact z_lv rfl (J40 _ (if_pos c28).symm)
          refine z_if_eq (tgt := 104) dX4_passDay_64 (by decide) (fun c29 => ?_) (fun c29 => ?_)
          · have hp := ip_t hpm c29
            exact z_lv rfl (J41 _ (if_pos c29).symm)
          · have hp := ip_f hpm c29
            refine z_aload_n dX4_passDay_67 rfl ?_
            refine z_get (v := .ref (a 2)) wr_P 0 rfl rfl uin_X4 1 (Nat.le_of_ble_eq_true rfl) tw_f_RX4_17 rfl rfl dX4_passDay_68 ?_
            refine z_iload_n dX4_passDay_71 rfl ?_
            refine z_bipush (v := 30) dX4_passDay_72 rfl ?_
            refine z_aload_n dX4_passDay_74 rfl ?_
            refine z_get (v := .ref (a 2)) wr_P 0 rfl rfl uin_X4 1 (Nat.le_of_ble_eq_true rfl) tw_f_RX4_17 rfl rfl dX4_passDay_75 ?_
            refine z_iload_n dX4_passDay_78 rfl ?_
            obtain ⟨q30, hp⟩ := hp
            refine z_ialdx (x := (R.2.1 1) v3.toNatClampNeg) wr_P 2 rfl q30 rfl dX4_passDay_79 ?_
            refine z_iconst (v := 1) dX4_passDay_80 rfl ?_
            refine z_iadd dX4_passDay_81 ?_
            refine z_min tw_m_RX4_82 tw_st_yJ9_min_7cf53 tw_i_java_lang_Math tw_code_yJ9_min_7cf53 ⟨Nat.le_of_ble_eq_true rfl, Nat.le_of_ble_eq_true rfl, Nat.le_of_ble_eq_true rfl, Nat.le_of_ble_eq_true rfl⟩ dX4_passDay_82 ?_
            obtain ⟨q31, hp⟩ := hp
            refine z_iastx (F := upd (R.2.1 1) v3.toNatClampNeg (if (((R.2.1 1) v3.toNatClampNeg) + 1) < 30 then ((R.2.1 1) v3.toNatClampNeg) + 1 else 30)) (ws' := rdW G a (rsa R 1 (upd (R.2.1 1) v3.toNatClampNeg (if (((R.2.1 1) v3.toNatClampNeg) + 1) < 30 then ((R.2.1 1) v3.toNatClampNeg) + 1 else 30)))) 2 rfl q31 rfl rfl dX4_passDay_85 ?_
            refine z_aload_n dX4_passDay_86 rfl ?_
            refine z_get (v := .ref (a 4)) wr_P 0 rfl rfl uin_X4 3 (Nat.le_of_ble_eq_true rfl) tw_f_RX4_24 rfl rfl dX4_passDay_87 ?_
            refine z_iload_n dX4_passDay_90 rfl ?_
            refine z_iconst (v := 0) dX4_passDay_91 rfl ?_
            refine z_aload_n dX4_passDay_92 rfl ?_
            refine z_get (v := .ref (a 4)) wr_P 0 rfl rfl uin_X4 3 (Nat.le_of_ble_eq_true rfl) tw_f_RX4_24 rfl rfl dX4_passDay_93 ?_
            refine z_iload_n dX4_passDay_96 rfl ?_
            obtain ⟨q32, hp⟩ := hp
            refine z_ialdx (x := (R.2.1 3) v3.toNatClampNeg) wr_P 4 rfl q32 rfl dX4_passDay_97 ?_
            refine z_iconst (v := 1) dX4_passDay_98 rfl ?_
            refine z_isub dX4_passDay_99 ?_
            refine z_max tw_m_RX4_88 tw_st_yJ9_max_7cf53 tw_i_java_lang_Math tw_code_yJ9_max_7cf53 ⟨Nat.le_of_ble_eq_true rfl, Nat.le_of_ble_eq_true rfl, Nat.le_of_ble_eq_true rfl, Nat.le_of_ble_eq_true rfl⟩ dX4_passDay_100 ?_
            have q33 := hp
            refine z_iastx (F := upd (R.2.1 3) v3.toNatClampNeg (if 0 < (((R.2.1 3) v3.toNatClampNeg) - 1) then ((R.2.1 3) v3.toNatClampNeg) - 1 else 0)) (ws' := rdW G a (rsa (rsa R 1 (upd (R.2.1 1) v3.toNatClampNeg (if (((R.2.1 1) v3.toNatClampNeg) + 1) < 30 then ((R.2.1 1) v3.toNatClampNeg) + 1 else 30))) 3 (upd (R.2.1 3) v3.toNatClampNeg (if 0 < (((R.2.1 3) v3.toNatClampNeg) - 1) then ((R.2.1 3) v3.toNatClampNeg) - 1 else 0)))) 4 rfl q33 rfl rfl dX4_passDay_103 ?_
            exact z_lv rfl (J41 _ (if_neg c29).symm)
        · have hp := ip_f hpm c28
          refine z_aload_n dX4_passDay_24 rfl ?_
          refine z_get (v := .ref (a 3)) wr_P 0 rfl rfl uin_X4 2 (Nat.le_of_ble_eq_true rfl) tw_f_RX4_21 rfl rfl dX4_passDay_25 ?_
          refine z_iload_n dX4_passDay_28 rfl ?_
          refine z_dup2_11 dX4_passDay_29 rfl rfl ?_
          obtain ⟨q35, hp⟩ := hp
          refine z_ialdx (x := (R.2.1 2) v3.toNatClampNeg) wr_P 3 rfl q35 rfl dX4_passDay_30 ?_
          refine z_aload_n dX4_passDay_31 rfl ?_
          refine z_get (v := .int (R.1 7)) wr_P 0 rfl rfl uin_X4 7 (Nat.le_of_ble_eq_true rfl) tw_f_RX4_37 rfl rfl dX4_passDay_32 ?_
          refine z_isub dX4_passDay_35 ?_
          obtain ⟨q36, hp⟩ := hp
          refine z_iastx (F := upd (R.2.1 2) v3.toNatClampNeg (((R.2.1 2) v3.toNatClampNeg) - (R.1 7))) (ws' := rdW G a (rsa R 2 (upd (R.2.1 2) v3.toNatClampNeg (((R.2.1 2) v3.toNatClampNeg) - (R.1 7))))) 3 rfl q36 rfl rfl dX4_passDay_36 ?_
          refine z_aload_n dX4_passDay_37 rfl ?_
          refine z_get (v := .ref (a 4)) wr_P 0 rfl rfl uin_X4 3 (Nat.le_of_ble_eq_true rfl) tw_f_RX4_24 rfl rfl dX4_passDay_38 ?_
          refine z_iload_n dX4_passDay_41 rfl ?_
          refine z_bipush (v := 30) dX4_passDay_42 rfl ?_
          refine z_aload_n dX4_passDay_44 rfl ?_
          refine z_get (v := .ref (a 4)) wr_P 0 rfl rfl uin_X4 3 (Nat.le_of_ble_eq_true rfl) tw_f_RX4_24 rfl rfl dX4_passDay_45 ?_
          refine z_iload_n dX4_passDay_48 rfl ?_
          obtain ⟨q37, hp⟩ := hp
          refine z_ialdx (x := (R.2.1 3) v3.toNatClampNeg) wr_P 4 rfl q37 rfl dX4_passDay_49 ?_
          refine z_iconst (v := 1) dX4_passDay_50 rfl ?_
          refine z_iadd dX4_passDay_51 ?_
          refine z_min tw_m_RX4_82 tw_st_yJ9_min_7cf53 tw_i_java_lang_Math tw_code_yJ9_min_7cf53 ⟨Nat.le_of_ble_eq_true rfl, Nat.le_of_ble_eq_true rfl, Nat.le_of_ble_eq_true rfl, Nat.le_of_ble_eq_true rfl⟩ dX4_passDay_52 ?_
          have q38 := hp
          refine z_iastx (F := upd (R.2.1 3) v3.toNatClampNeg (if (((R.2.1 3) v3.toNatClampNeg) + 1) < 30 then ((R.2.1 3) v3.toNatClampNeg) + 1 else 30)) (ws' := rdW G a (rsa (rsa R 2 (upd (R.2.1 2) v3.toNatClampNeg (((R.2.1 2) v3.toNatClampNeg) - (R.1 7)))) 3 (upd (R.2.1 3) v3.toNatClampNeg (if (((R.2.1 3) v3.toNatClampNeg) + 1) < 30 then ((R.2.1 3) v3.toNatClampNeg) + 1 else 30)))) 4 rfl q38 rfl rfl dX4_passDay_55 ?_
          refine z_goto (tgt := 104) dX4_passDay_56 (by decide) ?_
          exact z_lv rfl (J40 _ (if_neg c28).symm)
set_option maxHeartbeats 4000000 in
theorem c_X4_passDay {l : Launch} (G : zG) (P : pT) (a : Nat → Nat) (sz : Nat) (R : rT) (x1 : Int32) (x2 : Int32) (hp : p_X4_passDay R x1 x2) : Met l yX4_passDay (.code yX4_passDay k_X4_passDay.1 k_X4_passDay.2.1 k_X4_passDay.2.2.2.1 :: TS) k_X4_passDay.2.2.2.2 (Pz G [.ref (a 0), .int x1, .int x2] (Fw G (gX G P) (rdW G a R) sz)) (Qwv G (fun w => w = rdW G a (v_X4_passDay R x1 x2)) (va_A (rdW G a R) sz)) 0 0 (va_A (rdW G a R) sz) := by
  refine zmet (K := k_X4_passDay) (by decide +kernel) rfl rfl (fun Γ hl0 hQ hN hF => ?_)
  refine z_start (gX_ok G P) hF (fun hw => ?_)
  generalize va_A (rdW G a R) sz = A at hQ hw ⊢
  obtain ⟨res, hv⟩ : ∃ res, v_X4_passDay R x1 x2 = res := ⟨_, rfl⟩
  rw [hv] at hQ
  unfold v_X4_passDay at hv
  unfold p_X4_passDay at hp
  show Z k_X4_passDay G Γ _ 0 0 [(0, .ref (a 0)), (1, .int x1), (2, .int x2)] 0 []
  refine z_iconst (v := 0) dX4_passDay_0 rfl ?_
  refine z_istore_n (lv' := [(3, .int 0), (0, .ref (a 0)), (1, .int x1), (2, .int x2)]) dX4_passDay_1 (Nat.le_of_ble_eq_true rfl) rfl ?_
  exact z_lv rfl ((w_X4_passDay a hw hQ 200) R x1 x2 0 hp hv)
theorem dX4_draw_0 : decode cX4_draw 0 = .ok (.aload_n 0, 1) := by decide +kernel
theorem dX4_draw_1 : decode cX4_draw 1 = .ok (.aload_n 0, 1) := by decide +kernel
theorem dX4_draw_2 : decode cX4_draw 2 = .ok (.getfield 46, 3) := by decide +kernel
theorem dX4_draw_5 : decode cX4_draw 5 = .ok (.ldc 91, 2) := by decide +kernel
theorem dX4_draw_7 : decode cX4_draw 7 = .ok (.imul, 1) := by decide +kernel
theorem dX4_draw_8 : decode cX4_draw 8 = .ok (.sipush 12345, 3) := by decide +kernel
theorem dX4_draw_11 : decode cX4_draw 11 = .ok (.iadd, 1) := by decide +kernel
theorem dX4_draw_12 : decode cX4_draw 12 = .ok (.putfield 46, 3) := by decide +kernel
theorem dX4_draw_15 : decode cX4_draw 15 = .ok (.iload_n 1, 1) := by decide +kernel
theorem dX4_draw_16 : decode cX4_draw 16 = .ok (.ifCond .gt 7, 3) := by decide +kernel
theorem dX4_draw_19 : decode cX4_draw 19 = .ok (.iconst 0, 1) := by decide +kernel
theorem dX4_draw_20 : decode cX4_draw 20 = .ok (.goto 12, 3) := by decide +kernel
theorem dX4_draw_23 : decode cX4_draw 23 = .ok (.aload_n 0, 1) := by decide +kernel
theorem dX4_draw_24 : decode cX4_draw 24 = .ok (.getfield 46, 3) := by decide +kernel
theorem dX4_draw_27 : decode cX4_draw 27 = .ok (.bipush 16, 2) := by decide +kernel
theorem dX4_draw_29 : decode cX4_draw 29 = .ok (.iushr, 1) := by decide +kernel
theorem dX4_draw_30 : decode cX4_draw 30 = .ok (.iload_n 1, 1) := by decide +kernel
theorem dX4_draw_31 : decode cX4_draw 31 = .ok (.irem, 1) := by decide +kernel
theorem dX4_draw_32 : decode cX4_draw 32 = .ok (.ireturn, 1) := by decide +kernel
abbrev k_X4_draw : zK := (cX4_draw, 2, RX4, (some .int), ({ frames := 0, cells := 0, slots := 0, locals := 0 } : Room))
theorem zc_X4_draw : zcal yX4_draw k_X4_draw.1 k_X4_draw.2.1 k_X4_draw.2.2.2.1 1 := ⟨tw_code_yX4_draw, tw_i_TollForHesitators_Road, ⟨by decide +kernel, by decide +kernel⟩, by decide +kernel⟩
theorem zv_X4_draw : Cond.instanceMethod yX4_draw ∈ TS ∧ Cond.selects RX4 yX4_draw yX4_draw ∈ TS := ⟨tw_inst_yX4_draw, tw_s_yX4_draw⟩
def v_X4_draw (R : rT) (x1 : Int32) : Int32 × rT := ((if 0 < x1 then (((((R.1 10) * 1103515245) + 12345).toUInt32 >>> (((16) : Int32).toUInt32 &&& Int32.toUInt32 31)).toInt32) - (((((R.1 10) * 1103515245) + 12345).toUInt32 >>> (((16) : Int32).toUInt32 &&& Int32.toUInt32 31)).toInt32) / x1 * x1 else 0), rsf R 10 (((R.1 10) * 1103515245) + 12345))
def p_X4_draw (R : rT) (x1 : Int32) : Prop := if 0 < x1 then ¬ x1 = 0 else True
set_option maxHeartbeats 4000000 in
theorem c_X4_draw {l : Launch} (G : zG) (P : pT) (a : Nat → Nat) (sz : Nat) (R : rT) (x1 : Int32) (hp : p_X4_draw R x1) : Met l yX4_draw (.code yX4_draw k_X4_draw.1 k_X4_draw.2.1 k_X4_draw.2.2.2.1 :: TS) k_X4_draw.2.2.2.2 (Pz G [.ref (a 0), .int x1] (Fw G (gX G P) (rdW G a R) sz)) (Qwi G (fun r w => r = (v_X4_draw R x1).1 ∧ w = rdW G a ((v_X4_draw R x1).2)) (va_A (rdW G a R) sz)) 0 0 (va_A (rdW G a R) sz) := by
  refine zmet (K := k_X4_draw) (by decide +kernel) rfl rfl (fun Γ hl0 hQ hN hF => ?_)
  refine z_start (gX_ok G P) hF (fun hw => ?_)
  generalize va_A (rdW G a R) sz = A at hQ hw ⊢
  obtain ⟨res, hv⟩ : ∃ res, v_X4_draw R x1 = res := ⟨_, rfl⟩
  rw [hv] at hQ
  unfold v_X4_draw at hv
  unfold p_X4_draw at hp
  show Z k_X4_draw G Γ _ 0 0 [(0, .ref (a 0)), (1, .int x1)] 0 []
  refine z_aload_n dX4_draw_0 rfl ?_
  refine z_aload_n dX4_draw_1 rfl ?_
  refine z_get (v := .int (R.1 10)) wr_P 0 rfl rfl uin_X4 10 (Nat.le_of_ble_eq_true rfl) tw_f_RX4_46 rfl rfl dX4_draw_2 ?_
  refine z_ldc tw_c_RX4_91 dX4_draw_5 ?_
  refine z_imul dX4_draw_7 ?_
  refine z_sipush (v := 12345) dX4_draw_8 rfl ?_
  refine z_iadd dX4_draw_11 ?_
  refine z_put (fs := rdF a R) (v := .int (((R.1 10) * 1103515245) + 12345)) (ws' := rdW G a (rsf R 10 (((R.1 10) * 1103515245) + 12345))) 0 rfl rfl uin_X4 tyX4 tyX4_ok nmX4 10 (Nat.le_of_ble_eq_true rfl) tw_f_RX4_46 rfl rfl (ty := .int) rfl rfl rfl (Nat.le_of_ble_eq_true rfl) rfl dX4_draw_12 ?_
  refine z_iload_n dX4_draw_15 rfl ?_
  have hpm := hp
  have J4 : ∀ m3 : Int32, m3 = (if 0 < x1 then (((((R.1 10) * 1103515245) + 12345).toUInt32 >>> (((16) : Int32).toUInt32 &&& Int32.toUInt32 31)).toInt32) - (((((R.1 10) * 1103515245) + 12345).toUInt32 >>> (((16) : Int32).toUInt32 &&& Int32.toUInt32 31)).toInt32) / x1 * x1 else 0) → Z k_X4_draw G Γ (wr G A Γ.2.2.1.1.heap (rdW G a (rsf R 10 (((R.1 10) * 1103515245) + 12345)))) 0 0 [(0, .ref (a 0)), (1, .int x1)] 32 [.int m3] := by
    intro m3 em3
    rewrite [em3]; clear em3
    subst hv; exact z_iret_W hQ rfl rfl rfl ⟨rfl, rfl⟩ dX4_draw_32
  refine z_if_gt (tgt := 23) dX4_draw_16 (by decide) (fun c1 => ?_) (fun c1 => ?_)
  · have hp := ip_t hpm c1
    refine z_aload_n dX4_draw_23 rfl ?_
    refine z_get (v := .int (((R.1 10) * 1103515245) + 12345)) wr_P 0 rfl rfl uin_X4 10 (Nat.le_of_ble_eq_true rfl) tw_f_RX4_46 rfl rfl dX4_draw_24 ?_
    refine z_bipush (v := 16) dX4_draw_27 rfl ?_
    refine z_iushr dX4_draw_29 ?_
    refine z_iload_n dX4_draw_30 rfl ?_
    have q2 := hp
    refine z_irem dX4_draw_31 q2 ?_
    exact z_lv rfl (J4 _ (if_pos c1).symm)
  · have hp := ip_f hpm c1
    refine z_iconst (v := 0) dX4_draw_19 rfl ?_
    refine z_goto (tgt := 32) dX4_draw_20 (by decide) ?_
    exact z_lv rfl (J4 _ (if_neg c1).symm)
theorem dX2_memberAt_0 : decode cX2_memberAt 0 = .ok (.iload_n 1, 1) := by decide +kernel
theorem dX2_memberAt_1 : decode cX2_memberAt 1 = .ok (.ifCond .lt 20, 3) := by decide +kernel
theorem dX2_memberAt_4 : decode cX2_memberAt 4 = .ok (.iload_n 1, 1) := by decide +kernel
theorem dX2_memberAt_5 : decode cX2_memberAt 5 = .ok (.aload_n 0, 1) := by decide +kernel
theorem dX2_memberAt_6 : decode cX2_memberAt 6 = .ok (.getfield 18, 3) := by decide +kernel
theorem dX2_memberAt_9 : decode cX2_memberAt 9 = .ok (.if_icmp .ge 12, 3) := by decide +kernel
theorem dX2_memberAt_12 : decode cX2_memberAt 12 = .ok (.iload_n 1, 1) := by decide +kernel
theorem dX2_memberAt_13 : decode cX2_memberAt 13 = .ok (.aload_n 0, 1) := by decide +kernel
theorem dX2_memberAt_14 : decode cX2_memberAt 14 = .ok (.getfield 9, 3) := by decide +kernel
theorem dX2_memberAt_17 : decode cX2_memberAt 17 = .ok (.arraylength, 1) := by decide +kernel
theorem dX2_memberAt_18 : decode cX2_memberAt 18 = .ok (.if_icmp .lt 7, 3) := by decide +kernel
theorem dX2_memberAt_21 : decode cX2_memberAt 21 = .ok (.iconst (-1), 1) := by decide +kernel
theorem dX2_memberAt_22 : decode cX2_memberAt 22 = .ok (.goto 9, 3) := by decide +kernel
theorem dX2_memberAt_25 : decode cX2_memberAt 25 = .ok (.aload_n 0, 1) := by decide +kernel
theorem dX2_memberAt_26 : decode cX2_memberAt 26 = .ok (.getfield 9, 3) := by decide +kernel
theorem dX2_memberAt_29 : decode cX2_memberAt 29 = .ok (.iload_n 1, 1) := by decide +kernel
theorem dX2_memberAt_30 : decode cX2_memberAt 30 = .ok (.iaload, 1) := by decide +kernel
theorem dX2_memberAt_31 : decode cX2_memberAt 31 = .ok (.ireturn, 1) := by decide +kernel
abbrev k_X2_memberAt : zK := (cX2_memberAt, 2, RX2, (some .int), ({ frames := 0, cells := 0, slots := 0, locals := 0 } : Room))
theorem zc_X2_memberAt : zcal yX2_memberAt k_X2_memberAt.1 k_X2_memberAt.2.1 k_X2_memberAt.2.2.2.1 1 := ⟨tw_code_yX2_memberAt, tw_i_TollForHesitators_Order, ⟨by decide +kernel, by decide +kernel⟩, by decide +kernel⟩
theorem zv_X2_memberAt : Cond.instanceMethod yX2_memberAt ∈ TS ∧ Cond.selects RX2 yX2_memberAt yX2_memberAt ∈ TS := ⟨tw_inst_yX2_memberAt, tw_s_yX2_memberAt⟩
def v_X2_memberAt (O : oT) (x1 : Int32) : Int32 := (if x1 < 0 then (-1) else (if (O.1 3) ≤ x1 then (-1) else (if x1 < 7 then (O.2 1) x1.toNatClampNeg else (-1))))
def p_X2_memberAt (O : oT) (x1 : Int32) : Prop := if x1 < 0 then True else if (O.1 3) ≤ x1 then True else if x1 < 7 then vp_in x1 7 else True
set_option maxHeartbeats 4000000 in
theorem c_X2_memberAt {l : Launch} (G : zG) (P : pT) (a : Nat → Nat) (b : Nat → Nat) (O : oT) (x1 : Int32) (hp : p_X2_memberAt O x1) : Met l yX2_memberAt (.code yX2_memberAt k_X2_memberAt.1 k_X2_memberAt.2.1 k_X2_memberAt.2.2.2.1 :: TS) k_X2_memberAt.2.2.2.2 (Pz G [.ref (a 0), .int x1] (Fr G P (orW G a b O))) (vp_Si (fun r => r = v_X2_memberAt O x1)) 0 0 (fun _ => False) := by
  refine zmet (K := k_X2_memberAt) (by decide +kernel) rfl rfl (fun Γ hl0 hQ hN hF => ?_)
  have hI := rd_P (G := G) hF.1
  have hG := rd_F hF.2
  obtain ⟨res, hv⟩ : ∃ res, v_X2_memberAt O x1 = res := ⟨_, rfl⟩
  rw [hv] at hQ
  unfold v_X2_memberAt at hv
  unfold p_X2_memberAt at hp
  show Z k_X2_memberAt G Γ _ 0 0 [(0, .ref (a 0)), (1, .int x1)] 0 []
  refine z_iload_n dX2_memberAt_0 rfl ?_
  have hpm := hp
  have J8 : ∀ m7 : Int32, m7 = (if x1 < 0 then (-1) else (if (O.1 3) ≤ x1 then (-1) else (if x1 < 7 then (O.2 1) x1.toNatClampNeg else (-1)))) → Z k_X2_memberAt G Γ (rd Γ.2.2.1.1.heap) 0 0 [(0, .ref (a 0)), (1, .int x1)] 31 [.int m7] := by
    intro m7 em7
    rewrite [em7]; clear em7
    exact z_iret_S hQ rfl hv dX2_memberAt_31
  refine z_if_lt (tgt := 21) dX2_memberAt_1 (by decide) (fun c1 => ?_) (fun c1 => ?_)
  · have hp := ip_t hpm c1
    refine z_iconst (v := (-1)) dX2_memberAt_21 rfl ?_
    refine z_goto (tgt := 31) dX2_memberAt_22 (by decide) ?_
    exact z_lv rfl (J8 _ (if_pos c1).symm)
  · have hp := ip_f hpm c1
    refine z_iload_n dX2_memberAt_4 rfl ?_
    refine z_aload_n dX2_memberAt_5 rfl ?_
    refine z_get (v := .int (O.1 3)) hI 0 rfl rfl uin_X2 3 (Nat.le_of_ble_eq_true rfl) tw_f_RX2_18 rfl rfl dX2_memberAt_6 ?_
    have hpm := hp
    have J9 : ∀ m6 : Int32, m6 = (if (O.1 3) ≤ x1 then (-1) else (if x1 < 7 then (O.2 1) x1.toNatClampNeg else (-1))) → Z k_X2_memberAt G Γ (rd Γ.2.2.1.1.heap) 0 0 [(0, .ref (a 0)), (1, .int x1)] 31 [.int m6] := by
      intro m6 em6
      rewrite [em6]; clear em6
      exact z_lv rfl (J8 _ (if_neg c1).symm)
    refine z_icmp_ge (tgt := 21) dX2_memberAt_9 (by decide) (fun c2 => ?_) (fun c2 => ?_)
    · have hp := ip_t hpm c2
      refine z_iconst (v := (-1)) dX2_memberAt_21 rfl ?_
      refine z_goto (tgt := 31) dX2_memberAt_22 (by decide) ?_
      exact z_lv rfl (J9 _ (if_pos c2).symm)
    · have hp := ip_f hpm c2
      refine z_iload_n dX2_memberAt_12 rfl ?_
      refine z_aload_n dX2_memberAt_13 rfl ?_
      refine z_get (v := .ref (a 1)) hI 0 rfl rfl uin_X2 1 (Nat.le_of_ble_eq_true rfl) tw_f_RX2_9 rfl rfl dX2_memberAt_14 ?_
      refine z_alen (cA := G.2.2.1 0) (v := 7) 0 (fun _ => rfl) hI 1 rfl rfl dX2_memberAt_17 ?_
      have hpm := hp
      have J10 : ∀ m5 : Int32, m5 = (if x1 < 7 then (O.2 1) x1.toNatClampNeg else (-1)) → Z k_X2_memberAt G Γ (rd Γ.2.2.1.1.heap) 0 0 [(0, .ref (a 0)), (1, .int x1)] 31 [.int m5] := by
        intro m5 em5
        rewrite [em5]; clear em5
        exact z_lv rfl (J9 _ (if_neg c2).symm)
      refine z_icmp_lt (tgt := 25) dX2_memberAt_18 (by decide) (fun c3 => ?_) (fun c3 => ?_)
      · have hp := ip_t hpm c3
        refine z_aload_n dX2_memberAt_25 rfl ?_
        refine z_get (v := .ref (a 1)) hI 0 rfl rfl uin_X2 1 (Nat.le_of_ble_eq_true rfl) tw_f_RX2_9 rfl rfl dX2_memberAt_26 ?_
        refine z_iload_n dX2_memberAt_29 rfl ?_
        have q4 := hp
        refine z_ialdx (x := (O.2 1) x1.toNatClampNeg) hI 1 rfl q4 rfl dX2_memberAt_30 ?_
        exact z_lv rfl (J10 _ (if_pos c3).symm)
      · have hp := ip_f hpm c3
        refine z_iconst (v := (-1)) dX2_memberAt_21 rfl ?_
        refine z_goto (tgt := 31) dX2_memberAt_22 (by decide) ?_
        exact z_lv rfl (J10 _ (if_neg c3).symm)
theorem dX2_nerveAt_0 : decode cX2_nerveAt 0 = .ok (.aload_n 0, 1) := by decide +kernel
theorem dX2_nerveAt_1 : decode cX2_nerveAt 1 = .ok (.getfield 34, 3) := by decide +kernel
theorem dX2_nerveAt_4 : decode cX2_nerveAt 4 = .ok (.aload_n 0, 1) := by decide +kernel
theorem dX2_nerveAt_5 : decode cX2_nerveAt 5 = .ok (.iload_n 1, 1) := by decide +kernel
theorem dX2_nerveAt_6 : decode cX2_nerveAt 6 = .ok (.invokevirtual 38, 3) := by decide +kernel
theorem dX2_nerveAt_9 : decode cX2_nerveAt 9 = .ok (.invokevirtual 42, 3) := by decide +kernel
theorem dX2_nerveAt_12 : decode cX2_nerveAt 12 = .ok (.ireturn, 1) := by decide +kernel
abbrev k_X2_nerveAt : zK := (cX2_nerveAt, 2, RX2, (some .int), ({ frames := 3, cells := 0, slots := 0, locals := 63 } : Room))
theorem zc_X2_nerveAt : zcal yX2_nerveAt k_X2_nerveAt.1 k_X2_nerveAt.2.1 k_X2_nerveAt.2.2.2.1 1 := ⟨tw_code_yX2_nerveAt, tw_i_TollForHesitators_Order, ⟨by decide +kernel, by decide +kernel⟩, by decide +kernel⟩
theorem zv_X2_nerveAt : Cond.instanceMethod yX2_nerveAt ∈ TS ∧ Cond.selects RX2 yX2_nerveAt yX2_nerveAt ∈ TS := ⟨tw_inst_yX2_nerveAt, tw_s_yX2_nerveAt⟩
def v_X2_nerveAt (O : oT) (R : rT) (x1 : Int32) : Int32 := (v_X4_nerveOf R (v_X2_memberAt O x1))
def p_X2_nerveAt (O : oT) (R : rT) (x1 : Int32) : Prop := p_X2_memberAt O x1 ∧ (p_X4_nerveOf R (v_X2_memberAt O x1))
set_option maxHeartbeats 4000000 in
theorem c_X2_nerveAt {l : Launch} (G : zG) (P : pT) (a : Nat → Nat) (b : Nat → Nat) (O : oT) (R : rT) (x1 : Int32) (hp : p_X2_nerveAt O R x1) : Met l yX2_nerveAt (.code yX2_nerveAt k_X2_nerveAt.1 k_X2_nerveAt.2.1 k_X2_nerveAt.2.2.2.1 :: TS) k_X2_nerveAt.2.2.2.2 (Pz G [.ref (a 0), .int x1] (Fr G P (orW G a b O ++ rdW G b R))) (vp_Si (fun r => r = v_X2_nerveAt O R x1)) 0 0 (fun _ => False) := by
  refine zmet (K := k_X2_nerveAt) (by decide +kernel) rfl rfl (fun Γ hl0 hQ hN hF => ?_)
  have hI := rd_P (G := G) hF.1
  have hG := rd_F hF.2
  obtain ⟨res, hv⟩ : ∃ res, v_X2_nerveAt O R x1 = res := ⟨_, rfl⟩
  rw [hv] at hQ
  unfold v_X2_nerveAt at hv
  unfold p_X2_nerveAt at hp
  show Z k_X2_nerveAt G Γ _ 0 0 [(0, .ref (a 0)), (1, .int x1)] 0 []
  refine z_aload_n dX2_nerveAt_0 rfl ?_
  refine z_get (v := .ref (b 0)) hI 0 rfl rfl uin_X2 0 (Nat.le_of_ble_eq_true rfl) tw_f_RX2_34 rfl rfl dX2_nerveAt_1 ?_
  refine z_aload_n dX2_nerveAt_4 rfl ?_
  refine z_iload_n dX2_nerveAt_5 rfl ?_
  obtain ⟨q1, hp⟩ := hp
  refine z_cvi (c_X2_memberAt G P a b O x1 q1) zc_X2_memberAt zv_X2_memberAt tw_m_RX2_38 (zrec_of hI 0 rfl rfl) (fr_all (sub_P hI [0, 1, 2] rfl) hG) (zroom_of rfl) rfl (Nat.le_of_ble_eq_true rfl) dX2_nerveAt_6 ?_
  have q2 := hp
  refine z_cvi (c_X4_nerveOf G P b R (v_X2_memberAt O x1) q2) zc_X4_nerveOf zv_X4_nerveOf tw_m_RX2_42 (zrec_of hI 3 rfl rfl) (fr_all (sub_P hI [3, 4, 5, 6, 7] rfl) hG) (zroom_of rfl) rfl (Nat.le_of_ble_eq_true rfl) dX2_nerveAt_9 ?_
  exact z_iret_S hQ rfl hv dX2_nerveAt_12
theorem dX2_paid_0 : decode cX2_paid 0 = .ok (.aload_n 0, 1) := by decide +kernel
theorem dX2_paid_1 : decode cX2_paid 1 = .ok (.getfield 34, 3) := by decide +kernel
theorem dX2_paid_4 : decode cX2_paid 4 = .ok (.getfield 47, 3) := by decide +kernel
theorem dX2_paid_7 : decode cX2_paid 7 = .ok (.aload_n 0, 1) := by decide +kernel
theorem dX2_paid_8 : decode cX2_paid 8 = .ok (.getfield 25, 3) := by decide +kernel
theorem dX2_paid_11 : decode cX2_paid 11 = .ok (.invokestatic 50, 3) := by decide +kernel
theorem dX2_paid_14 : decode cX2_paid 14 = .ok (.imul, 1) := by decide +kernel
theorem dX2_paid_15 : decode cX2_paid 15 = .ok (.ireturn, 1) := by decide +kernel
abbrev k_X2_paid : zK := (cX2_paid, 1, RX2, (some .int), ({ frames := 1, cells := 0, slots := 0, locals := 20 } : Room))
theorem zc_X2_paid : zcal yX2_paid k_X2_paid.1 k_X2_paid.2.1 k_X2_paid.2.2.2.1 0 := ⟨tw_code_yX2_paid, tw_i_TollForHesitators_Order, ⟨by decide +kernel, by decide +kernel⟩, by decide +kernel⟩
theorem zv_X2_paid : Cond.instanceMethod yX2_paid ∈ TS ∧ Cond.selects RX2 yX2_paid yX2_paid ∈ TS := ⟨tw_inst_yX2_paid, tw_s_yX2_paid⟩
def v_X2_paid (O : oT) (R : rT) : Int32 := (R.1 7) * (v_J6_bitCount_0f7a4 (O.1 5))
set_option maxHeartbeats 4000000 in
theorem c_X2_paid {l : Launch} (G : zG) (P : pT) (a : Nat → Nat) (b : Nat → Nat) (O : oT) (R : rT) : Met l yX2_paid (.code yX2_paid k_X2_paid.1 k_X2_paid.2.1 k_X2_paid.2.2.2.1 :: TS) k_X2_paid.2.2.2.2 (Pz G [.ref (a 0)] (Fr G P (orW G a b O ++ rdW G b R))) (vp_Si (fun r => r = v_X2_paid O R)) 0 0 (fun _ => False) := by
  refine zmet (K := k_X2_paid) (by decide +kernel) rfl rfl (fun Γ hl0 hQ hN hF => ?_)
  have hI := rd_P (G := G) hF.1
  have hG := rd_F hF.2
  obtain ⟨res, hv⟩ : ∃ res, v_X2_paid O R = res := ⟨_, rfl⟩
  rw [hv] at hQ
  unfold v_X2_paid at hv
  show Z k_X2_paid G Γ _ 0 0 [(0, .ref (a 0))] 0 []
  refine z_aload_n dX2_paid_0 rfl ?_
  refine z_get (v := .ref (b 0)) hI 0 rfl rfl uin_X2 0 (Nat.le_of_ble_eq_true rfl) tw_f_RX2_34 rfl rfl dX2_paid_1 ?_
  refine z_get (v := .int (R.1 7)) hI 3 rfl rfl uin_X4 7 (Nat.le_of_ble_eq_true rfl) tw_f_RX2_47 rfl rfl dX2_paid_4 ?_
  refine z_aload_n dX2_paid_7 rfl ?_
  refine z_get (v := .int (O.1 5)) hI 0 rfl rfl uin_X2 5 (Nat.le_of_ble_eq_true rfl) tw_f_RX2_25 rfl rfl dX2_paid_8 ?_
  refine z_csi (c_J6_bitCount_0f7a4 G P (O.1 5) ) zc_J6_bitCount_0f7a4 tw_st_yJ6_bitCount_0f7a4 tw_m_RX2_50 (fr_all (sub_P hI [] rfl) hG) (zroom_of rfl) rfl (Nat.le_of_ble_eq_true rfl) dX2_paid_11 ?_
  refine z_imul dX2_paid_14 ?_
  exact z_iret_S hQ rfl hv dX2_paid_15
theorem dX2_begin_0 : decode cX2_begin 0 = .ok (.aload_n 0, 1) := by decide +kernel
theorem dX2_begin_1 : decode cX2_begin 1 = .ok (.iconst 0, 1) := by decide +kernel
theorem dX2_begin_2 : decode cX2_begin 2 = .ok (.putfield 22, 3) := by decide +kernel
theorem dX2_begin_5 : decode cX2_begin 5 = .ok (.aload_n 0, 1) := by decide +kernel
theorem dX2_begin_6 : decode cX2_begin 6 = .ok (.iconst 0, 1) := by decide +kernel
theorem dX2_begin_7 : decode cX2_begin 7 = .ok (.putfield 25, 3) := by decide +kernel
theorem dX2_begin_10 : decode cX2_begin 10 = .ok (.aload_n 0, 1) := by decide +kernel
theorem dX2_begin_11 : decode cX2_begin 11 = .ok (.iconst 0, 1) := by decide +kernel
theorem dX2_begin_12 : decode cX2_begin 12 = .ok (.putfield 28, 3) := by decide +kernel
theorem dX2_begin_15 : decode cX2_begin 15 = .ok (.return_, 1) := by decide +kernel
abbrev k_X2_begin : zK := (cX2_begin, 1, RX2, none, ({ frames := 0, cells := 0, slots := 0, locals := 0 } : Room))
theorem zc_X2_begin : zcal yX2_begin k_X2_begin.1 k_X2_begin.2.1 k_X2_begin.2.2.2.1 0 := ⟨tw_code_yX2_begin, tw_i_TollForHesitators_Order, ⟨by decide +kernel, by decide +kernel⟩, by decide +kernel⟩
theorem zv_X2_begin : Cond.instanceMethod yX2_begin ∈ TS ∧ Cond.selects RX2 yX2_begin yX2_begin ∈ TS := ⟨tw_inst_yX2_begin, tw_s_yX2_begin⟩
def v_X2_begin (O : oT) : oT := osf (osf (osf O 4 0) 5 0) 6 0
set_option maxHeartbeats 4000000 in
theorem c_X2_begin {l : Launch} (G : zG) (P : pT) (a : Nat → Nat) (b : Nat → Nat) (sz : Nat) (O : oT) : Met l yX2_begin (.code yX2_begin k_X2_begin.1 k_X2_begin.2.1 k_X2_begin.2.2.2.1 :: TS) k_X2_begin.2.2.2.2 (Pz G [.ref (a 0)] (Fw G (gX G P) (orW G a b O) sz)) (Qwv G (fun w => w = orW G a b (v_X2_begin O)) (va_A (orW G a b O) sz)) 0 0 (va_A (orW G a b O) sz) := by
  refine zmet (K := k_X2_begin) (by decide +kernel) rfl rfl (fun Γ hl0 hQ hN hF => ?_)
  refine z_start (gX_ok G P) hF (fun hw => ?_)
  generalize va_A (orW G a b O) sz = A at hQ hw ⊢
  obtain ⟨res, hv⟩ : ∃ res, v_X2_begin O = res := ⟨_, rfl⟩
  rw [hv] at hQ
  unfold v_X2_begin at hv
  show Z k_X2_begin G Γ _ 0 0 [(0, .ref (a 0))] 0 []
  refine z_aload_n dX2_begin_0 rfl ?_
  refine z_iconst (v := 0) dX2_begin_1 rfl ?_
  refine z_put (fs := orF a b O) (v := .int 0) (ws' := orW G a b (osf O 4 0)) 0 rfl rfl uin_X2 tyX2 tyX2_ok nmX2 4 (Nat.le_of_ble_eq_true rfl) tw_f_RX2_22 rfl rfl (ty := .int) rfl rfl rfl (Nat.le_of_ble_eq_true rfl) rfl dX2_begin_2 ?_
  refine z_aload_n dX2_begin_5 rfl ?_
  refine z_iconst (v := 0) dX2_begin_6 rfl ?_
  refine z_put (fs := orF a b (osf O 4 0)) (v := .int 0) (ws' := orW G a b (osf (osf O 4 0) 5 0)) 0 rfl rfl uin_X2 tyX2 tyX2_ok nmX2 5 (Nat.le_of_ble_eq_true rfl) tw_f_RX2_25 rfl rfl (ty := .int) rfl rfl rfl (Nat.le_of_ble_eq_true rfl) rfl dX2_begin_7 ?_
  refine z_aload_n dX2_begin_10 rfl ?_
  refine z_iconst (v := 0) dX2_begin_11 rfl ?_
  refine z_put (fs := orF a b (osf (osf O 4 0) 5 0)) (v := .int 0) (ws' := orW G a b (osf (osf (osf O 4 0) 5 0) 6 0)) 0 rfl rfl uin_X2 tyX2 tyX2_ok nmX2 6 (Nat.le_of_ble_eq_true rfl) tw_f_RX2_28 rfl rfl (ty := .int) rfl rfl rfl (Nat.le_of_ble_eq_true rfl) rfl dX2_begin_12 ?_
  subst hv; exact z_vret_W hQ rfl rfl rfl rfl dX2_begin_15
theorem dX2_count_0 : decode cX2_count 0 = .ok (.iload_n 2, 1) := by decide +kernel
theorem dX2_count_1 : decode cX2_count 1 = .ok (.ifCond .ne 18, 3) := by decide +kernel
theorem dX2_count_4 : decode cX2_count 4 = .ok (.aload_n 0, 1) := by decide +kernel
theorem dX2_count_5 : decode cX2_count 5 = .ok (.dup, 1) := by decide +kernel
theorem dX2_count_6 : decode cX2_count 6 = .ok (.getfield 22, 3) := by decide +kernel
theorem dX2_count_9 : decode cX2_count 9 = .ok (.iconst 1, 1) := by decide +kernel
theorem dX2_count_10 : decode cX2_count 10 = .ok (.iload_n 1, 1) := by decide +kernel
theorem dX2_count_11 : decode cX2_count 11 = .ok (.ishl, 1) := by decide +kernel
theorem dX2_count_12 : decode cX2_count 12 = .ok (.ior, 1) := by decide +kernel
theorem dX2_count_13 : decode cX2_count 13 = .ok (.putfield 22, 3) := by decide +kernel
theorem dX2_count_16 : decode cX2_count 16 = .ok (.goto 35, 3) := by decide +kernel
theorem dX2_count_19 : decode cX2_count 19 = .ok (.iload_n 2, 1) := by decide +kernel
theorem dX2_count_20 : decode cX2_count 20 = .ok (.iconst 1, 1) := by decide +kernel
theorem dX2_count_21 : decode cX2_count 21 = .ok (.if_icmp .ne 18, 3) := by decide +kernel
theorem dX2_count_24 : decode cX2_count 24 = .ok (.aload_n 0, 1) := by decide +kernel
theorem dX2_count_25 : decode cX2_count 25 = .ok (.dup, 1) := by decide +kernel
theorem dX2_count_26 : decode cX2_count 26 = .ok (.getfield 25, 3) := by decide +kernel
theorem dX2_count_29 : decode cX2_count 29 = .ok (.iconst 1, 1) := by decide +kernel
theorem dX2_count_30 : decode cX2_count 30 = .ok (.iload_n 1, 1) := by decide +kernel
theorem dX2_count_31 : decode cX2_count 31 = .ok (.ishl, 1) := by decide +kernel
theorem dX2_count_32 : decode cX2_count 32 = .ok (.ior, 1) := by decide +kernel
theorem dX2_count_33 : decode cX2_count 33 = .ok (.putfield 25, 3) := by decide +kernel
theorem dX2_count_36 : decode cX2_count 36 = .ok (.goto 15, 3) := by decide +kernel
theorem dX2_count_39 : decode cX2_count 39 = .ok (.aload_n 0, 1) := by decide +kernel
theorem dX2_count_40 : decode cX2_count 40 = .ok (.dup, 1) := by decide +kernel
theorem dX2_count_41 : decode cX2_count 41 = .ok (.getfield 28, 3) := by decide +kernel
theorem dX2_count_44 : decode cX2_count 44 = .ok (.iconst 1, 1) := by decide +kernel
theorem dX2_count_45 : decode cX2_count 45 = .ok (.iload_n 1, 1) := by decide +kernel
theorem dX2_count_46 : decode cX2_count 46 = .ok (.ishl, 1) := by decide +kernel
theorem dX2_count_47 : decode cX2_count 47 = .ok (.ior, 1) := by decide +kernel
theorem dX2_count_48 : decode cX2_count 48 = .ok (.putfield 28, 3) := by decide +kernel
theorem dX2_count_51 : decode cX2_count 51 = .ok (.return_, 1) := by decide +kernel
abbrev k_X2_count : zK := (cX2_count, 3, RX2, none, ({ frames := 0, cells := 0, slots := 0, locals := 0 } : Room))
theorem zc_X2_count : zcal yX2_count k_X2_count.1 k_X2_count.2.1 k_X2_count.2.2.2.1 2 := ⟨tw_code_yX2_count, tw_i_TollForHesitators_Order, ⟨by decide +kernel, by decide +kernel⟩, by decide +kernel⟩
theorem zv_X2_count : Cond.instanceMethod yX2_count ∈ TS ∧ Cond.selects RX2 yX2_count yX2_count ∈ TS := ⟨tw_inst_yX2_count, tw_s_yX2_count⟩
def v_X2_count (O : oT) (x1 : Int32) (x2 : Int32) : oT := kk (if x2 = 0 then osf O 4 ((O.1 4) ||| (1 <<< (x1 &&& 31))) else (if x2 = 1 then osf O 5 ((O.1 5) ||| (1 <<< (x1 &&& 31))) else osf O 6 ((O.1 6) ||| (1 <<< (x1 &&& 31))))) (fun M4 : oT => M4)
set_option maxHeartbeats 4000000 in
theorem c_X2_count {l : Launch} (G : zG) (P : pT) (a : Nat → Nat) (b : Nat → Nat) (sz : Nat) (O : oT) (x1 : Int32) (x2 : Int32) : Met l yX2_count (.code yX2_count k_X2_count.1 k_X2_count.2.1 k_X2_count.2.2.2.1 :: TS) k_X2_count.2.2.2.2 (Pz G [.ref (a 0), .int x1, .int x2] (Fw G (gX G P) (orW G a b O) sz)) (Qwv G (fun w => w = orW G a b (v_X2_count O x1 x2)) (va_A (orW G a b O) sz)) 0 0 (va_A (orW G a b O) sz) := by
  refine zmet (K := k_X2_count) (by decide +kernel) rfl rfl (fun Γ hl0 hQ hN hF => ?_)
  refine z_start (gX_ok G P) hF (fun hw => ?_)
  generalize va_A (orW G a b O) sz = A at hQ hw ⊢
  obtain ⟨res, hv⟩ : ∃ res, v_X2_count O x1 x2 = res := ⟨_, rfl⟩
  rw [hv] at hQ
  unfold v_X2_count at hv
  show Z k_X2_count G Γ _ 0 0 [(0, .ref (a 0)), (1, .int x1), (2, .int x2)] 0 []
  refine z_iload_n dX2_count_0 rfl ?_
  have J5 : ∀ M4 : oT, M4 = (if x2 = 0 then osf O 4 ((O.1 4) ||| (1 <<< (x1 &&& 31))) else (if x2 = 1 then osf O 5 ((O.1 5) ||| (1 <<< (x1 &&& 31))) else osf O 6 ((O.1 6) ||| (1 <<< (x1 &&& 31))))) → Z k_X2_count G Γ (wr G A Γ.2.2.1.1.heap (orW G a b M4)) 0 0 [(0, .ref (a 0)), (1, .int x1), (2, .int x2)] 51 [] := by
    intro M4 eM4
    have hv := kk_vq hv eM4
    clear eM4
    subst hv; exact z_vret_W hQ rfl rfl rfl rfl dX2_count_51
  refine z_if_ne (tgt := 19) dX2_count_1 (by decide) (fun c1 => ?_) (fun c1 => ?_)
  · skip
    refine z_iload_n dX2_count_19 rfl ?_
    refine z_iconst (v := 1) dX2_count_20 rfl ?_
    have J6 : ∀ M3 : oT, M3 = (if x2 = 1 then osf O 5 ((O.1 5) ||| (1 <<< (x1 &&& 31))) else osf O 6 ((O.1 6) ||| (1 <<< (x1 &&& 31)))) → Z k_X2_count G Γ (wr G A Γ.2.2.1.1.heap (orW G a b M3)) 0 0 [(0, .ref (a 0)), (1, .int x1), (2, .int x2)] 51 [] := by
      intro M3 eM3
      rewrite [eM3]; clear eM3
      exact z_lv rfl (J5 _ (if_neg c1).symm)
    refine z_icmp_ne (tgt := 39) dX2_count_21 (by decide) (fun c2 => ?_) (fun c2 => ?_)
    · skip
      refine z_aload_n dX2_count_39 rfl ?_
      refine z_dup dX2_count_40 rfl ?_
      refine z_get (v := .int (O.1 6)) wr_P 0 rfl rfl uin_X2 6 (Nat.le_of_ble_eq_true rfl) tw_f_RX2_28 rfl rfl dX2_count_41 ?_
      refine z_iconst (v := 1) dX2_count_44 rfl ?_
      refine z_iload_n dX2_count_45 rfl ?_
      refine z_ishl dX2_count_46 ?_
      refine z_ior dX2_count_47 ?_
      refine z_put (fs := orF a b O) (v := .int ((O.1 6) ||| (1 <<< (x1 &&& 31)))) (ws' := orW G a b (osf O 6 ((O.1 6) ||| (1 <<< (x1 &&& 31))))) 0 rfl rfl uin_X2 tyX2 tyX2_ok nmX2 6 (Nat.le_of_ble_eq_true rfl) tw_f_RX2_28 rfl rfl (ty := .int) rfl rfl rfl (Nat.le_of_ble_eq_true rfl) rfl dX2_count_48 ?_
      exact z_lv rfl (J6 _ (if_neg c2).symm)
    · skip
      refine z_aload_n dX2_count_24 rfl ?_
      refine z_dup dX2_count_25 rfl ?_
      refine z_get (v := .int (O.1 5)) wr_P 0 rfl rfl uin_X2 5 (Nat.le_of_ble_eq_true rfl) tw_f_RX2_25 rfl rfl dX2_count_26 ?_
      refine z_iconst (v := 1) dX2_count_29 rfl ?_
      refine z_iload_n dX2_count_30 rfl ?_
      refine z_ishl dX2_count_31 ?_
      refine z_ior dX2_count_32 ?_
      refine z_put (fs := orF a b O) (v := .int ((O.1 5) ||| (1 <<< (x1 &&& 31)))) (ws' := orW G a b (osf O 5 ((O.1 5) ||| (1 <<< (x1 &&& 31))))) 0 rfl rfl uin_X2 tyX2 tyX2_ok nmX2 5 (Nat.le_of_ble_eq_true rfl) tw_f_RX2_25 rfl rfl (ty := .int) rfl rfl rfl (Nat.le_of_ble_eq_true rfl) rfl dX2_count_33 ?_
      refine z_goto (tgt := 51) dX2_count_36 (by decide) ?_
      exact z_lv rfl (J6 _ (if_pos c2).symm)
  · skip
    refine z_aload_n dX2_count_4 rfl ?_
    refine z_dup dX2_count_5 rfl ?_
    refine z_get (v := .int (O.1 4)) wr_P 0 rfl rfl uin_X2 4 (Nat.le_of_ble_eq_true rfl) tw_f_RX2_22 rfl rfl dX2_count_6 ?_
    refine z_iconst (v := 1) dX2_count_9 rfl ?_
    refine z_iload_n dX2_count_10 rfl ?_
    refine z_ishl dX2_count_11 ?_
    refine z_ior dX2_count_12 ?_
    refine z_put (fs := orF a b O) (v := .int ((O.1 4) ||| (1 <<< (x1 &&& 31)))) (ws' := orW G a b (osf O 4 ((O.1 4) ||| (1 <<< (x1 &&& 31))))) 0 rfl rfl uin_X2 tyX2 tyX2_ok nmX2 4 (Nat.le_of_ble_eq_true rfl) tw_f_RX2_22 rfl rfl (ty := .int) rfl rfl rfl (Nat.le_of_ble_eq_true rfl) rfl dX2_count_13 ?_
    refine z_goto (tgt := 51) dX2_count_16 (by decide) ?_
    exact z_lv rfl (J5 _ (if_pos c1).symm)
theorem dX2_seen_0 : decode cX2_seen 0 = .ok (.iconst 0, 1) := by decide +kernel
theorem dX2_seen_1 : decode cX2_seen 1 = .ok (.aload_n 0, 1) := by decide +kernel
theorem dX2_seen_2 : decode cX2_seen 2 = .ok (.getfield 25, 3) := by decide +kernel
theorem dX2_seen_5 : decode cX2_seen 5 = .ok (.invokestatic 50, 3) := by decide +kernel
theorem dX2_seen_8 : decode cX2_seen 8 = .ok (.aload_n 0, 1) := by decide +kernel
theorem dX2_seen_9 : decode cX2_seen 9 = .ok (.getfield 22, 3) := by decide +kernel
theorem dX2_seen_12 : decode cX2_seen 12 = .ok (.invokestatic 50, 3) := by decide +kernel
theorem dX2_seen_15 : decode cX2_seen 15 = .ok (.isub, 1) := by decide +kernel
theorem dX2_seen_16 : decode cX2_seen 16 = .ok (.invokestatic 90, 3) := by decide +kernel
theorem dX2_seen_19 : decode cX2_seen 19 = .ok (.ireturn, 1) := by decide +kernel
abbrev k_X2_seen : zK := (cX2_seen, 1, RX2, (some .int), ({ frames := 1, cells := 0, slots := 0, locals := 20 } : Room))
theorem zc_X2_seen : zcal yX2_seen k_X2_seen.1 k_X2_seen.2.1 k_X2_seen.2.2.2.1 0 := ⟨tw_code_yX2_seen, tw_i_TollForHesitators_Order, ⟨by decide +kernel, by decide +kernel⟩, by decide +kernel⟩
theorem zv_X2_seen : Cond.instanceMethod yX2_seen ∈ TS ∧ Cond.selects RX2 yX2_seen yX2_seen ∈ TS := ⟨tw_inst_yX2_seen, tw_s_yX2_seen⟩
def v_X2_seen (O : oT) : Int32 := (if 0 < ((v_J6_bitCount_0f7a4 (O.1 5)) - (v_J6_bitCount_0f7a4 (O.1 4))) then (v_J6_bitCount_0f7a4 (O.1 5)) - (v_J6_bitCount_0f7a4 (O.1 4)) else 0)
set_option maxHeartbeats 4000000 in
theorem c_X2_seen {l : Launch} (G : zG) (P : pT) (a : Nat → Nat) (b : Nat → Nat) (O : oT) : Met l yX2_seen (.code yX2_seen k_X2_seen.1 k_X2_seen.2.1 k_X2_seen.2.2.2.1 :: TS) k_X2_seen.2.2.2.2 (Pz G [.ref (a 0)] (Fr G P (orW G a b O))) (vp_Si (fun r => r = v_X2_seen O)) 0 0 (fun _ => False) := by
  refine zmet (K := k_X2_seen) (by decide +kernel) rfl rfl (fun Γ hl0 hQ hN hF => ?_)
  have hI := rd_P (G := G) hF.1
  have hG := rd_F hF.2
  obtain ⟨res, hv⟩ : ∃ res, v_X2_seen O = res := ⟨_, rfl⟩
  rw [hv] at hQ
  unfold v_X2_seen at hv
  show Z k_X2_seen G Γ _ 0 0 [(0, .ref (a 0))] 0 []
  refine z_iconst (v := 0) dX2_seen_0 rfl ?_
  refine z_aload_n dX2_seen_1 rfl ?_
  refine z_get (v := .int (O.1 5)) hI 0 rfl rfl uin_X2 5 (Nat.le_of_ble_eq_true rfl) tw_f_RX2_25 rfl rfl dX2_seen_2 ?_
  refine z_csi (c_J6_bitCount_0f7a4 G P (O.1 5) ) zc_J6_bitCount_0f7a4 tw_st_yJ6_bitCount_0f7a4 tw_m_RX2_50 (fr_all (sub_P hI [] rfl) hG) (zroom_of rfl) rfl (Nat.le_of_ble_eq_true rfl) dX2_seen_5 ?_
  refine z_aload_n dX2_seen_8 rfl ?_
  refine z_get (v := .int (O.1 4)) hI 0 rfl rfl uin_X2 4 (Nat.le_of_ble_eq_true rfl) tw_f_RX2_22 rfl rfl dX2_seen_9 ?_
  refine z_csi (c_J6_bitCount_0f7a4 G P (O.1 4) ) zc_J6_bitCount_0f7a4 tw_st_yJ6_bitCount_0f7a4 tw_m_RX2_50 (fr_all (sub_P hI [] rfl) hG) (zroom_of rfl) rfl (Nat.le_of_ble_eq_true rfl) dX2_seen_12 ?_
  refine z_isub dX2_seen_15 ?_
  refine z_max tw_m_RX2_90 tw_st_yJ9_max_7cf53 tw_i_java_lang_Math tw_code_yJ9_max_7cf53 ⟨Nat.le_of_ble_eq_true rfl, Nat.le_of_ble_eq_true rfl, Nat.le_of_ble_eq_true rfl, Nat.le_of_ble_eq_true rfl⟩ dX2_seen_16 ?_
  exact z_iret_S hQ rfl hv dX2_seen_19
theorem dX2_byNumbers_0 : decode cX2_byNumbers 0 = .ok (.aload_n 0, 1) := by decide +kernel
theorem dX2_byNumbers_1 : decode cX2_byNumbers 1 = .ok (.aload_n 0, 1) := by decide +kernel
theorem dX2_byNumbers_2 : decode cX2_byNumbers 2 = .ok (.getfield 34, 3) := by decide +kernel
theorem dX2_byNumbers_5 : decode cX2_byNumbers 5 = .ok (.getfield 55, 3) := by decide +kernel
theorem dX2_byNumbers_8 : decode cX2_byNumbers 8 = .ok (.putfield 18, 3) := by decide +kernel
theorem dX2_byNumbers_11 : decode cX2_byNumbers 11 = .ok (.iconst 0, 1) := by decide +kernel
theorem dX2_byNumbers_12 : decode cX2_byNumbers 12 = .ok (.istore_n 1, 1) := by decide +kernel
theorem dX2_byNumbers_13 : decode cX2_byNumbers 13 = .ok (.iload_n 1, 1) := by decide +kernel
theorem dX2_byNumbers_14 : decode cX2_byNumbers 14 = .ok (.aload_n 0, 1) := by decide +kernel
theorem dX2_byNumbers_15 : decode cX2_byNumbers 15 = .ok (.getfield 18, 3) := by decide +kernel
theorem dX2_byNumbers_18 : decode cX2_byNumbers 18 = .ok (.if_icmp .ge 25, 3) := by decide +kernel
theorem dX2_byNumbers_21 : decode cX2_byNumbers 21 = .ok (.iload_n 1, 1) := by decide +kernel
theorem dX2_byNumbers_22 : decode cX2_byNumbers 22 = .ok (.aload_n 0, 1) := by decide +kernel
theorem dX2_byNumbers_23 : decode cX2_byNumbers 23 = .ok (.getfield 9, 3) := by decide +kernel
theorem dX2_byNumbers_26 : decode cX2_byNumbers 26 = .ok (.arraylength, 1) := by decide +kernel
theorem dX2_byNumbers_27 : decode cX2_byNumbers 27 = .ok (.if_icmp .ge 16, 3) := by decide +kernel
theorem dX2_byNumbers_30 : decode cX2_byNumbers 30 = .ok (.aload_n 0, 1) := by decide +kernel
theorem dX2_byNumbers_31 : decode cX2_byNumbers 31 = .ok (.getfield 9, 3) := by decide +kernel
theorem dX2_byNumbers_34 : decode cX2_byNumbers 34 = .ok (.iload_n 1, 1) := by decide +kernel
theorem dX2_byNumbers_35 : decode cX2_byNumbers 35 = .ok (.iload_n 1, 1) := by decide +kernel
theorem dX2_byNumbers_36 : decode cX2_byNumbers 36 = .ok (.iastore, 1) := by decide +kernel
theorem dX2_byNumbers_37 : decode cX2_byNumbers 37 = .ok (.iinc 1 1, 3) := by decide +kernel
theorem dX2_byNumbers_40 : decode cX2_byNumbers 40 = .ok (.goto (-27), 3) := by decide +kernel
theorem dX2_byNumbers_43 : decode cX2_byNumbers 43 = .ok (.return_, 1) := by decide +kernel
abbrev k_X2_byNumbers : zK := (cX2_byNumbers, 2, RX2, none, ({ frames := 0, cells := 0, slots := 0, locals := 0 } : Room))
theorem zc_X2_byNumbers : zcal yX2_byNumbers k_X2_byNumbers.1 k_X2_byNumbers.2.1 k_X2_byNumbers.2.2.2.1 0 := ⟨tw_code_yX2_byNumbers, tw_i_TollForHesitators_Order, ⟨by decide +kernel, by decide +kernel⟩, by decide +kernel⟩
theorem zv_X2_byNumbers : Cond.instanceMethod yX2_byNumbers ∈ TS ∧ Cond.selects RX2 yX2_byNumbers yX2_byNumbers ∈ TS := ⟨tw_inst_yX2_byNumbers, tw_s_yX2_byNumbers⟩
def v_X2_byNumbers_r (R : rT) : Nat → oT → Int32 → oT
  | 0, O, _ => O
  | n + 1, O, v1 => if (O.1 3) ≤ v1 then O else if 7 ≤ v1 then O else v_X2_byNumbers_r R n (osa O 1 (upd (O.2 1) v1.toNatClampNeg v1)) (v1 + 1)
def p_X2_byNumbers_r (R : rT) : Nat → oT → Int32 → Prop
  | 0, _, _ => False
  | n + 1, O, v1 => if (O.1 3) ≤ v1 then True else if 7 ≤ v1 then True else vp_in v1 7 ∧ (p_X2_byNumbers_r R n (osa O 1 (upd (O.2 1) v1.toNatClampNeg v1)) (v1 + 1))
def v_X2_byNumbers (O : oT) (R : rT) : oT := v_X2_byNumbers_r R 200 (osf O 3 (R.1 4)) 0
def p_X2_byNumbers (O : oT) (R : rT) : Prop := p_X2_byNumbers_r R 200 (osf O 3 (R.1 4)) 0
set_option maxHeartbeats 4000000 in
theorem w_X2_byNumbers {G : zG} {P : pT} {Γ : zT} {A : Nat → Prop} {res : oT} (a : Nat → Nat) (b : Nat → Nat) (R : rT) (hw : wk (gX G P) A Γ.2.2.1.1.heap) (hQ : zQ Γ (Qwv G (fun w => w = orW G a b (res) ++ rdW G b R) A) 0 0 A) : ∀ n : Nat, (∀ (O : oT) (v1 : Int32), p_X2_byNumbers_r R n O v1 → v_X2_byNumbers_r R n O v1 = res → Z k_X2_byNumbers G Γ (wr G A Γ.2.2.1.1.heap (orW G a b O ++ rdW G b R)) 0 0 [(0, .ref (a 0)), (1, .int v1)] 13 []) := by
  intro n
  induction n with
  | zero => exact fun O v1 hp => absurd hp (by rw [p_X2_byNumbers_r]; exact not_false)
  | succ n ih =>
    intro O v1 hp hv
    rw [p_X2_byNumbers_r] at hp
    rw [v_X2_byNumbers_r] at hv
    refine z_iload_n dX2_byNumbers_13 rfl ?_
    refine z_aload_n dX2_byNumbers_14 rfl ?_
    refine z_get (v := .int (O.1 3)) wr_P 0 rfl rfl uin_X2 3 (Nat.le_of_ble_eq_true rfl) tw_f_RX2_18 rfl rfl dX2_byNumbers_15 ?_
    refine z_icmp_ge (tgt := 43) dX2_byNumbers_18 (by decide) (fun c1 => ?_) (fun c1 => ?_)
    · have hp := ip_t hp c1; have hv := it_t hv c1
      subst hv; exact z_vret_W hQ rfl rfl rfl rfl dX2_byNumbers_43
    · have hp := ip_f hp c1; have hv := it_f hv c1
      refine z_iload_n dX2_byNumbers_21 rfl ?_
      refine z_aload_n dX2_byNumbers_22 rfl ?_
      refine z_get (v := .ref (a 1)) wr_P 0 rfl rfl uin_X2 1 (Nat.le_of_ble_eq_true rfl) tw_f_RX2_9 rfl rfl dX2_byNumbers_23 ?_
      refine z_alen (cA := G.2.2.1 0) (v := 7) 0 (fun _ => rfl) wr_P 1 rfl rfl dX2_byNumbers_26 ?_
      refine z_icmp_ge (tgt := 43) dX2_byNumbers_27 (by decide) (fun c4 => ?_) (fun c4 => ?_)
      · have hp := ip_t hp c4; have hv := it_t hv c4
        subst hv; exact z_vret_W hQ rfl rfl rfl rfl dX2_byNumbers_43
      · have hp := ip_f hp c4; have hv := it_f hv c4
        refine z_aload_n dX2_byNumbers_30 rfl ?_
        refine z_get (v := .ref (a 1)) wr_P 0 rfl rfl uin_X2 1 (Nat.le_of_ble_eq_true rfl) tw_f_RX2_9 rfl rfl dX2_byNumbers_31 ?_
        refine z_iload_n dX2_byNumbers_34 rfl ?_
        refine z_iload_n dX2_byNumbers_35 rfl ?_
        obtain ⟨q6, hp⟩ := hp
        refine z_iastx (F := upd (O.2 1) v1.toNatClampNeg v1) (ws' := orW G a b (osa O 1 (upd (O.2 1) v1.toNatClampNeg v1)) ++ rdW G b R) 1 rfl q6 rfl rfl dX2_byNumbers_36 ?_
        refine z_iinc (v := v1 + 1) (lv' := [(1, .int (v1 + 1)), (0, .ref (a 0))]) dX2_byNumbers_37 1 rfl rfl (Nat.le_of_ble_eq_true rfl) rfl ?_
        refine z_goto (tgt := 13) dX2_byNumbers_40 (by decide) ?_
        exact z_lv rfl ((ih) (osa O 1 (upd (O.2 1) v1.toNatClampNeg v1)) (v1 + 1) hp hv)
set_option maxHeartbeats 4000000 in
theorem c_X2_byNumbers {l : Launch} (G : zG) (P : pT) (a : Nat → Nat) (b : Nat → Nat) (sz : Nat) (O : oT) (R : rT) (hp : p_X2_byNumbers O R) : Met l yX2_byNumbers (.code yX2_byNumbers k_X2_byNumbers.1 k_X2_byNumbers.2.1 k_X2_byNumbers.2.2.2.1 :: TS) k_X2_byNumbers.2.2.2.2 (Pz G [.ref (a 0)] (Fw G (gX G P) (orW G a b O ++ rdW G b R) sz)) (Qwv G (fun w => w = orW G a b (v_X2_byNumbers O R) ++ rdW G b R) (va_A (orW G a b O ++ rdW G b R) sz)) 0 0 (va_A (orW G a b O ++ rdW G b R) sz) := by
  refine zmet (K := k_X2_byNumbers) (by decide +kernel) rfl rfl (fun Γ hl0 hQ hN hF => ?_)
  refine z_start (gX_ok G P) hF (fun hw => ?_)
  generalize va_A (orW G a b O ++ rdW G b R) sz = A at hQ hw ⊢
  obtain ⟨res, hv⟩ : ∃ res, v_X2_byNumbers O R = res := ⟨_, rfl⟩
  rw [hv] at hQ
  unfold v_X2_byNumbers at hv
  unfold p_X2_byNumbers at hp
  show Z k_X2_byNumbers G Γ _ 0 0 [(0, .ref (a 0))] 0 []
  refine z_aload_n dX2_byNumbers_0 rfl ?_
  refine z_aload_n dX2_byNumbers_1 rfl ?_
  refine z_get (v := .ref (b 0)) wr_P 0 rfl rfl uin_X2 0 (Nat.le_of_ble_eq_true rfl) tw_f_RX2_34 rfl rfl dX2_byNumbers_2 ?_
  refine z_get (v := .int (R.1 4)) wr_P 3 rfl rfl uin_X4 4 (Nat.le_of_ble_eq_true rfl) tw_f_RX2_55 rfl rfl dX2_byNumbers_5 ?_
  refine z_put (fs := orF a b O) (v := .int (R.1 4)) (ws' := orW G a b (osf O 3 (R.1 4)) ++ rdW G b R) 0 rfl rfl uin_X2 tyX2 tyX2_ok nmX2 3 (Nat.le_of_ble_eq_true rfl) tw_f_RX2_18 rfl rfl (ty := .int) rfl rfl rfl (Nat.le_of_ble_eq_true rfl) rfl dX2_byNumbers_8 ?_
  refine z_iconst (v := 0) dX2_byNumbers_11 rfl ?_
  refine z_istore_n (lv' := [(1, .int 0), (0, .ref (a 0))]) dX2_byNumbers_12 (Nat.le_of_ble_eq_true rfl) rfl ?_
  exact z_lv rfl ((w_X2_byNumbers a b R hw hQ 200) (osf O 3 (R.1 4)) 0 hp hv)
