theorem tw_m_RX6_150 : Cond.methodLink RX6 150 yX4_isFull ∈ TS := ts_mem 410 (by decide +kernel) rfl
theorem tw_m_RX6_153 : Cond.methodLink RX6 153 yX4_add ∈ TS := ts_mem 414 (by decide +kernel) rfl
theorem tw_code_yX6_comer : Cond.code yX6_comer cX6_comer 8 (some .int) ∈ TS := ts_mem 409 (by decide +kernel) rfl
theorem tw_inst_yX6_comer : Cond.instanceMethod yX6_comer ∈ TS := ts_mem 407 (by decide +kernel) rfl
theorem tw_s_yX6_comer : Cond.selects RX6 yX6_comer yX6_comer ∈ TS := ts_mem 408 (by decide +kernel) rfl
theorem tw_f_RX6_19 : Cond.fieldLink RX6 19 RX6 "draft" "LTollForHesitators$Road;" ∈ TS := ts_mem 259 (by decide +kernel) rfl
theorem tw_f_RX6_32 : Cond.fieldLink RX6 32 RX6 "reader" "LTollForHesitators$Reader;" ∈ TS := ts_mem 261 (by decide +kernel) rfl
theorem tw_m_RX6_190 : Cond.methodLink RX6 190 yX3_readAll ∈ TS := ts_mem 466 (by decide +kernel) rfl
theorem tw_f_RX6_194 : Cond.fieldLink RX6 194 RX3 "fault" "I" ∈ TS := ts_mem 183 (by decide +kernel) rfl
theorem tw_f_RX6_197 : Cond.fieldLink RX6 197 RX3 "items" "I" ∈ TS := ts_mem 185 (by decide +kernel) rfl
theorem tw_code_yX6_road : Cond.code yX6_road cX6_road 5 (some .int) ∈ TS := ts_mem 461 (by decide +kernel) rfl
theorem tw_inst_yX6_road : Cond.instanceMethod yX6_road ∈ TS := ts_mem 459 (by decide +kernel) rfl
theorem tw_s_yX6_road : Cond.selects RX6 yX6_road yX6_road ∈ TS := ts_mem 460 (by decide +kernel) rfl
theorem dX6_comer_0 : decode cX6_comer 0 = .ok (.iload_n 1, 1) := by decide +kernel
theorem dX6_comer_1 : decode cX6_comer 1 = .ok (.iconst 0, 1) := by decide +kernel
theorem dX6_comer_2 : decode cX6_comer 2 = .ok (.bipush 6, 2) := by decide +kernel
theorem dX6_comer_4 : decode cX6_comer 4 = .ok (.invokestatic 74, 3) := by decide +kernel
theorem dX6_comer_7 : decode cX6_comer 7 = .ok (.ifCond .ne 9, 3) := by decide +kernel
theorem dX6_comer_10 : decode cX6_comer 10 = .ok (.aload_n 0, 1) := by decide +kernel
theorem dX6_comer_11 : decode cX6_comer 11 = .ok (.iconst 1, 1) := by decide +kernel
theorem dX6_comer_12 : decode cX6_comer 12 = .ok (.invokevirtual 70, 3) := by decide +kernel
theorem dX6_comer_15 : decode cX6_comer 15 = .ok (.ireturn, 1) := by decide +kernel
theorem dX6_comer_16 : decode cX6_comer 16 = .ok (.iload_n 2, 1) := by decide +kernel
theorem dX6_comer_17 : decode cX6_comer 17 = .ok (.iconst 0, 1) := by decide +kernel
theorem dX6_comer_18 : decode cX6_comer 18 = .ok (.bipush 9, 2) := by decide +kernel
theorem dX6_comer_20 : decode cX6_comer 20 = .ok (.invokestatic 74, 3) := by decide +kernel
theorem dX6_comer_23 : decode cX6_comer 23 = .ok (.ifCond .eq 51, 3) := by decide +kernel
theorem dX6_comer_26 : decode cX6_comer 26 = .ok (.iload_n 3, 1) := by decide +kernel
theorem dX6_comer_27 : decode cX6_comer 27 = .ok (.iconst 0, 1) := by decide +kernel
theorem dX6_comer_28 : decode cX6_comer 28 = .ok (.bipush 30, 2) := by decide +kernel
theorem dX6_comer_30 : decode cX6_comer 30 = .ok (.invokestatic 74, 3) := by decide +kernel
theorem dX6_comer_33 : decode cX6_comer 33 = .ok (.ifCond .eq 41, 3) := by decide +kernel
theorem dX6_comer_36 : decode cX6_comer 36 = .ok (.iload 4, 2) := by decide +kernel
theorem dX6_comer_38 : decode cX6_comer 38 = .ok (.iconst 1, 1) := by decide +kernel
theorem dX6_comer_39 : decode cX6_comer 39 = .ok (.bipush 9, 2) := by decide +kernel
theorem dX6_comer_41 : decode cX6_comer 41 = .ok (.invokestatic 74, 3) := by decide +kernel
theorem dX6_comer_44 : decode cX6_comer 44 = .ok (.ifCond .eq 30, 3) := by decide +kernel
theorem dX6_comer_47 : decode cX6_comer 47 = .ok (.iload 5, 2) := by decide +kernel
theorem dX6_comer_49 : decode cX6_comer 49 = .ok (.iconst 0, 1) := by decide +kernel
theorem dX6_comer_50 : decode cX6_comer 50 = .ok (.bipush 9, 2) := by decide +kernel
theorem dX6_comer_52 : decode cX6_comer 52 = .ok (.invokestatic 74, 3) := by decide +kernel
theorem dX6_comer_55 : decode cX6_comer 55 = .ok (.ifCond .eq 19, 3) := by decide +kernel
theorem dX6_comer_58 : decode cX6_comer 58 = .ok (.iload 6, 2) := by decide +kernel
theorem dX6_comer_60 : decode cX6_comer 60 = .ok (.iconst 0, 1) := by decide +kernel
theorem dX6_comer_61 : decode cX6_comer 61 = .ok (.sipush 999, 3) := by decide +kernel
theorem dX6_comer_64 : decode cX6_comer 64 = .ok (.invokestatic 74, 3) := by decide +kernel
theorem dX6_comer_67 : decode cX6_comer 67 = .ok (.ifCond .eq 7, 3) := by decide +kernel
theorem dX6_comer_70 : decode cX6_comer 70 = .ok (.iconst 1, 1) := by decide +kernel
theorem dX6_comer_71 : decode cX6_comer 71 = .ok (.goto 4, 3) := by decide +kernel
theorem dX6_comer_74 : decode cX6_comer 74 = .ok (.iconst 0, 1) := by decide +kernel
theorem dX6_comer_75 : decode cX6_comer 75 = .ok (.istore 7, 2) := by decide +kernel
theorem dX6_comer_77 : decode cX6_comer 77 = .ok (.iload 7, 2) := by decide +kernel
theorem dX6_comer_79 : decode cX6_comer 79 = .ok (.ifCond .ne 10, 3) := by decide +kernel
theorem dX6_comer_82 : decode cX6_comer 82 = .ok (.aload_n 0, 1) := by decide +kernel
theorem dX6_comer_83 : decode cX6_comer 83 = .ok (.bipush 6, 2) := by decide +kernel
theorem dX6_comer_85 : decode cX6_comer 85 = .ok (.invokevirtual 70, 3) := by decide +kernel
theorem dX6_comer_88 : decode cX6_comer 88 = .ok (.ireturn, 1) := by decide +kernel
theorem dX6_comer_89 : decode cX6_comer 89 = .ok (.aload_n 0, 1) := by decide +kernel
theorem dX6_comer_90 : decode cX6_comer 90 = .ok (.getfield 10, 3) := by decide +kernel
theorem dX6_comer_93 : decode cX6_comer 93 = .ok (.invokevirtual 150, 3) := by decide +kernel
theorem dX6_comer_96 : decode cX6_comer 96 = .ok (.ifCond .eq 10, 3) := by decide +kernel
theorem dX6_comer_99 : decode cX6_comer 99 = .ok (.aload_n 0, 1) := by decide +kernel
theorem dX6_comer_100 : decode cX6_comer 100 = .ok (.bipush 7, 2) := by decide +kernel
theorem dX6_comer_102 : decode cX6_comer 102 = .ok (.invokevirtual 70, 3) := by decide +kernel
theorem dX6_comer_105 : decode cX6_comer 105 = .ok (.ireturn, 1) := by decide +kernel
theorem dX6_comer_106 : decode cX6_comer 106 = .ok (.aload_n 0, 1) := by decide +kernel
theorem dX6_comer_107 : decode cX6_comer 107 = .ok (.getfield 10, 3) := by decide +kernel
theorem dX6_comer_110 : decode cX6_comer 110 = .ok (.iload_n 1, 1) := by decide +kernel
theorem dX6_comer_111 : decode cX6_comer 111 = .ok (.iload_n 2, 1) := by decide +kernel
theorem dX6_comer_112 : decode cX6_comer 112 = .ok (.iload_n 3, 1) := by decide +kernel
theorem dX6_comer_113 : decode cX6_comer 113 = .ok (.iload 4, 2) := by decide +kernel
theorem dX6_comer_115 : decode cX6_comer 115 = .ok (.iload 5, 2) := by decide +kernel
theorem dX6_comer_117 : decode cX6_comer 117 = .ok (.iload 6, 2) := by decide +kernel
theorem dX6_comer_119 : decode cX6_comer 119 = .ok (.invokevirtual 153, 3) := by decide +kernel
theorem dX6_comer_122 : decode cX6_comer 122 = .ok (.aload_n 0, 1) := by decide +kernel
theorem dX6_comer_123 : decode cX6_comer 123 = .ok (.getfield 10, 3) := by decide +kernel
theorem dX6_comer_126 : decode cX6_comer 126 = .ok (.getfield 157, 3) := by decide +kernel
theorem dX6_comer_129 : decode cX6_comer 129 = .ok (.iconst 1, 1) := by decide +kernel
theorem dX6_comer_130 : decode cX6_comer 130 = .ok (.isub, 1) := by decide +kernel
theorem dX6_comer_131 : decode cX6_comer 131 = .ok (.ireturn, 1) := by decide +kernel
abbrev k_X6_comer : zK := (cX6_comer, 8, RX6, (some .int), ({ frames := 3, cells := 1, slots := 5, locals := 63 } : Room))
theorem zc_X6_comer : zcal yX6_comer k_X6_comer.1 k_X6_comer.2.1 k_X6_comer.2.2.2.1 6 := ⟨tw_code_yX6_comer, tw_i_TollForHesitators, ⟨by decide +kernel, by decide +kernel⟩, by decide +kernel⟩
theorem zv_X6_comer : Cond.instanceMethod yX6_comer ∈ TS ∧ Cond.selects RX6 yX6_comer yX6_comer ∈ TS := ⟨tw_inst_yX6_comer, tw_s_yX6_comer⟩
def g_X6_comer (N : nT) (R : rT) (x1 : Int32) (x2 : Int32) (x3 : Int32) (x4 : Int32) (x5 : Int32) (x6 : Int32) (res : Int32 × nT × rT × LL) : Prop := if (v_X6_within x1 0 6) = 0 then kk (v_X6_refuse N 1) (fun q21 : Int32 × nT => res = (q21.1, q21.2, R, [])) else kk (if (v_X6_within x2 0 9) = 0 then 0 else (if (v_X6_within x3 0 30) = 0 then 0 else (if (v_X6_within x4 1 9) = 0 then 0 else (if (v_X6_within x5 0 9) = 0 then 0 else (if (v_X6_within x6 0 999) = 0 then (0 : Int32) else 1))))) (fun m11 : Int32 => if m11 = 0 then kk (v_X6_refuse N 6) (fun q19 : Int32 × nT => res = (q19.1, q19.2, R, [])) else if (v_X4_isFull R) = 0 then ∃ q15 : rT × LL, g_X4_add R x1 x2 x3 x4 x5 x6 q15 ∧ (res = ((q15.1.1 4) - 1, N, q15.1, [] ++ q15.2)) else kk (v_X6_refuse N 7) (fun q17 : Int32 × nT => res = (q17.1, q17.2, R, [])))
def p_X6_comer (N : nT) (R : rT) (x1 : Int32) (x2 : Int32) (x3 : Int32) (x4 : Int32) (x5 : Int32) (x6 : Int32) : Prop := if (v_X6_within x1 0 6) = 0 then p_X6_refuse N 1 else kk (if (v_X6_within x2 0 9) = 0 then 0 else (if (v_X6_within x3 0 30) = 0 then 0 else (if (v_X6_within x4 1 9) = 0 then 0 else (if (v_X6_within x5 0 9) = 0 then 0 else (if (v_X6_within x6 0 999) = 0 then (0 : Int32) else 1))))) (fun m11 : Int32 => if m11 = 0 then p_X6_refuse N 6 else if (v_X4_isFull R) = 0 then p_X4_add R x1 x2 x3 x4 x5 x6 else p_X6_refuse N 7)
set_option maxHeartbeats 4000000 in
theorem c_X6_comer {l : Launch} (G : zG) (P : pT) (a : Nat → Nat) (sz : Nat) (N : nT) (R : rT) (x1 : Int32) (x2 : Int32) (x3 : Int32) (x4 : Int32) (x5 : Int32) (x6 : Int32) (hp : p_X6_comer N R x1 x2 x3 x4 x5 x6) : Met l yX6_comer (.code yX6_comer k_X6_comer.1 k_X6_comer.2.1 k_X6_comer.2.2.2.1 :: TS) k_X6_comer.2.2.2.2 (Pz G [.ref (a 0), .int x1, .int x2, .int x3, .int x4, .int x5, .int x6] (Fw G (gX G P) (maW G a N ++ rdW G (sh a 10) R) sz)) (Qwi G (fun r w => ∃ res : Int32 × nT × rT × LL, g_X6_comer N R x1 x2 x3 x4 x5 x6 res ∧ r = res.1 ∧ True ∧ w = maW G a res.2.1 ++ rdW G (sh a 10) res.2.2.1 ++ cmL res.2.2.2) (va_A (maW G a N ++ rdW G (sh a 10) R) sz)) 1 5 (va_A (maW G a N ++ rdW G (sh a 10) R) sz) := by
  refine zmet (K := k_X6_comer) (by decide +kernel) rfl rfl (fun Γ hl0 hQ hN hF => ?_)
  refine z_start (gX_ok G P) hF (fun hw => ?_)
  generalize va_A (maW G a N ++ rdW G (sh a 10) R) sz = A at hQ hw ⊢
  obtain ⟨G0, hG0⟩ : ∃ G0, G0 = g_X6_comer N R x1 x2 x3 x4 x5 x6 := ⟨_, rfl⟩
  rw [← hG0] at hQ
  have hv : ∀ res, g_X6_comer N R x1 x2 x3 x4 x5 x6 res → G0 res := fun _ h => by rw [hG0]; exact h
  clear hG0
  unfold g_X6_comer at hv
  unfold p_X6_comer at hp
  refine z_nil ?_
  show Z k_X6_comer G Γ _ 0 0 [(0, .ref (a 0)), (1, .int x1), (2, .int x2), (3, .int x3), (4, .int x4), (5, .int x5), (6, .int x6)] 0 []
  refine z_iload_n dX6_comer_0 rfl ?_
  refine z_iconst (v := 0) dX6_comer_1 rfl ?_
  refine z_bipush (v := 6) dX6_comer_2 rfl ?_
  refine z_csi (c_X6_within G P x1 0 6 ) zc_X6_within tw_st_yX6_within tw_m_RX6_74 (fr_all (sub_P wr_P [] rfl) (wr_G hw)) (zroom_of rfl) rfl (Nat.le_of_ble_eq_true rfl) dX6_comer_4 ?_
  refine z_if_ne (tgt := 16) dX6_comer_7 (by decide) (fun c1 => ?_) (fun c1 => ?_)
  · have hp := ip_f hp c1; have hv := gt_f hv c1
    refine z_iload_n dX6_comer_16 rfl ?_
    refine z_iconst (v := 0) dX6_comer_17 rfl ?_
    refine z_bipush (v := 9) dX6_comer_18 rfl ?_
    refine z_csi (c_X6_within G P x2 0 9 ) zc_X6_within tw_st_yX6_within tw_m_RX6_74 (fr_all (sub_P wr_P [] rfl) (wr_G hw)) (zroom_of rfl) rfl (Nat.le_of_ble_eq_true rfl) dX6_comer_20 ?_
    have J22 : ∀ m11 : Int32, m11 = (if (v_X6_within x2 0 9) = 0 then 0 else (if (v_X6_within x3 0 30) = 0 then 0 else (if (v_X6_within x4 1 9) = 0 then 0 else (if (v_X6_within x5 0 9) = 0 then 0 else (if (v_X6_within x6 0 999) = 0 then (0 : Int32) else 1))))) → Z k_X6_comer G Γ (wr G A Γ.2.2.1.1.heap (maW G a N ++ rdW G (sh a 10) R ++ cmL ([]))) 0 0 [(0, .ref (a 0)), (1, .int x1), (2, .int x2), (3, .int x3), (4, .int x4), (5, .int x5), (6, .int x6)] 75 [.int m11] := by
      intro m11 em11
      have hp := kk_pq hp em11
      have hv := gk_q hv em11
      clear em11
      refine z_istore (lv' := [(7, .int m11), (0, .ref (a 0)), (1, .int x1), (2, .int x2), (3, .int x3), (4, .int x4), (5, .int x5), (6, .int x6)]) dX6_comer_75 (Nat.le_of_ble_eq_true rfl) rfl ?_
      refine z_iload dX6_comer_77 rfl ?_
      refine z_if_ne (tgt := 89) dX6_comer_79 (by decide) (fun c12 => ?_) (fun c12 => ?_)
      · have hp := ip_f hp c12; have hv := gt_f hv c12
        refine z_aload_n dX6_comer_89 rfl ?_
        refine z_get (v := .ref ((sh a 10) 0)) wr_P 0 rfl rfl uin_X6 0 (Nat.le_of_ble_eq_true rfl) tw_f_RX6_10 rfl rfl dX6_comer_90 ?_
        refine z_cvi (c_X4_isFull G P (sh a 10) R ) zc_X4_isFull zv_X4_isFull tw_m_RX6_150 (zrec_of wr_P 3 rfl rfl) (fr_all (sub_P wr_P [3, 4, 5, 6, 7] rfl) (wr_G hw)) (zroom_of rfl) rfl (Nat.le_of_ble_eq_true rfl) dX6_comer_93 ?_
        refine z_if_eq (tgt := 106) dX6_comer_96 (by decide) (fun c13 => ?_) (fun c13 => ?_)
        · have hp := ip_t hp c13; have hv := gt_t hv c13
          refine z_aload_n dX6_comer_106 rfl ?_
          refine z_get (v := .ref ((sh a 10) 0)) wr_P 0 rfl rfl uin_X6 0 (Nat.le_of_ble_eq_true rfl) tw_f_RX6_10 rfl rfl dX6_comer_107 ?_
          refine z_iload_n dX6_comer_110 rfl ?_
          refine z_iload_n dX6_comer_111 rfl ?_
          refine z_iload_n dX6_comer_112 rfl ?_
          refine z_iload dX6_comer_113 rfl ?_
          refine z_iload dX6_comer_115 rfl ?_
          refine z_iload dX6_comer_117 rfl ?_
          have q14 := hp
          refine z_ctvvR (T := cmL ([])) (R0 := pick (maW G a N ++ rdW G (sh a 10) R) [0, 1, 2]) (W1 := fun q15 : rT × LL => maW G a N ++ rdW G (sh a 10) q15.1) hw (fun sz => c_X4_add G P (sh a 10) sz R x1 x2 x3 x4 x5 x6 q14) [3, 4, 5, 6, 7] [0, 1, 2] [0, 1, 2, 3, 4, 5, 6, 7] 8 (by decide +kernel) rfl rfl rfl (fun _ => rfl) (fun _ => rfl) zc_X4_add zv_X4_add tw_m_RX6_153 (zrec_of wr_P 3 rfl rfl) (zroom_of rfl) rfl (Nat.le_of_ble_eq_true rfl) dX6_comer_119 ?_
          intro q15 gq15
          have hv := ge_q (q := q15) hv gq15
          refine z_capp ?_
          refine z_aload_n dX6_comer_122 rfl ?_
          refine z_get (v := .ref ((sh a 10) 0)) wr_P 0 rfl rfl uin_X6 0 (Nat.le_of_ble_eq_true rfl) tw_f_RX6_10 rfl rfl dX6_comer_123 ?_
          refine z_get (v := .int (q15.1.1 4)) wr_P 3 rfl rfl uin_X4 4 (Nat.le_of_ble_eq_true rfl) tw_f_RX6_157 rfl rfl dX6_comer_126 ?_
          refine z_iconst (v := 1) dX6_comer_129 rfl ?_
          refine z_isub dX6_comer_130 ?_
          exact z_iret_W hQ rfl rfl rfl ⟨((q15.1.1 4) - 1, N, q15.1, [] ++ q15.2), hv _ rfl, rfl, trivial, rfl⟩ dX6_comer_131
        · have hp := ip_f hp c13; have hv := gt_f hv c13
          refine z_aload_n dX6_comer_99 rfl ?_
          refine z_bipush (v := 7) dX6_comer_100 rfl ?_
          have q16 := hp
          refine z_ctviD (T := cmL ([])) (R0 := pick (maW G a N ++ rdW G (sh a 10) R) [3, 4, 5, 6, 7]) (W1 := maW G a ((v_X6_refuse N 7).2) ++ rdW G (sh a 10) R) hw (fun sz => c_X6_refuse G P a sz N 7 q16) [0, 1, 2] [3, 4, 5, 6, 7] [5, 6, 7, 0, 1, 2, 3, 4] 8 (by decide +kernel) rfl rfl rfl rfl rfl zc_X6_refuse zv_X6_refuse tw_m_RX6_70 (zrec_of wr_P 0 rfl rfl) (zroom_of rfl) rfl (Nat.le_of_ble_eq_true rfl) dX6_comer_102 ?_
          suffices z23 : ∀ q17 : Int32 × nT, q17 = (v_X6_refuse N 7) → Z k_X6_comer G Γ (wr G A Γ.2.2.1.1.heap (maW G a q17.2 ++ rdW G (sh a 10) R ++ cmL ([]))) 0 0 [(7, .int m11), (0, .ref (a 0)), (1, .int x1), (2, .int x2), (3, .int x3), (4, .int x4), (5, .int x5), (6, .int x6)] 105 [.int q17.1] from z23 _ rfl
          intro q17 hq17
          have hv := gk_q hv hq17
          clear hq17
          exact z_iret_W hQ rfl rfl rfl ⟨(q17.1, q17.2, R, []), hv _ rfl, rfl, trivial, rfl⟩ dX6_comer_105
      · have hp := ip_t hp c12; have hv := gt_t hv c12
        refine z_aload_n dX6_comer_82 rfl ?_
        refine z_bipush (v := 6) dX6_comer_83 rfl ?_
        have q18 := hp
        refine z_ctviD (T := cmL ([])) (R0 := pick (maW G a N ++ rdW G (sh a 10) R) [3, 4, 5, 6, 7]) (W1 := maW G a ((v_X6_refuse N 6).2) ++ rdW G (sh a 10) R) hw (fun sz => c_X6_refuse G P a sz N 6 q18) [0, 1, 2] [3, 4, 5, 6, 7] [5, 6, 7, 0, 1, 2, 3, 4] 8 (by decide +kernel) rfl rfl rfl rfl rfl zc_X6_refuse zv_X6_refuse tw_m_RX6_70 (zrec_of wr_P 0 rfl rfl) (zroom_of rfl) rfl (Nat.le_of_ble_eq_true rfl) dX6_comer_85 ?_
        suffices z24 : ∀ q19 : Int32 × nT, q19 = (v_X6_refuse N 6) → Z k_X6_comer G Γ (wr G A Γ.2.2.1.1.heap (maW G a q19.2 ++ rdW G (sh a 10) R ++ cmL ([]))) 0 0 [(7, .int m11), (0, .ref (a 0)), (1, .int x1), (2, .int x2), (3, .int x3), (4, .int x4), (5, .int x5), (6, .int x6)] 88 [.int q19.1] from z24 _ rfl
        intro q19 hq19
        have hv := gk_q hv hq19
        clear hq19
        exact z_iret_W hQ rfl rfl rfl ⟨(q19.1, q19.2, R, []), hv _ rfl, rfl, trivial, rfl⟩ dX6_comer_88
    refine z_if_eq (tgt := 74) dX6_comer_23 (by decide) (fun c2 => ?_) (fun c2 => ?_)
    · skip
      refine z_iconst (v := 0) dX6_comer_74 rfl ?_
      exact z_lv rfl (J22 _ (if_pos c2).symm)
    · skip
      refine z_iload_n dX6_comer_26 rfl ?_
      refine z_iconst (v := 0) dX6_comer_27 rfl ?_
      refine z_bipush (v := 30) dX6_comer_28 rfl ?_
      refine z_csi (c_X6_within G P x3 0 30 ) zc_X6_within tw_st_yX6_within tw_m_RX6_74 (fr_all (sub_P wr_P [] rfl) (wr_G hw)) (zroom_of rfl) rfl (Nat.le_of_ble_eq_true rfl) dX6_comer_30 ?_
      have J25 : ∀ m10 : Int32, m10 = (if (v_X6_within x3 0 30) = 0 then 0 else (if (v_X6_within x4 1 9) = 0 then 0 else (if (v_X6_within x5 0 9) = 0 then 0 else (if (v_X6_within x6 0 999) = 0 then (0 : Int32) else 1)))) → Z k_X6_comer G Γ (wr G A Γ.2.2.1.1.heap (maW G a N ++ rdW G (sh a 10) R ++ cmL ([]))) 0 0 [(0, .ref (a 0)), (1, .int x1), (2, .int x2), (3, .int x3), (4, .int x4), (5, .int x5), (6, .int x6)] 75 [.int m10] := by
        intro m10 em10
        rewrite [em10]; clear em10
        exact z_lv rfl (J22 _ (if_neg c2).symm)
      refine z_if_eq (tgt := 74) dX6_comer_33 (by decide) (fun c3 => ?_) (fun c3 => ?_)
      · skip
        refine z_iconst (v := 0) dX6_comer_74 rfl ?_
        exact z_lv rfl (J25 _ (if_pos c3).symm)
      · skip
        refine z_iload dX6_comer_36 rfl ?_
        refine z_iconst (v := 1) dX6_comer_38 rfl ?_
        refine z_bipush (v := 9) dX6_comer_39 rfl ?_
        refine z_csi (c_X6_within G P x4 1 9 ) zc_X6_within tw_st_yX6_within tw_m_RX6_74 (fr_all (sub_P wr_P [] rfl) (wr_G hw)) (zroom_of rfl) rfl (Nat.le_of_ble_eq_true rfl) dX6_comer_41 ?_
        have J26 : ∀ m9 : Int32, m9 = (if (v_X6_within x4 1 9) = 0 then 0 else (if (v_X6_within x5 0 9) = 0 then 0 else (if (v_X6_within x6 0 999) = 0 then (0 : Int32) else 1))) → Z k_X6_comer G Γ (wr G A Γ.2.2.1.1.heap (maW G a N ++ rdW G (sh a 10) R ++ cmL ([]))) 0 0 [(0, .ref (a 0)), (1, .int x1), (2, .int x2), (3, .int x3), (4, .int x4), (5, .int x5), (6, .int x6)] 75 [.int m9] := by
          intro m9 em9
          rewrite [em9]; clear em9
          exact z_lv rfl (J25 _ (if_neg c3).symm)
        refine z_if_eq (tgt := 74) dX6_comer_44 (by decide) (fun c4 => ?_) (fun c4 => ?_)
        · skip
          refine z_iconst (v := 0) dX6_comer_74 rfl ?_
          exact z_lv rfl (J26 _ (if_pos c4).symm)
        · skip
          refine z_iload dX6_comer_47 rfl ?_
          refine z_iconst (v := 0) dX6_comer_49 rfl ?_
          refine z_bipush (v := 9) dX6_comer_50 rfl ?_
          refine z_csi (c_X6_within G P x5 0 9 ) zc_X6_within tw_st_yX6_within tw_m_RX6_74 (fr_all (sub_P wr_P [] rfl) (wr_G hw)) (zroom_of rfl) rfl (Nat.le_of_ble_eq_true rfl) dX6_comer_52 ?_
          have J27 : ∀ m8 : Int32, m8 = (if (v_X6_within x5 0 9) = 0 then 0 else (if (v_X6_within x6 0 999) = 0 then (0 : Int32) else 1)) → Z k_X6_comer G Γ (wr G A Γ.2.2.1.1.heap (maW G a N ++ rdW G (sh a 10) R ++ cmL ([]))) 0 0 [(0, .ref (a 0)), (1, .int x1), (2, .int x2), (3, .int x3), (4, .int x4), (5, .int x5), (6, .int x6)] 75 [.int m8] := by
            intro m8 em8
            rewrite [em8]; clear em8
            exact z_lv rfl (J26 _ (if_neg c4).symm)
          refine z_if_eq (tgt := 74) dX6_comer_55 (by decide) (fun c5 => ?_) (fun c5 => ?_)
          · skip
            refine z_iconst (v := 0) dX6_comer_74 rfl ?_
            exact z_lv rfl (J27 _ (if_pos c5).symm)
          · skip
            refine z_iload dX6_comer_58 rfl ?_
            refine z_iconst (v := 0) dX6_comer_60 rfl ?_
            refine z_sipush (v := 999) dX6_comer_61 rfl ?_
            refine z_csi (c_X6_within G P x6 0 999 ) zc_X6_within tw_st_yX6_within tw_m_RX6_74 (fr_all (sub_P wr_P [] rfl) (wr_G hw)) (zroom_of rfl) rfl (Nat.le_of_ble_eq_true rfl) dX6_comer_64 ?_
            have J28 : ∀ m7 : Int32, m7 = (if (v_X6_within x6 0 999) = 0 then (0 : Int32) else 1) → Z k_X6_comer G Γ (wr G A Γ.2.2.1.1.heap (maW G a N ++ rdW G (sh a 10) R ++ cmL ([]))) 0 0 [(0, .ref (a 0)), (1, .int x1), (2, .int x2), (3, .int x3), (4, .int x4), (5, .int x5), (6, .int x6)] 75 [.int m7] := by
              intro m7 em7
              rewrite [em7]; clear em7
              exact z_lv rfl (J27 _ (if_neg c5).symm)
            refine z_if_eq (tgt := 74) dX6_comer_67 (by decide) (fun c6 => ?_) (fun c6 => ?_)
            · skip
              refine z_iconst (v := 0) dX6_comer_74 rfl ?_
              exact z_lv rfl (J28 _ (if_pos c6).symm)
            · skip
              refine z_iconst (v := 1) dX6_comer_70 rfl ?_
              refine z_goto (tgt := 75) dX6_comer_71 (by decide) ?_
              exact z_lv rfl (J28 _ (if_neg c6).symm)
  · have hp := ip_t hp c1; have hv := gt_t hv c1
    refine z_aload_n dX6_comer_10 rfl ?_
    refine z_iconst (v := 1) dX6_comer_11 rfl ?_
    have q20 := hp
    refine z_ctviD (T := cmL ([])) (R0 := pick (maW G a N ++ rdW G (sh a 10) R) [3, 4, 5, 6, 7]) (W1 := maW G a ((v_X6_refuse N 1).2) ++ rdW G (sh a 10) R) hw (fun sz => c_X6_refuse G P a sz N 1 q20) [0, 1, 2] [3, 4, 5, 6, 7] [5, 6, 7, 0, 1, 2, 3, 4] 8 (by decide +kernel) rfl rfl rfl rfl rfl zc_X6_refuse zv_X6_refuse tw_m_RX6_70 (zrec_of wr_P 0 rfl rfl) (zroom_of rfl) rfl (Nat.le_of_ble_eq_true rfl) dX6_comer_12 ?_
    suffices z29 : ∀ q21 : Int32 × nT, q21 = (v_X6_refuse N 1) → Z k_X6_comer G Γ (wr G A Γ.2.2.1.1.heap (maW G a q21.2 ++ rdW G (sh a 10) R ++ cmL ([]))) 0 0 [(0, .ref (a 0)), (1, .int x1), (2, .int x2), (3, .int x3), (4, .int x4), (5, .int x5), (6, .int x6)] 15 [.int q21.1] from z29 _ rfl
    intro q21 hq21
    have hv := gk_q hv hq21
    clear hq21
    exact z_iret_W hQ rfl rfl rfl ⟨(q21.1, q21.2, R, []), hv _ rfl, rfl, trivial, rfl⟩ dX6_comer_15
theorem dX6_road_0 : decode cX6_road 0 = .ok (.aload_n 0, 1) := by decide +kernel
theorem dX6_road_1 : decode cX6_road 1 = .ok (.iload_n 1, 1) := by decide +kernel
theorem dX6_road_2 : decode cX6_road 2 = .ok (.invokevirtual 82, 3) := by decide +kernel
theorem dX6_road_5 : decode cX6_road 5 = .ok (.istore_n 2, 1) := by decide +kernel
theorem dX6_road_6 : decode cX6_road 6 = .ok (.aload_n 0, 1) := by decide +kernel
theorem dX6_road_7 : decode cX6_road 7 = .ok (.iload_n 1, 1) := by decide +kernel
theorem dX6_road_8 : decode cX6_road 8 = .ok (.invokevirtual 66, 3) := by decide +kernel
theorem dX6_road_11 : decode cX6_road 11 = .ok (.astore_n 3, 1) := by decide +kernel
theorem dX6_road_12 : decode cX6_road 12 = .ok (.iload_n 2, 1) := by decide +kernel
theorem dX6_road_13 : decode cX6_road 13 = .ok (.ifCond .ne 7, 3) := by decide +kernel
theorem dX6_road_16 : decode cX6_road 16 = .ok (.aload_n 3, 1) := by decide +kernel
theorem dX6_road_17 : decode cX6_road 17 = .ok (.ifnonnull 9, 3) := by decide +kernel
theorem dX6_road_20 : decode cX6_road 20 = .ok (.aload_n 0, 1) := by decide +kernel
theorem dX6_road_21 : decode cX6_road 21 = .ok (.iload_n 2, 1) := by decide +kernel
theorem dX6_road_22 : decode cX6_road 22 = .ok (.invokevirtual 70, 3) := by decide +kernel
theorem dX6_road_25 : decode cX6_road 25 = .ok (.ireturn, 1) := by decide +kernel
theorem dX6_road_26 : decode cX6_road 26 = .ok (.aload_n 0, 1) := by decide +kernel
theorem dX6_road_27 : decode cX6_road 27 = .ok (.getfield 19, 3) := by decide +kernel
theorem dX6_road_30 : decode cX6_road 30 = .ok (.aload_n 0, 1) := by decide +kernel
theorem dX6_road_31 : decode cX6_road 31 = .ok (.getfield 10, 3) := by decide +kernel
theorem dX6_road_34 : decode cX6_road 34 = .ok (.invokevirtual 187, 3) := by decide +kernel
theorem dX6_road_37 : decode cX6_road 37 = .ok (.aload_n 0, 1) := by decide +kernel
theorem dX6_road_38 : decode cX6_road 38 = .ok (.getfield 32, 3) := by decide +kernel
theorem dX6_road_41 : decode cX6_road 41 = .ok (.aload_n 3, 1) := by decide +kernel
theorem dX6_road_42 : decode cX6_road 42 = .ok (.aload_n 0, 1) := by decide +kernel
theorem dX6_road_43 : decode cX6_road 43 = .ok (.getfield 19, 3) := by decide +kernel
theorem dX6_road_46 : decode cX6_road 46 = .ok (.invokevirtual 190, 3) := by decide +kernel
theorem dX6_road_49 : decode cX6_road 49 = .ok (.istore 4, 2) := by decide +kernel
theorem dX6_road_51 : decode cX6_road 51 = .ok (.aload_n 0, 1) := by decide +kernel
theorem dX6_road_52 : decode cX6_road 52 = .ok (.aload_n 0, 1) := by decide +kernel
theorem dX6_road_53 : decode cX6_road 53 = .ok (.getfield 32, 3) := by decide +kernel
theorem dX6_road_56 : decode cX6_road 56 = .ok (.getfield 194, 3) := by decide +kernel
theorem dX6_road_59 : decode cX6_road 59 = .ok (.putfield 62, 3) := by decide +kernel
theorem dX6_road_62 : decode cX6_road 62 = .ok (.iload 4, 2) := by decide +kernel
theorem dX6_road_64 : decode cX6_road 64 = .ok (.ifCond .ne 10, 3) := by decide +kernel
theorem dX6_road_67 : decode cX6_road 67 = .ok (.aload_n 0, 1) := by decide +kernel
theorem dX6_road_68 : decode cX6_road 68 = .ok (.bipush 6, 2) := by decide +kernel
theorem dX6_road_70 : decode cX6_road 70 = .ok (.invokevirtual 70, 3) := by decide +kernel
theorem dX6_road_73 : decode cX6_road 73 = .ok (.ireturn, 1) := by decide +kernel
theorem dX6_road_74 : decode cX6_road 74 = .ok (.aload_n 0, 1) := by decide +kernel
theorem dX6_road_75 : decode cX6_road 75 = .ok (.getfield 10, 3) := by decide +kernel
theorem dX6_road_78 : decode cX6_road 78 = .ok (.aload_n 0, 1) := by decide +kernel
theorem dX6_road_79 : decode cX6_road 79 = .ok (.getfield 19, 3) := by decide +kernel
theorem dX6_road_82 : decode cX6_road 82 = .ok (.invokevirtual 187, 3) := by decide +kernel
theorem dX6_road_85 : decode cX6_road 85 = .ok (.aload_n 0, 1) := by decide +kernel
theorem dX6_road_86 : decode cX6_road 86 = .ok (.getfield 32, 3) := by decide +kernel
theorem dX6_road_89 : decode cX6_road 89 = .ok (.getfield 197, 3) := by decide +kernel
theorem dX6_road_92 : decode cX6_road 92 = .ok (.ireturn, 1) := by decide +kernel
abbrev k_X6_road : zK := (cX6_road, 5, RX6, (some .int), ({ frames := 6, cells := 162, slots := 810, locals := 136 } : Room))
theorem zc_X6_road : zcal yX6_road k_X6_road.1 k_X6_road.2.1 k_X6_road.2.2.2.1 1 := ⟨tw_code_yX6_road, tw_i_TollForHesitators, ⟨by decide +kernel, by decide +kernel⟩, by decide +kernel⟩
theorem zv_X6_road : Cond.instanceMethod yX6_road ∈ TS ∧ Cond.selects RX6 yX6_road yX6_road ∈ TS := ⟨tw_inst_yX6_road, tw_s_yX6_road⟩
def g_X6_road (P : pT) (a : Nat → Nat) (q : Nat) (N : nT) (R : rT) (D : rT) (E : e2T) (F : fT) (x1 : Int32) (res : Int32 × nT × rT × rT × e2T × Nat × LL) : Prop := oc (v_X6_shelfAt N x1) (if (v_X6_rowRefusal N F x1) = 0 then kk (v_X6_refuse N (v_X6_rowRefusal N F x1)) (fun q8 : Int32 × nT => res = (q8.1, q8.2, R, D, E, q, [])) else kk (v_X6_refuse N (v_X6_rowRefusal N F x1)) (fun q6 : Int32 × nT => res = (q6.1, q6.2, R, D, E, q, []))) (fun r3 : Nat => if (v_X6_rowRefusal N F x1) = 0 then kk (v_X4_become P D R) (fun q13 : rT => ∃ q15 : Int32 × e2T × rT × LL, g_X3_readAll E q13 (F r3) q15 ∧ (if q15.1 = 0 then kk (v_X6_refuse (nsf N 10 (q15.2.1.1 1)) 6) (fun q20 : Int32 × nT => res = (q20.1, q20.2, R, q15.2.2.1, q15.2.1, ((sh a (30 + 2 * r3)) 1), q15.2.2.2)) else res = (q15.2.1.1 2, nsf N 10 (q15.2.1.1 1), v_X4_become (pAdd P q15.2.2.2) R q15.2.2.1, q15.2.2.1, q15.2.1, ((sh a (30 + 2 * r3)) 1), q15.2.2.2))) else kk (v_X6_refuse N (v_X6_rowRefusal N F x1)) (fun q11 : Int32 × nT => res = (q11.1, q11.2, R, D, E, q, [])))
def p_X6_road (P : pT) (a : Nat → Nat) (q : Nat) (N : nT) (R : rT) (D : rT) (E : e2T) (F : fT) (x1 : Int32) : Prop := p_X6_rowRefusal N F x1 ∧ (p_X6_shelfAt N x1 ∧ (oc (v_X6_shelfAt N x1) (if (v_X6_rowRefusal N F x1) = 0 then p_X6_refuse N (v_X6_rowRefusal N F x1) else p_X6_refuse N (v_X6_rowRefusal N F x1)) (fun r3 : Nat => if (v_X6_rowRefusal N F x1) = 0 then p_X4_become P D R ∧ (kk (v_X4_become P D R) (fun q13 : rT => (p_X3_readAll E q13 (F r3)) ∧ (∀ q15 : Int32 × e2T × rT × LL, g_X3_readAll E q13 (F r3) q15 → (if q15.1 = 0 then p_X6_refuse (nsf N 10 (q15.2.1.1 1)) 6 else p_X4_become (pAdd P q15.2.2.2) R q15.2.2.1)))) else p_X6_refuse N (v_X6_rowRefusal N F x1))))
set_option maxHeartbeats 4000000 in
theorem c_X6_road {l : Launch} (G : zG) (P : pT) (a : Nat → Nat) (q : Nat) (sz : Nat) (N : nT) (R : rT) (D : rT) (E : e2T) (F : fT) (x1 : Int32) (hp : p_X6_road P a q N R D E F x1) : Met l yX6_road (.code yX6_road k_X6_road.1 k_X6_road.2.1 k_X6_road.2.2.2.1 :: TS) k_X6_road.2.2.2.2 (Pz G [.ref (a 0), .int x1] (Fw G (gX G P) (maW G a N ++ rdW G (sh a 10) R ++ rdW G (sh a 20) D ++ re2W G (sh a 50) q E ++ faW G a F) sz)) (Qwi G (fun r w => ∃ res : Int32 × nT × rT × rT × e2T × Nat × LL, g_X6_road P a q N R D E F x1 res ∧ r = res.1 ∧ True ∧ w = maW G a res.2.1 ++ rdW G (sh a 10) res.2.2.1 ++ rdW G (sh a 20) res.2.2.2.1 ++ re2W G (sh a 50) res.2.2.2.2.2.1 res.2.2.2.2.1 ++ faW G a F ++ cmL res.2.2.2.2.2.2) (va_A (maW G a N ++ rdW G (sh a 10) R ++ rdW G (sh a 20) D ++ re2W G (sh a 50) q E ++ faW G a F) sz)) 162 810 (va_A (maW G a N ++ rdW G (sh a 10) R ++ rdW G (sh a 20) D ++ re2W G (sh a 50) q E ++ faW G a F) sz) := by
  refine zmet (K := k_X6_road) (by decide +kernel) rfl rfl (fun Γ hl0 hQ hN hF => ?_)
  refine z_start (gX_ok G P) hF (fun hw => ?_)
  generalize va_A (maW G a N ++ rdW G (sh a 10) R ++ rdW G (sh a 20) D ++ re2W G (sh a 50) q E ++ faW G a F) sz = A at hQ hw ⊢
  obtain ⟨G0, hG0⟩ : ∃ G0, G0 = g_X6_road P a q N R D E F x1 := ⟨_, rfl⟩
  rw [← hG0] at hQ
  have hv : ∀ res, g_X6_road P a q N R D E F x1 res → G0 res := fun _ h => by rw [hG0]; exact h
  clear hG0
  unfold g_X6_road at hv
  unfold p_X6_road at hp
  refine z_nil ?_
  show Z k_X6_road G Γ _ 0 0 [(0, .ref (a 0)), (1, .int x1)] 0 []
  refine z_aload_n dX6_road_0 rfl ?_
  refine z_iload_n dX6_road_1 rfl ?_
  obtain ⟨q1, hp⟩ := hp
  refine z_cvi (c_X6_rowRefusal G P a N F x1 q1) zc_X6_rowRefusal zv_X6_rowRefusal tw_m_RX6_82 (zrec_of wr_P 0 rfl rfl) (fr_all (sub_P wr_P [0, 1, 2, 15, 16, 17, 18, 19, 20, 21, 22, 23, 24, 25, 26, 27, 28, 29, 30] rfl) (wr_G hw)) (zroom_of rfl) rfl (Nat.le_of_ble_eq_true rfl) dX6_road_2 ?_
  refine z_istore_n (lv' := [(2, .int (v_X6_rowRefusal N F x1)), (0, .ref (a 0)), (1, .int x1)]) dX6_road_5 (Nat.le_of_ble_eq_true rfl) rfl ?_
  refine z_aload_n dX6_road_6 rfl ?_
  refine z_iload_n dX6_road_7 rfl ?_
  obtain ⟨q2, hp⟩ := hp
  refine z_cvq (c_X6_shelfAt G P a N x1 q2) zc_X6_shelfAt zv_X6_shelfAt tw_m_RX6_66 (zrec_of wr_P 0 rfl rfl) (fr_all (sub_P wr_P [0, 1, 2] rfl) (wr_G hw)) (zroom_of rfl) rfl (Nat.le_of_ble_eq_true rfl) dX6_road_8 ?_
  suffices z21 : ∀ r3 : Option Nat, r3 = (v_X6_shelfAt N x1) → (∀ k : Nat, r3 = some k → k < 8) → Z k_X6_road G Γ (wr G A Γ.2.2.1.1.heap (maW G a N ++ rdW G (sh a 10) R ++ rdW G (sh a 20) D ++ re2W G (sh a 50) q E ++ faW G a F ++ cmL ([]))) 0 0 [(2, .int (v_X6_rowRefusal N F x1)), (0, .ref (a 0)), (1, .int x1)] 11 [va_rf (r3.map (fun k => sh a (30 + 2 * k) 0))] from z21 _ rfl (shelfAt_lt N x1)
  intro r3 hr3 fr3
  have hp := oc_pq hp hr3
  have hv := go_q hv hr3
  clear hr3
  rcases r3 with _ | r3
  · have hp := oc_pn hp; have hv := go_n hv
    refine z_astore_nN (lv' := [(3, .null), (2, .int (v_X6_rowRefusal N F x1)), (0, .ref (a 0)), (1, .int x1)]) dX6_road_11 (Nat.le_of_ble_eq_true rfl) rfl ?_
    refine z_iload_n dX6_road_12 rfl ?_
    refine z_if_ne (tgt := 20) dX6_road_13 (by decide) (fun c4 => ?_) (fun c4 => ?_)
    · have hp := ip_f hp c4; have hv := gt_f hv c4
      refine z_aload_n dX6_road_20 rfl ?_
      refine z_iload_n dX6_road_21 rfl ?_
      have q5 := hp
      refine z_ctviD (T := cmL ([])) (R0 := pick (maW G a N ++ rdW G (sh a 10) R ++ rdW G (sh a 20) D ++ re2W G (sh a 50) q E ++ faW G a F) [3, 4, 5, 6, 7, 8, 9, 10, 11, 12, 13, 14, 15, 16, 17, 18, 19, 20, 21, 22, 23, 24, 25, 26, 27, 28, 29, 30]) (W1 := maW G a ((v_X6_refuse N (v_X6_rowRefusal N F x1)).2) ++ rdW G (sh a 10) R ++ rdW G (sh a 20) D ++ re2W G (sh a 50) q E ++ faW G a F) hw (fun sz => c_X6_refuse G P a sz N (v_X6_rowRefusal N F x1) q5) [0, 1, 2] [3, 4, 5, 6, 7, 8, 9, 10, 11, 12, 13, 14, 15, 16, 17, 18, 19, 20, 21, 22, 23, 24, 25, 26, 27, 28, 29, 30] [28, 29, 30, 0, 1, 2, 3, 4, 5, 6, 7, 8, 9, 10, 11, 12, 13, 14, 15, 16, 17, 18, 19, 20, 21, 22, 23, 24, 25, 26, 27] 31 (by decide +kernel) rfl rfl rfl rfl rfl zc_X6_refuse zv_X6_refuse tw_m_RX6_70 (zrec_of wr_P 0 rfl rfl) (zroom_of rfl) rfl (Nat.le_of_ble_eq_true rfl) dX6_road_22 ?_
      suffices z22 : ∀ q6 : Int32 × nT, q6 = (v_X6_refuse N (v_X6_rowRefusal N F x1)) → Z k_X6_road G Γ (wr G A Γ.2.2.1.1.heap (maW G a q6.2 ++ rdW G (sh a 10) R ++ rdW G (sh a 20) D ++ re2W G (sh a 50) q E ++ faW G a F ++ cmL ([]))) 0 0 [(3, .null), (2, .int (v_X6_rowRefusal N F x1)), (0, .ref (a 0)), (1, .int x1)] 25 [.int q6.1] from z22 _ rfl
      intro q6 hq6
      have hv := gk_q hv hq6
      clear hq6
      exact z_iret_W hQ rfl rfl rfl ⟨(q6.1, q6.2, R, D, E, q, []), hv _ rfl, rfl, trivial, rfl⟩ dX6_road_25
    · have hp := ip_t hp c4; have hv := gt_t hv c4
      refine z_aload_nN dX6_road_16 rfl ?_
      refine z_ifnonnullN dX6_road_17 ?_
      refine z_aload_n dX6_road_20 rfl ?_
      refine z_iload_n dX6_road_21 rfl ?_
      have q7 := hp
      refine z_ctviD (T := cmL ([])) (R0 := pick (maW G a N ++ rdW G (sh a 10) R ++ rdW G (sh a 20) D ++ re2W G (sh a 50) q E ++ faW G a F) [3, 4, 5, 6, 7, 8, 9, 10, 11, 12, 13, 14, 15, 16, 17, 18, 19, 20, 21, 22, 23, 24, 25, 26, 27, 28, 29, 30]) (W1 := maW G a ((v_X6_refuse N (v_X6_rowRefusal N F x1)).2) ++ rdW G (sh a 10) R ++ rdW G (sh a 20) D ++ re2W G (sh a 50) q E ++ faW G a F) hw (fun sz => c_X6_refuse G P a sz N (v_X6_rowRefusal N F x1) q7) [0, 1, 2] [3, 4, 5, 6, 7, 8, 9, 10, 11, 12, 13, 14, 15, 16, 17, 18, 19, 20, 21, 22, 23, 24, 25, 26, 27, 28, 29, 30] [28, 29, 30, 0, 1, 2, 3, 4, 5, 6, 7, 8, 9, 10, 11, 12, 13, 14, 15, 16, 17, 18, 19, 20, 21, 22, 23, 24, 25, 26, 27] 31 (by decide +kernel) rfl rfl rfl rfl rfl zc_X6_refuse zv_X6_refuse tw_m_RX6_70 (zrec_of wr_P 0 rfl rfl) (zroom_of rfl) rfl (Nat.le_of_ble_eq_true rfl) dX6_road_22 ?_
      suffices z23 : ∀ q8 : Int32 × nT, q8 = (v_X6_refuse N (v_X6_rowRefusal N F x1)) → Z k_X6_road G Γ (wr G A Γ.2.2.1.1.heap (maW G a q8.2 ++ rdW G (sh a 10) R ++ rdW G (sh a 20) D ++ re2W G (sh a 50) q E ++ faW G a F ++ cmL ([]))) 0 0 [(3, .null), (2, .int (v_X6_rowRefusal N F x1)), (0, .ref (a 0)), (1, .int x1)] 25 [.int q8.1] from z23 _ rfl
      intro q8 hq8
      have hv := gk_q hv hq8
      clear hq8
      exact z_iret_W hQ rfl rfl rfl ⟨(q8.1, q8.2, R, D, E, q, []), hv _ rfl, rfl, trivial, rfl⟩ dX6_road_25
  · have hp := oc_ps hp; have hv := go_s hv
    have hr3 := fr3 _ rfl; clear fr3
    refine z_astore_n (lv' := [(3, .ref (sh a (30 + 2 * r3) 0)), (2, .int (v_X6_rowRefusal N F x1)), (0, .ref (a 0)), (1, .int x1)]) dX6_road_11 (Nat.le_of_ble_eq_true rfl) rfl ?_
    refine z_iload_n dX6_road_12 rfl ?_
    refine z_if_ne (tgt := 20) dX6_road_13 (by decide) (fun c9 => ?_) (fun c9 => ?_)
    · have hp := ip_f hp c9; have hv := gt_f hv c9
      refine z_aload_n dX6_road_20 rfl ?_
      refine z_iload_n dX6_road_21 rfl ?_
      have q10 := hp
      refine z_ctviD (T := cmL ([])) (R0 := pick (maW G a N ++ rdW G (sh a 10) R ++ rdW G (sh a 20) D ++ re2W G (sh a 50) q E ++ faW G a F) [3, 4, 5, 6, 7, 8, 9, 10, 11, 12, 13, 14, 15, 16, 17, 18, 19, 20, 21, 22, 23, 24, 25, 26, 27, 28, 29, 30]) (W1 := maW G a ((v_X6_refuse N (v_X6_rowRefusal N F x1)).2) ++ rdW G (sh a 10) R ++ rdW G (sh a 20) D ++ re2W G (sh a 50) q E ++ faW G a F) hw (fun sz => c_X6_refuse G P a sz N (v_X6_rowRefusal N F x1) q10) [0, 1, 2] [3, 4, 5, 6, 7, 8, 9, 10, 11, 12, 13, 14, 15, 16, 17, 18, 19, 20, 21, 22, 23, 24, 25, 26, 27, 28, 29, 30] [28, 29, 30, 0, 1, 2, 3, 4, 5, 6, 7, 8, 9, 10, 11, 12, 13, 14, 15, 16, 17, 18, 19, 20, 21, 22, 23, 24, 25, 26, 27] 31 (by decide +kernel) rfl rfl rfl rfl rfl zc_X6_refuse zv_X6_refuse tw_m_RX6_70 (zrec_of wr_P 0 rfl rfl) (zroom_of rfl) rfl (Nat.le_of_ble_eq_true rfl) dX6_road_22 ?_
      suffices z24 : ∀ q11 : Int32 × nT, q11 = (v_X6_refuse N (v_X6_rowRefusal N F x1)) → Z k_X6_road G Γ (wr G A Γ.2.2.1.1.heap (maW G a q11.2 ++ rdW G (sh a 10) R ++ rdW G (sh a 20) D ++ re2W G (sh a 50) q E ++ faW G a F ++ cmL ([]))) 0 0 [(3, .ref (sh a (30 + 2 * r3) 0)), (2, .int (v_X6_rowRefusal N F x1)), (0, .ref (a 0)), (1, .int x1)] 25 [.int q11.1] from z24 _ rfl
      intro q11 hq11
      have hv := gk_q hv hq11
      clear hq11
      exact z_iret_W hQ rfl rfl rfl ⟨(q11.1, q11.2, R, D, E, q, []), hv _ rfl, rfl, trivial, rfl⟩ dX6_road_25
    · have hp := ip_t hp c9; have hv := gt_t hv c9
      refine z_aload_n dX6_road_16 rfl ?_
      refine z_ifnonnull (tgt := 26) dX6_road_17 (by decide) ?_
      refine z_aload_n dX6_road_26 rfl ?_
      refine z_get (v := .ref ((sh a 20) 0)) wr_P 0 rfl rfl uin_X6 2 (Nat.le_of_ble_eq_true rfl) tw_f_RX6_19 rfl rfl dX6_road_27 ?_
      refine z_aload_n dX6_road_30 rfl ?_
      refine z_get (v := .ref ((sh a 10) 0)) wr_P 0 rfl rfl uin_X6 0 (Nat.le_of_ble_eq_true rfl) tw_f_RX6_10 rfl rfl dX6_road_31 ?_
      obtain ⟨q12, hp⟩ := hp
      refine z_ctvvD (T := cmL ([])) (R0 := pick (maW G a N ++ rdW G (sh a 10) R ++ rdW G (sh a 20) D ++ re2W G (sh a 50) q E ++ faW G a F) [0, 1, 2, 13, 14, 15, 16, 17, 18, 19, 20, 21, 22, 23, 24, 25, 26, 27, 28, 29, 30]) (W1 := maW G a N ++ rdW G (sh a 10) R ++ rdW G (sh a 20) (v_X4_become P D R) ++ re2W G (sh a 50) q E ++ faW G a F) hw (fun sz => c_X4_become G P (sh a 20) (sh a 10) sz D R q12) [8, 9, 10, 11, 12, 3, 4, 5, 6, 7] [0, 1, 2, 13, 14, 15, 16, 17, 18, 19, 20, 21, 22, 23, 24, 25, 26, 27, 28, 29, 30] [0, 1, 2, 26, 27, 28, 29, 30, 21, 22, 23, 24, 25, 3, 4, 5, 6, 7, 8, 9, 10, 11, 12, 13, 14, 15, 16, 17, 18, 19, 20] 31 (by decide +kernel) rfl rfl rfl rfl rfl zc_X4_become zv_X4_become tw_m_RX6_187 (zrec_of wr_P 8 rfl rfl) (zroom_of rfl) rfl (Nat.le_of_ble_eq_true rfl) dX6_road_34 ?_
      suffices z25 : ∀ q13 : rT, q13 = (v_X4_become P D R) → Z k_X6_road G Γ (wr G A Γ.2.2.1.1.heap (maW G a N ++ rdW G (sh a 10) R ++ rdW G (sh a 20) q13 ++ re2W G (sh a 50) q E ++ faW G a F ++ cmL ([]))) 0 0 [(3, .ref (sh a (30 + 2 * r3) 0)), (2, .int (v_X6_rowRefusal N F x1)), (0, .ref (a 0)), (1, .int x1)] 37 [] from z25 _ rfl
      intro q13 hq13
      have hp := kk_pq hp hq13
      have hv := gk_q hv hq13
      clear hq13
      refine z_aload_n dX6_road_37 rfl ?_
      refine z_get (v := .ref ((sh a 50) 0)) wr_P 0 rfl rfl uin_X6 4 (Nat.le_of_ble_eq_true rfl) tw_f_RX6_32 rfl rfl dX6_road_38 ?_
      refine z_aload_n dX6_road_41 rfl ?_
      refine z_aload_n dX6_road_42 rfl ?_
      refine z_get (v := .ref ((sh a 20) 0)) wr_P 0 rfl rfl uin_X6 2 (Nat.le_of_ble_eq_true rfl) tw_f_RX6_19 rfl rfl dX6_road_43 ?_
      obtain ⟨q14, hp⟩ := hp
      refine z_nil' ?_
      refine z_out (X := maW G a N ++ rdW G (sh a 10) R ++ rdW G (sh a 20) q13 ++ re2W G (sh a 50) q E) (F := F) hr3 ?_
      refine z_ctviR (R0 := pick (maW G a N ++ rdW G (sh a 10) R ++ rdW G (sh a 20) q13 ++ re2W G (sh a 50) q E ++ shW G (sh a (30 + 2 * r3)) (F r3)) [0, 1, 2, 3, 4, 5, 6, 7]) (W1 := fun q15 : Int32 × e2T × rT × LL => maW G a N ++ rdW G (sh a 10) R ++ rdW G (sh a 20) q15.2.2.1 ++ re2W G (sh a 50) ((sh a (30 + 2 * r3)) 1) q15.2.1 ++ shW G (sh a (30 + 2 * r3)) (F r3)) hw (fun sz => c_X3_readAll G P (sh a 50) q (sh a 20) (sh a (30 + 2 * r3)) sz E q13 (F r3) q14) [13, 14, 8, 9, 10, 11, 12, 15, 16] [0, 1, 2, 3, 4, 5, 6, 7] [0, 1, 2, 3, 4, 5, 6, 7, 10, 11, 12, 13, 14, 8, 9, 15, 16] 17 (by decide +kernel) rfl rfl rfl (fun _ => rfl) (fun _ => rfl) zc_X3_readAll zv_X3_readAll tw_m_RX6_190 (zrec_of wr_P 13 rfl rfl) (zroom_of rfl) rfl (Nat.le_of_ble_eq_true rfl) dX6_road_46 ?_
      intro q15 gq15 nq15
      have hp := hp q15 gq15
      have hv := ge_q (q := q15) hv gq15
      refine z_in0T hr3 ?_
      refine z_istore (lv' := [(4, .int q15.1), (3, .ref (sh a (30 + 2 * r3) 0)), (2, .int (v_X6_rowRefusal N F x1)), (0, .ref (a 0)), (1, .int x1)]) dX6_road_49 (Nat.le_of_ble_eq_true rfl) rfl ?_
      refine z_aload_n dX6_road_51 rfl ?_
      refine z_aload_n dX6_road_52 rfl ?_
      refine z_get (v := .ref ((sh a 50) 0)) wr_P 0 rfl rfl uin_X6 4 (Nat.le_of_ble_eq_true rfl) tw_f_RX6_32 rfl rfl dX6_road_53 ?_
      refine z_get (v := .int (q15.2.1.1 1)) wr_P 13 rfl rfl uin_X3 1 (Nat.le_of_ble_eq_true rfl) tw_f_RX6_194 rfl rfl dX6_road_56 ?_
      refine z_put (fs := maF a N) (v := .int (q15.2.1.1 1)) (ws' := maW G a (nsf N 10 (q15.2.1.1 1)) ++ rdW G (sh a 10) R ++ rdW G (sh a 20) q15.2.2.1 ++ re2W G (sh a 50) ((sh a (30 + 2 * r3)) 1) q15.2.1 ++ faW G a F ++ cmL q15.2.2.2) 0 rfl rfl uin_X6 tyX6 tyX6_ok nmX6 10 (Nat.le_of_ble_eq_true rfl) tw_f_RX6_62 rfl rfl (ty := .int) rfl rfl rfl (Nat.le_of_ble_eq_true rfl) rfl dX6_road_59 ?_
      refine z_iload dX6_road_62 rfl ?_
      refine z_if_ne (tgt := 74) dX6_road_64 (by decide) (fun c16 => ?_) (fun c16 => ?_)
      · have hp := ip_f hp c16; have hv := gt_f hv c16
        refine z_aload_n dX6_road_74 rfl ?_
        refine z_get (v := .ref ((sh a 10) 0)) wr_P 0 rfl rfl uin_X6 0 (Nat.le_of_ble_eq_true rfl) tw_f_RX6_10 rfl rfl dX6_road_75 ?_
        refine z_aload_n dX6_road_78 rfl ?_
        refine z_get (v := .ref ((sh a 20) 0)) wr_P 0 rfl rfl uin_X6 2 (Nat.le_of_ble_eq_true rfl) tw_f_RX6_19 rfl rfl dX6_road_79 ?_
        have q18 := hp
        refine z_ctvvP (R0 := pick (maW G a (nsf N 10 (q15.2.1.1 1)) ++ rdW G (sh a 10) R ++ rdW G (sh a 20) q15.2.2.1 ++ re2W G (sh a 50) ((sh a (30 + 2 * r3)) 1) q15.2.1 ++ faW G a F) [0, 1, 2, 13, 14, 15, 16, 17, 18, 19, 20, 21, 22, 23, 24, 25, 26, 27, 28, 29, 30]) (W1 := maW G a (nsf N 10 (q15.2.1.1 1)) ++ rdW G (sh a 10) (v_X4_become (pAdd P q15.2.2.2) R q15.2.2.1) ++ rdW G (sh a 20) q15.2.2.1 ++ re2W G (sh a 50) ((sh a (30 + 2 * r3)) 1) q15.2.1 ++ faW G a F) hw (fun sz => c_X4_become G (pAdd P q15.2.2.2) (sh a 10) (sh a 20) sz R q15.2.2.1 q18) [3, 4, 5, 6, 7, 8, 9, 10, 11, 12] [0, 1, 2, 13, 14, 15, 16, 17, 18, 19, 20, 21, 22, 23, 24, 25, 26, 27, 28, 29, 30] [0, 1, 2, 21, 22, 23, 24, 25, 26, 27, 28, 29, 30, 3, 4, 5, 6, 7, 8, 9, 10, 11, 12, 13, 14, 15, 16, 17, 18, 19, 20] 31 (by decide +kernel) rfl rfl rfl rfl rfl zc_X4_become zv_X4_become tw_m_RX6_187 (zrec_of wr_P 3 rfl rfl) (zroom_of rfl) rfl (Nat.le_of_ble_eq_true rfl) dX6_road_82 ?_
        refine z_aload_n dX6_road_85 rfl ?_
        refine z_get (v := .ref ((sh a 50) 0)) wr_P 0 rfl rfl uin_X6 4 (Nat.le_of_ble_eq_true rfl) tw_f_RX6_32 rfl rfl dX6_road_86 ?_
        refine z_get (v := .int (q15.2.1.1 2)) wr_P 13 rfl rfl uin_X3 2 (Nat.le_of_ble_eq_true rfl) tw_f_RX6_197 rfl rfl dX6_road_89 ?_
        exact z_iret_W hQ rfl rfl rfl ⟨(q15.2.1.1 2, nsf N 10 (q15.2.1.1 1), v_X4_become (pAdd P q15.2.2.2) R q15.2.2.1, q15.2.2.1, q15.2.1, ((sh a (30 + 2 * r3)) 1), q15.2.2.2), hv _ rfl, rfl, trivial, rfl⟩ dX6_road_92
      · have hp := ip_t hp c16; have hv := gt_t hv c16
        refine z_aload_n dX6_road_67 rfl ?_
        refine z_bipush (v := 6) dX6_road_68 rfl ?_
        have q19 := hp
        refine z_ctviD (T := cmL q15.2.2.2) (R0 := pick (maW G a (nsf N 10 (q15.2.1.1 1)) ++ rdW G (sh a 10) R ++ rdW G (sh a 20) q15.2.2.1 ++ re2W G (sh a 50) ((sh a (30 + 2 * r3)) 1) q15.2.1 ++ faW G a F) [3, 4, 5, 6, 7, 8, 9, 10, 11, 12, 13, 14, 15, 16, 17, 18, 19, 20, 21, 22, 23, 24, 25, 26, 27, 28, 29, 30]) (W1 := maW G a ((v_X6_refuse (nsf N 10 (q15.2.1.1 1)) 6).2) ++ rdW G (sh a 10) R ++ rdW G (sh a 20) q15.2.2.1 ++ re2W G (sh a 50) ((sh a (30 + 2 * r3)) 1) q15.2.1 ++ faW G a F) hw (fun sz => c_X6_refuse G P a sz (nsf N 10 (q15.2.1.1 1)) 6 q19) [0, 1, 2] [3, 4, 5, 6, 7, 8, 9, 10, 11, 12, 13, 14, 15, 16, 17, 18, 19, 20, 21, 22, 23, 24, 25, 26, 27, 28, 29, 30] [28, 29, 30, 0, 1, 2, 3, 4, 5, 6, 7, 8, 9, 10, 11, 12, 13, 14, 15, 16, 17, 18, 19, 20, 21, 22, 23, 24, 25, 26, 27] 31 (by decide +kernel) rfl rfl rfl rfl rfl zc_X6_refuse zv_X6_refuse tw_m_RX6_70 (zrec_of wr_P 0 rfl rfl) (zroom_of rfl) rfl (Nat.le_of_ble_eq_true rfl) dX6_road_70 ?_
        suffices z26 : ∀ q20 : Int32 × nT, q20 = (v_X6_refuse (nsf N 10 (q15.2.1.1 1)) 6) → Z k_X6_road G Γ (wr G A Γ.2.2.1.1.heap (maW G a q20.2 ++ rdW G (sh a 10) R ++ rdW G (sh a 20) q15.2.2.1 ++ re2W G (sh a 50) ((sh a (30 + 2 * r3)) 1) q15.2.1 ++ faW G a F ++ cmL q15.2.2.2)) 162 810 [(4, .int q15.1), (3, .ref (sh a (30 + 2 * r3) 0)), (2, .int (v_X6_rowRefusal N F x1)), (0, .ref (a 0)), (1, .int x1)] 73 [.int q20.1] from z26 _ rfl
        intro q20 hq20
        have hv := gk_q hv hq20
        clear hq20
        exact z_iret_W hQ rfl rfl rfl ⟨(q20.1, q20.2, R, q15.2.2.1, q15.2.1, ((sh a (30 + 2 * r3)) 1), q15.2.2.2), hv _ rfl, rfl, trivial, rfl⟩ dX6_road_73
