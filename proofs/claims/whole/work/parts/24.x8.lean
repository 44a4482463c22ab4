theorem tw_m_RX6_286 : Cond.methodLink RX6 286 yX2_wrongIn ∈ TS := ts_mem 764 (by decide +kernel) rfl
theorem tw_code_yX6_judge : Cond.code yX6_judge cX6_judge 5 (some .int) ∈ TS := ts_mem 763 (by decide +kernel) rfl
theorem tw_inst_yX6_judge : Cond.instanceMethod yX6_judge ∈ TS := ts_mem 761 (by decide +kernel) rfl
theorem tw_s_yX6_judge : Cond.selects RX6 yX6_judge yX6_judge ∈ TS := ts_mem 762 (by decide +kernel) rfl
theorem tw_code_yX6_behind : Cond.code yX6_behind cX6_behind 6 (some .int) ∈ TS := ts_mem 775 (by decide +kernel) rfl
theorem tw_inst_yX6_behind : Cond.instanceMethod yX6_behind ∈ TS := ts_mem 773 (by decide +kernel) rfl
theorem tw_s_yX6_behind : Cond.selects RX6 yX6_behind yX6_behind ∈ TS := ts_mem 774 (by decide +kernel) rfl
theorem tw_m_RX6_290 : Cond.methodLink RX6 290 yX4_passDay ∈ TS := ts_mem 780 (by decide +kernel) rfl
theorem tw_f_RX6_293 : Cond.fieldLink RX6 293 RX4 "days" "I" ∈ TS := ts_mem 125 (by decide +kernel) rfl
theorem tw_code_yX6_done : Cond.code yX6_done cX6_done 5 (some .int) ∈ TS := ts_mem 779 (by decide +kernel) rfl
theorem tw_inst_yX6_done : Cond.instanceMethod yX6_done ∈ TS := ts_mem 777 (by decide +kernel) rfl
theorem tw_s_yX6_done : Cond.selects RX6 yX6_done yX6_done ∈ TS := ts_mem 778 (by decide +kernel) rfl
theorem tw_m_RX6_296 : Cond.methodLink RX6 296 yX4_draw ∈ TS := ts_mem 790 (by decide +kernel) rfl
theorem tw_code_yX6_days : Cond.code yX6_days cX6_days 4 (some .int) ∈ TS := ts_mem 789 (by decide +kernel) rfl
theorem tw_inst_yX6_days : Cond.instanceMethod yX6_days ∈ TS := ts_mem 787 (by decide +kernel) rfl
theorem tw_s_yX6_days : Cond.selects RX6 yX6_days yX6_days ∈ TS := ts_mem 788 (by decide +kernel) rfl
theorem tw_f_RX6_299 : Cond.fieldLink RX6 299 RX4 "seed" "I" ∈ TS := ts_mem 127 (by decide +kernel) rfl
theorem tw_code_yX6_seed : Cond.code yX6_seed cX6_seed 3 (some .int) ∈ TS := ts_mem 798 (by decide +kernel) rfl
theorem tw_inst_yX6_seed : Cond.instanceMethod yX6_seed ∈ TS := ts_mem 796 (by decide +kernel) rfl
theorem tw_s_yX6_seed : Cond.selects RX6 yX6_seed yX6_seed ∈ TS := ts_mem 797 (by decide +kernel) rfl
theorem tw_f_RX6_54 : Cond.fieldLink RX6 54 RX6 "moves" "LTollForHesitators$Moves;" ∈ TS := ts_mem 265 (by decide +kernel) rfl
theorem tw_m_RX6_302 : Cond.methodLink RX6 302 yX1_start ∈ TS := ts_mem 803 (by decide +kernel) rfl
theorem tw_code_yX6_act : Cond.code yX6_act cX6_act 4 (some .int) ∈ TS := ts_mem 802 (by decide +kernel) rfl
theorem tw_inst_yX6_act : Cond.instanceMethod yX6_act ∈ TS := ts_mem 800 (by decide +kernel) rfl
theorem tw_s_yX6_act : Cond.selects RX6 yX6_act yX6_act ∈ TS := ts_mem 801 (by decide +kernel) rfl
theorem tw_m_RX6_306 : Cond.methodLink RX6 306 yX1_keptAt ∈ TS := ts_mem 828 (by decide +kernel) rfl
theorem tw_code_yX6_trace : Cond.code yX6_trace cX6_trace 2 (some .int) ∈ TS := ts_mem 827 (by decide +kernel) rfl
theorem tw_inst_yX6_trace : Cond.instanceMethod yX6_trace ∈ TS := ts_mem 825 (by decide +kernel) rfl
theorem tw_s_yX6_trace : Cond.selects RX6 yX6_trace yX6_trace ∈ TS := ts_mem 826 (by decide +kernel) rfl
theorem tw_f_RX6_16 : Cond.fieldLink RX6 16 RX6 "image" "LTollForHesitators$Road;" ∈ TS := ts_mem 258 (by decide +kernel) rfl
theorem tw_m_RX6_187 : Cond.methodLink RX6 187 yX4_become ∈ TS := ts_mem 462 (by decide +kernel) rfl
theorem tw_f_RX6_309 : Cond.fieldLink RX6 309 RX6 "imaged" "Z" ∈ TS := ts_mem 268 (by decide +kernel) rfl
theorem tw_code_yX6_image : Cond.code yX6_image cX6_image 1 (some .int) ∈ TS := ts_mem 835 (by decide +kernel) rfl
theorem tw_inst_yX6_image : Cond.instanceMethod yX6_image ∈ TS := ts_mem 833 (by decide +kernel) rfl
theorem tw_s_yX6_image : Cond.selects RX6 yX6_image yX6_image ∈ TS := ts_mem 834 (by decide +kernel) rfl
theorem tw_code_yX6_restore : Cond.code yX6_restore cX6_restore 3 (some .int) ∈ TS := ts_mem 839 (by decide +kernel) rfl
theorem tw_inst_yX6_restore : Cond.instanceMethod yX6_restore ∈ TS := ts_mem 837 (by decide +kernel) rfl
theorem tw_s_yX6_restore : Cond.selects RX6 yX6_restore yX6_restore ∈ TS := ts_mem 838 (by decide +kernel) rfl
theorem tw_m_RX6_313 : Cond.methodLink RX6 313 yX4_together ∈ TS := ts_mem 844 (by decide +kernel) rfl
theorem tw_f_RX6_317 : Cond.fieldLink RX6 317 RX1 "ran" "I" ∈ TS := ts_mem 248 (by decide +kernel) rfl
theorem tw_code_yX6_status : Cond.code yX6_status cX6_status 2 (some .int) ∈ TS := ts_mem 843 (by decide +kernel) rfl
theorem tw_inst_yX6_status : Cond.instanceMethod yX6_status ∈ TS := ts_mem 841 (by decide +kernel) rfl
theorem tw_s_yX6_status : Cond.selects RX6 yX6_status yX6_status ∈ TS := ts_mem 842 (by decide +kernel) rfl
theorem dX6_judge_0 : decode cX6_judge 0 = .ok (.aload_n 0, 1) := by decide +kernel
theorem dX6_judge_1 : decode cX6_judge 1 = .ok (.iload_n 1, 1) := by decide +kernel
theorem dX6_judge_2 : decode cX6_judge 2 = .ok (.iload_n 2, 1) := by decide +kernel
theorem dX6_judge_3 : decode cX6_judge 3 = .ok (.iconst 1, 1) := by decide +kernel
theorem dX6_judge_4 : decode cX6_judge 4 = .ok (.invokevirtual 217, 3) := by decide +kernel
theorem dX6_judge_7 : decode cX6_judge 7 = .ok (.istore_n 3, 1) := by decide +kernel
theorem dX6_judge_8 : decode cX6_judge 8 = .ok (.aload_n 0, 1) := by decide +kernel
theorem dX6_judge_9 : decode cX6_judge 9 = .ok (.iload_n 1, 1) := by decide +kernel
theorem dX6_judge_10 : decode cX6_judge 10 = .ok (.invokevirtual 66, 3) := by decide +kernel
theorem dX6_judge_13 : decode cX6_judge 13 = .ok (.astore 4, 2) := by decide +kernel
theorem dX6_judge_15 : decode cX6_judge 15 = .ok (.iload_n 3, 1) := by decide +kernel
theorem dX6_judge_16 : decode cX6_judge 16 = .ok (.ifCond .ne 8, 3) := by decide +kernel
theorem dX6_judge_19 : decode cX6_judge 19 = .ok (.aload 4, 2) := by decide +kernel
theorem dX6_judge_21 : decode cX6_judge 21 = .ok (.ifnonnull 12, 3) := by decide +kernel
theorem dX6_judge_24 : decode cX6_judge 24 = .ok (.aload_n 0, 1) := by decide +kernel
theorem dX6_judge_25 : decode cX6_judge 25 = .ok (.iload_n 3, 1) := by decide +kernel
theorem dX6_judge_26 : decode cX6_judge 26 = .ok (.invokevirtual 70, 3) := by decide +kernel
theorem dX6_judge_29 : decode cX6_judge 29 = .ok (.bipush 10, 2) := by decide +kernel
theorem dX6_judge_31 : decode cX6_judge 31 = .ok (.isub, 1) := by decide +kernel
theorem dX6_judge_32 : decode cX6_judge 32 = .ok (.ireturn, 1) := by decide +kernel
theorem dX6_judge_33 : decode cX6_judge 33 = .ok (.aload_n 0, 1) := by decide +kernel
theorem dX6_judge_34 : decode cX6_judge 34 = .ok (.getfield 41, 3) := by decide +kernel
theorem dX6_judge_37 : decode cX6_judge 37 = .ok (.aload 4, 2) := by decide +kernel
theorem dX6_judge_39 : decode cX6_judge 39 = .ok (.iload_n 2, 1) := by decide +kernel
theorem dX6_judge_40 : decode cX6_judge 40 = .ok (.invokevirtual 286, 3) := by decide +kernel
theorem dX6_judge_43 : decode cX6_judge 43 = .ok (.ireturn, 1) := by decide +kernel
abbrev k_X6_judge : zK := (cX6_judge, 5, RX6, (some .int), ({ frames := 5, cells := 0, slots := 0, locals := 118 } : Room))
theorem zc_X6_judge : zcal yX6_judge k_X6_judge.1 k_X6_judge.2.1 k_X6_judge.2.2.2.1 2 := ⟨tw_code_yX6_judge, tw_i_TollForHesitators, ⟨by decide +kernel, by decide +kernel⟩, by decide +kernel⟩
theorem zv_X6_judge : Cond.instanceMethod yX6_judge ∈ TS ∧ Cond.selects RX6 yX6_judge yX6_judge ∈ TS := ⟨tw_inst_yX6_judge, tw_s_yX6_judge⟩
def v_X6_judge (P : pT) (N : nT) (R : rT) (O : oT) (F : fT) (x1 : Int32) (x2 : Int32) : Int32 × nT × oT := oc (v_X6_shelfAt N x1) (if (v_X6_dayRefusal N F x1 x2 1) = 0 then kk (v_X6_refuse N (v_X6_dayRefusal N F x1 x2 1)) (fun q8 : Int32 × nT => (q8.1 - 10, (q8.2, O))) else kk (v_X6_refuse N (v_X6_dayRefusal N F x1 x2 1)) (fun q6 : Int32 × nT => (q6.1 - 10, (q6.2, O)))) (fun r3 : Nat => if (v_X6_dayRefusal N F x1 x2 1) = 0 then kk (v_X2_wrongIn P O R (F r3) x2) (fun q13 : Int32 × oT => (q13.1, (N, q13.2))) else kk (v_X6_refuse N (v_X6_dayRefusal N F x1 x2 1)) (fun q11 : Int32 × nT => (q11.1 - 10, (q11.2, O))))
def p_X6_judge (P : pT) (N : nT) (R : rT) (O : oT) (F : fT) (x1 : Int32) (x2 : Int32) : Prop := p_X6_dayRefusal N F x1 x2 1 ∧ (p_X6_shelfAt N x1 ∧ (oc (v_X6_shelfAt N x1) (if (v_X6_dayRefusal N F x1 x2 1) = 0 then p_X6_refuse N (v_X6_dayRefusal N F x1 x2 1) else p_X6_refuse N (v_X6_dayRefusal N F x1 x2 1)) (fun r3 : Nat => if (v_X6_dayRefusal N F x1 x2 1) = 0 then p_X2_wrongIn P O R (F r3) x2 else p_X6_refuse N (v_X6_dayRefusal N F x1 x2 1))))
set_option maxHeartbeats 800000 in
theorem c_X6_judge {l : Launch} (G : zG) (P : pT) (a : Nat → Nat) (sz : Nat) (N : nT) (R : rT) (O : oT) (F : fT) (x1 : Int32) (x2 : Int32) (hp : p_X6_judge P N R O F x1 x2) : Met l yX6_judge (.code yX6_judge k_X6_judge.1 k_X6_judge.2.1 k_X6_judge.2.2.2.1 :: TS) k_X6_judge.2.2.2.2 (Pz G [.ref (a 0), .int x1, .int x2] (Fw G (gX G P) (maW G a N ++ rdW G (sh a 10) R ++ orW G (sh a 60) (sh a 10) O ++ faW G a F) sz)) (Qwi G (fun r w => r = (v_X6_judge P N R O F x1 x2).1 ∧ w = maW G a ((v_X6_judge P N R O F x1 x2).2.1) ++ rdW G (sh a 10) R ++ orW G (sh a 60) (sh a 10) ((v_X6_judge P N R O F x1 x2).2.2) ++ faW G a F) (va_A (maW G a N ++ rdW G (sh a 10) R ++ orW G (sh a 60) (sh a 10) O ++ faW G a F) sz)) 0 0 (va_A (maW G a N ++ rdW G (sh a 10) R ++ orW G (sh a 60) (sh a 10) O ++ faW G a F) sz) := by
  refine zmet (K := k_X6_judge) (by decide +kernel) rfl rfl (fun Γ hl0 hQ hN hF => ?_)
  refine z_start (gX_ok G P) hF (fun hw => ?_)
  generalize va_A (maW G a N ++ rdW G (sh a 10) R ++ orW G (sh a 60) (sh a 10) O ++ faW G a F) sz = A at hQ hw ⊢
  obtain ⟨res, hv⟩ : ∃ res, v_X6_judge P N R O F x1 x2 = res := ⟨_, rfl⟩
  rw [hv] at hQ
  unfold v_X6_judge at hv
  unfold p_X6_judge at hp
  show Z k_X6_judge G Γ _ 0 0 [(0, .ref (a 0)), (1, .int x1), (2, .int x2)] 0 []
  refine z_aload_n dX6_judge_0 rfl ?_
  refine z_iload_n dX6_judge_1 rfl ?_
  refine z_iload_n dX6_judge_2 rfl ?_
  refine z_iconst (v := 1) dX6_judge_3 rfl ?_
  obtain ⟨q1, hp⟩ := hp
  refine z_cvi (c_X6_dayRefusal G P a N F x1 x2 1 q1) zc_X6_dayRefusal zv_X6_dayRefusal tw_m_RX6_217 (zrec_of wr_P 0 rfl rfl) (fr_all (sub_P wr_P [0, 1, 2, 11, 12, 13, 14, 15, 16, 17, 18, 19, 20, 21, 22, 23, 24, 25, 26] rfl) (wr_G hw)) (zroom_of rfl) rfl (Nat.le_of_ble_eq_true rfl) dX6_judge_4 ?_
  refine z_istore_n (lv' := [(3, .int (v_X6_dayRefusal N F x1 x2 1)), (0, .ref (a 0)), (1, .int x1), (2, .int x2)]) dX6_judge_7 (Nat.le_of_ble_eq_true rfl) rfl ?_
  refine z_aload_n dX6_judge_8 rfl ?_
  refine z_iload_n dX6_judge_9 rfl ?_
  obtain ⟨q2, hp⟩ := hp
  refine z_cvq (c_X6_shelfAt G P a N x1 q2) zc_X6_shelfAt zv_X6_shelfAt tw_m_RX6_66 (zrec_of wr_P 0 rfl rfl) (fr_all (sub_P wr_P [0, 1, 2] rfl) (wr_G hw)) (zroom_of rfl) rfl (Nat.le_of_ble_eq_true rfl) dX6_judge_10 ?_
  suffices z14 : ∀ r3 : Option Nat, r3 = (v_X6_shelfAt N x1) → (∀ k : Nat, r3 = some k → k < 8) → Z k_X6_judge G Γ (wr G A Γ.2.2.1.1.heap (maW G a N ++ rdW G (sh a 10) R ++ orW G (sh a 60) (sh a 10) O ++ faW G a F)) 0 0 [(3, .int (v_X6_dayRefusal N F x1 x2 1)), (0, .ref (a 0)), (1, .int x1), (2, .int x2)] 13 [va_rf (r3.map (fun k => sh a (30 + 2 * k) 0))] from z14 _ rfl (shelfAt_lt N x1)
  intro r3 hr3 fr3
  have hp := oc_pq hp hr3
  have hv := oc_vq hv hr3
  clear hr3
  rcases r3 with _ | r3
  · have hp := oc_pn hp; have hv := oc_n hv
    refine z_astoreN (lv' := [(4, .null), (3, .int (v_X6_dayRefusal N F x1 x2 1)), (0, .ref (a 0)), (1, .int x1), (2, .int x2)]) dX6_judge_13 (Nat.le_of_ble_eq_true rfl) rfl ?_
    refine z_iload_n dX6_judge_15 rfl ?_
    refine z_if_ne (tgt := 24) dX6_judge_16 (by decide) (fun c4 => ?_) (fun c4 => ?_)
    · have hp := ip_f hp c4; have hv := it_f hv c4
      refine z_aload_n dX6_judge_24 rfl ?_
      refine z_iload_n dX6_judge_25 rfl ?_
      have q5 := hp
      refine z_cwviD (ws' := maW G a ((v_X6_refuse N (v_X6_dayRefusal N F x1 x2 1)).2) ++ rdW G (sh a 10) R ++ orW G (sh a 60) (sh a 10) O ++ faW G a F) hw (fun sz => c_X6_refuse G P a sz N (v_X6_dayRefusal N F x1 x2 1) q5) [0, 1, 2] [3, 4, 5, 6, 7, 8, 9, 10, 11, 12, 13, 14, 15, 16, 17, 18, 19, 20, 21, 22, 23, 24, 25, 26] [24, 25, 26, 0, 1, 2, 3, 4, 5, 6, 7, 8, 9, 10, 11, 12, 13, 14, 15, 16, 17, 18, 19, 20, 21, 22, 23] 27 rfl rfl rfl rfl zc_X6_refuse zv_X6_refuse tw_m_RX6_70 (zrec_of wr_P 0 rfl rfl) (zroom_of rfl) rfl (Nat.le_of_ble_eq_true rfl) dX6_judge_26 ?_
      suffices z15 : ∀ q6 : Int32 × nT, q6 = (v_X6_refuse N (v_X6_dayRefusal N F x1 x2 1)) → Z k_X6_judge G Γ (wr G A Γ.2.2.1.1.heap (maW G a q6.2 ++ rdW G (sh a 10) R ++ orW G (sh a 60) (sh a 10) O ++ faW G a F)) 0 0 [(4, .null), (3, .int (v_X6_dayRefusal N F x1 x2 1)), (0, .ref (a 0)), (1, .int x1), (2, .int x2)] 29 [.int q6.1] from z15 _ rfl
      intro q6 hq6
      have hv := kk_vq hv hq6
      clear hq6
      refine z_bipush (v := 10) dX6_judge_29 rfl ?_
      refine z_isub dX6_judge_31 ?_
      subst hv; exact z_iret_W hQ rfl rfl rfl ⟨rfl, rfl⟩ dX6_judge_32
    · have hp := ip_t hp c4; have hv := it_t hv c4
      refine z_aloadN dX6_judge_19 rfl ?_
      refine z_ifnonnullN dX6_judge_21 ?_
      refine z_aload_n dX6_judge_24 rfl ?_
      refine z_iload_n dX6_judge_25 rfl ?_
      have q7 := hp
      refine z_cwviD (ws' := maW G a ((v_X6_refuse N (v_X6_dayRefusal N F x1 x2 1)).2) ++ rdW G (sh a 10) R ++ orW G (sh a 60) (sh a 10) O ++ faW G a F) hw (fun sz => c_X6_refuse G P a sz N (v_X6_dayRefusal N F x1 x2 1) q7) [0, 1, 2] [3, 4, 5, 6, 7, 8, 9, 10, 11, 12, 13, 14, 15, 16, 17, 18, 19, 20, 21, 22, 23, 24, 25, 26] [24, 25, 26, 0, 1, 2, 3, 4, 5, 6, 7, 8, 9, 10, 11, 12, 13, 14, 15, 16, 17, 18, 19, 20, 21, 22, 23] 27 rfl rfl rfl rfl zc_X6_refuse zv_X6_refuse tw_m_RX6_70 (zrec_of wr_P 0 rfl rfl) (zroom_of rfl) rfl (Nat.le_of_ble_eq_true rfl) dX6_judge_26 ?_
      suffices z16 : ∀ q8 : Int32 × nT, q8 = (v_X6_refuse N (v_X6_dayRefusal N F x1 x2 1)) → Z k_X6_judge G Γ (wr G A Γ.2.2.1.1.heap (maW G a q8.2 ++ rdW G (sh a 10) R ++ orW G (sh a 60) (sh a 10) O ++ faW G a F)) 0 0 [(4, .null), (3, .int (v_X6_dayRefusal N F x1 x2 1)), (0, .ref (a 0)), (1, .int x1), (2, .int x2)] 29 [.int q8.1] from z16 _ rfl
      intro q8 hq8
      have hv := kk_vq hv hq8
      clear hq8
      refine z_bipush (v := 10) dX6_judge_29 rfl ?_
      refine z_isub dX6_judge_31 ?_
      subst hv; exact z_iret_W hQ rfl rfl rfl ⟨rfl, rfl⟩ dX6_judge_32
  · have hp := oc_ps hp; have hv := oc_s hv
    have hr3 := fr3 _ rfl; clear fr3
    refine z_astore (lv' := [(4, .ref (sh a (30 + 2 * r3) 0)), (3, .int (v_X6_dayRefusal N F x1 x2 1)), (0, .ref (a 0)), (1, .int x1), (2, .int x2)]) dX6_judge_13 (Nat.le_of_ble_eq_true rfl) rfl ?_
    refine z_iload_n dX6_judge_15 rfl ?_
    refine z_if_ne (tgt := 24) dX6_judge_16 (by decide) (fun c9 => ?_) (fun c9 => ?_)
    · have hp := ip_f hp c9; have hv := it_f hv c9
      refine z_aload_n dX6_judge_24 rfl ?_
      refine z_iload_n dX6_judge_25 rfl ?_
      have q10 := hp
      refine z_cwviD (ws' := maW G a ((v_X6_refuse N (v_X6_dayRefusal N F x1 x2 1)).2) ++ rdW G (sh a 10) R ++ orW G (sh a 60) (sh a 10) O ++ faW G a F) hw (fun sz => c_X6_refuse G P a sz N (v_X6_dayRefusal N F x1 x2 1) q10) [0, 1, 2] [3, 4, 5, 6, 7, 8, 9, 10, 11, 12, 13, 14, 15, 16, 17, 18, 19, 20, 21, 22, 23, 24, 25, 26] [24, 25, 26, 0, 1, 2, 3, 4, 5, 6, 7, 8, 9, 10, 11, 12, 13, 14, 15, 16, 17, 18, 19, 20, 21, 22, 23] 27 rfl rfl rfl rfl zc_X6_refuse zv_X6_refuse tw_m_RX6_70 (zrec_of wr_P 0 rfl rfl) (zroom_of rfl) rfl (Nat.le_of_ble_eq_true rfl) dX6_judge_26 ?_
      suffices z17 : ∀ q11 : Int32 × nT, q11 = (v_X6_refuse N (v_X6_dayRefusal N F x1 x2 1)) → Z k_X6_judge G Γ (wr G A Γ.2.2.1.1.heap (maW G a q11.2 ++ rdW G (sh a 10) R ++ orW G (sh a 60) (sh a 10) O ++ faW G a F)) 0 0 [(4, .ref (sh a (30 + 2 * r3) 0)), (3, .int (v_X6_dayRefusal N F x1 x2 1)), (0, .ref (a 0)), (1, .int x1), (2, .int x2)] 29 [.int q11.1] from z17 _ rfl
      intro q11 hq11
      have hv := kk_vq hv hq11
      clear hq11
      refine z_bipush (v := 10) dX6_judge_29 rfl ?_
      refine z_isub dX6_judge_31 ?_
      subst hv; exact z_iret_W hQ rfl rfl rfl ⟨rfl, rfl⟩ dX6_judge_32
    · have hp := ip_t hp c9; have hv := it_t hv c9
      refine z_aload dX6_judge_19 rfl ?_
      refine z_ifnonnull (tgt := 33) dX6_judge_21 (by decide) ?_
      refine z_aload_n dX6_judge_33 rfl ?_
      refine z_get (v := .ref ((sh a 60) 0)) wr_P 0 rfl rfl uin_X6 5 (Nat.le_of_ble_eq_true rfl) tw_f_RX6_41 rfl rfl dX6_judge_34 ?_
      refine z_aload dX6_judge_37 rfl ?_
      refine z_iload_n dX6_judge_39 rfl ?_
      refine z_out (X := maW G a N ++ rdW G (sh a 10) R ++ orW G (sh a 60) (sh a 10) O) (F := F) hr3 ?_
      have q12 := hp
      refine z_ctviD (R0 := pick (maW G a N ++ rdW G (sh a 10) R ++ orW G (sh a 60) (sh a 10) O ++ shW G (sh a (30 + 2 * r3)) (F r3)) [0, 1, 2]) (W1 := maW G a N ++ rdW G (sh a 10) R ++ orW G (sh a 60) (sh a 10) ((v_X2_wrongIn P O R (F r3) x2).2) ++ shW G (sh a (30 + 2 * r3)) (F r3)) hw (fun sz => c_X2_wrongIn G P (sh a 60) (sh a 10) (sh a (30 + 2 * r3)) sz O R (F r3) x2 q12) [8, 9, 10, 3, 4, 5, 6, 7, 11, 12] [0, 1, 2] [0, 1, 2, 6, 7, 8, 9, 10, 3, 4, 5, 11, 12] 13 (by decide +kernel) rfl rfl rfl rfl rfl zc_X2_wrongIn zv_X2_wrongIn tw_m_RX6_286 (zrec_of wr_P 8 rfl rfl) (zroom_of rfl) rfl (Nat.le_of_ble_eq_true rfl) dX6_judge_40 ?_
      refine z_in0 hr3 ?_
      suffices z18 : ∀ q13 : Int32 × oT, q13 = (v_X2_wrongIn P O R (F r3) x2) → Z k_X6_judge G Γ (wr G A Γ.2.2.1.1.heap (maW G a N ++ rdW G (sh a 10) R ++ orW G (sh a 60) (sh a 10) q13.2 ++ faW G a F)) 0 0 [(4, .ref (sh a (30 + 2 * r3) 0)), (3, .int (v_X6_dayRefusal N F x1 x2 1)), (0, .ref (a 0)), (1, .int x1), (2, .int x2)] 43 [.int q13.1] from z18 _ rfl
      intro q13 hq13
      have hv := kk_vq hv hq13
      clear hq13
      subst hv; exact z_iret_W hQ rfl rfl rfl ⟨rfl, rfl⟩ dX6_judge_43
theorem dX6_behind_0 : decode cX6_behind 0 = .ok (.aload_n 0, 1) := by decide +kernel
theorem dX6_behind_1 : decode cX6_behind 1 = .ok (.iload_n 1, 1) := by decide +kernel
theorem dX6_behind_2 : decode cX6_behind 2 = .ok (.iload_n 2, 1) := by decide +kernel
theorem dX6_behind_3 : decode cX6_behind 3 = .ok (.iload_n 3, 1) := by decide +kernel
theorem dX6_behind_4 : decode cX6_behind 4 = .ok (.iconst 0, 1) := by decide +kernel
theorem dX6_behind_5 : decode cX6_behind 5 = .ok (.iconst 2, 1) := by decide +kernel
theorem dX6_behind_6 : decode cX6_behind 6 = .ok (.invokestatic 74, 3) := by decide +kernel
theorem dX6_behind_9 : decode cX6_behind 9 = .ok (.invokevirtual 217, 3) := by decide +kernel
theorem dX6_behind_12 : decode cX6_behind 12 = .ok (.istore 4, 2) := by decide +kernel
theorem dX6_behind_14 : decode cX6_behind 14 = .ok (.aload_n 0, 1) := by decide +kernel
theorem dX6_behind_15 : decode cX6_behind 15 = .ok (.iload_n 1, 1) := by decide +kernel
theorem dX6_behind_16 : decode cX6_behind 16 = .ok (.invokevirtual 66, 3) := by decide +kernel
theorem dX6_behind_19 : decode cX6_behind 19 = .ok (.astore 5, 2) := by decide +kernel
theorem dX6_behind_21 : decode cX6_behind 21 = .ok (.iload 4, 2) := by decide +kernel
theorem dX6_behind_23 : decode cX6_behind 23 = .ok (.ifCond .ne 8, 3) := by decide +kernel
theorem dX6_behind_26 : decode cX6_behind 26 = .ok (.aload 5, 2) := by decide +kernel
theorem dX6_behind_28 : decode cX6_behind 28 = .ok (.ifnonnull 10, 3) := by decide +kernel
theorem dX6_behind_31 : decode cX6_behind 31 = .ok (.aload_n 0, 1) := by decide +kernel
theorem dX6_behind_32 : decode cX6_behind 32 = .ok (.iload 4, 2) := by decide +kernel
theorem dX6_behind_34 : decode cX6_behind 34 = .ok (.invokevirtual 70, 3) := by decide +kernel
theorem dX6_behind_37 : decode cX6_behind 37 = .ok (.ireturn, 1) := by decide +kernel
theorem dX6_behind_38 : decode cX6_behind 38 = .ok (.aload_n 0, 1) := by decide +kernel
theorem dX6_behind_39 : decode cX6_behind 39 = .ok (.getfield 41, 3) := by decide +kernel
theorem dX6_behind_42 : decode cX6_behind 42 = .ok (.aload 5, 2) := by decide +kernel
theorem dX6_behind_44 : decode cX6_behind 44 = .ok (.iload_n 2, 1) := by decide +kernel
theorem dX6_behind_45 : decode cX6_behind 45 = .ok (.invokevirtual 286, 3) := by decide +kernel
theorem dX6_behind_48 : decode cX6_behind 48 = .ok (.iconst (-1), 1) := by decide +kernel
theorem dX6_behind_49 : decode cX6_behind 49 = .ok (.if_icmp .eq 10, 3) := by decide +kernel
theorem dX6_behind_52 : decode cX6_behind 52 = .ok (.aload_n 0, 1) := by decide +kernel
theorem dX6_behind_53 : decode cX6_behind 53 = .ok (.bipush 6, 2) := by decide +kernel
theorem dX6_behind_55 : decode cX6_behind 55 = .ok (.invokevirtual 70, 3) := by decide +kernel
theorem dX6_behind_58 : decode cX6_behind 58 = .ok (.ireturn, 1) := by decide +kernel
theorem dX6_behind_59 : decode cX6_behind 59 = .ok (.iload_n 3, 1) := by decide +kernel
theorem dX6_behind_60 : decode cX6_behind 60 = .ok (.lookupswitch 47 #[(0, 28), (1, 36)], 28) := by decide +kernel
theorem dX6_behind_88 : decode cX6_behind 88 = .ok (.aload_n 0, 1) := by decide +kernel
theorem dX6_behind_89 : decode cX6_behind 89 = .ok (.getfield 41, 3) := by decide +kernel
theorem dX6_behind_92 : decode cX6_behind 92 = .ok (.invokevirtual 242, 3) := by decide +kernel
theorem dX6_behind_95 : decode cX6_behind 95 = .ok (.ireturn, 1) := by decide +kernel
theorem dX6_behind_96 : decode cX6_behind 96 = .ok (.aload_n 0, 1) := by decide +kernel
theorem dX6_behind_97 : decode cX6_behind 97 = .ok (.getfield 41, 3) := by decide +kernel
theorem dX6_behind_100 : decode cX6_behind 100 = .ok (.getfield 228, 3) := by decide +kernel
theorem dX6_behind_103 : decode cX6_behind 103 = .ok (.invokestatic 231, 3) := by decide +kernel
theorem dX6_behind_106 : decode cX6_behind 106 = .ok (.ireturn, 1) := by decide +kernel
theorem dX6_behind_107 : decode cX6_behind 107 = .ok (.aload_n 0, 1) := by decide +kernel
theorem dX6_behind_108 : decode cX6_behind 108 = .ok (.getfield 41, 3) := by decide +kernel
theorem dX6_behind_111 : decode cX6_behind 111 = .ok (.getfield 239, 3) := by decide +kernel
theorem dX6_behind_114 : decode cX6_behind 114 = .ok (.invokestatic 231, 3) := by decide +kernel
theorem dX6_behind_117 : decode cX6_behind 117 = .ok (.ireturn, 1) := by decide +kernel
abbrev k_X6_behind : zK := (cX6_behind, 6, RX6, (some .int), ({ frames := 5, cells := 0, slots := 0, locals := 118 } : Room))
theorem zc_X6_behind : zcal yX6_behind k_X6_behind.1 k_X6_behind.2.1 k_X6_behind.2.2.2.1 3 := ⟨tw_code_yX6_behind, tw_i_TollForHesitators, ⟨by decide +kernel, by decide +kernel⟩, by decide +kernel⟩
theorem zv_X6_behind : Cond.instanceMethod yX6_behind ∈ TS ∧ Cond.selects RX6 yX6_behind yX6_behind ∈ TS := ⟨tw_inst_yX6_behind, tw_s_yX6_behind⟩
def v_X6_behind (P : pT) (N : nT) (R : rT) (O : oT) (F : fT) (x1 : Int32) (x2 : Int32) (x3 : Int32) : Int32 × nT × oT := oc (v_X6_shelfAt N x1) (if (v_X6_dayRefusal N F x1 x2 (v_X6_within x3 0 2)) = 0 then kk (v_X6_refuse N (v_X6_dayRefusal N F x1 x2 (v_X6_within x3 0 2))) (fun q8 : Int32 × nT => (q8.1, (q8.2, O))) else kk (v_X6_refuse N (v_X6_dayRefusal N F x1 x2 (v_X6_within x3 0 2))) (fun q6 : Int32 × nT => (q6.1, (q6.2, O)))) (fun r3 : Nat => if (v_X6_dayRefusal N F x1 x2 (v_X6_within x3 0 2)) = 0 then kk (v_X2_wrongIn P O R (F r3) x2) (fun q13 : Int32 × oT => if q13.1 = (-1) then if x3 = 0 then ((v_X2_paid q13.2 R), (N, q13.2)) else if x3 = 1 then ((v_J6_bitCount_0f7a4 (q13.2.1 4)), (N, q13.2)) else ((v_J6_bitCount_0f7a4 (q13.2.1 6)), (N, q13.2)) else kk (v_X6_refuse N 6) (fun q18 : Int32 × nT => (q18.1, (q18.2, q13.2)))) else kk (v_X6_refuse N (v_X6_dayRefusal N F x1 x2 (v_X6_within x3 0 2))) (fun q11 : Int32 × nT => (q11.1, (q11.2, O))))
def p_X6_behind (P : pT) (N : nT) (R : rT) (O : oT) (F : fT) (x1 : Int32) (x2 : Int32) (x3 : Int32) : Prop := (p_X6_dayRefusal N F x1 x2 (v_X6_within x3 0 2)) ∧ (p_X6_shelfAt N x1 ∧ (oc (v_X6_shelfAt N x1) (if (v_X6_dayRefusal N F x1 x2 (v_X6_within x3 0 2)) = 0 then p_X6_refuse N (v_X6_dayRefusal N F x1 x2 (v_X6_within x3 0 2)) else p_X6_refuse N (v_X6_dayRefusal N F x1 x2 (v_X6_within x3 0 2))) (fun r3 : Nat => if (v_X6_dayRefusal N F x1 x2 (v_X6_within x3 0 2)) = 0 then (p_X2_wrongIn P O R (F r3) x2) ∧ (kk (v_X2_wrongIn P O R (F r3) x2) (fun q13 : Int32 × oT => if q13.1 = (-1) then True else p_X6_refuse N 6)) else p_X6_refuse N (v_X6_dayRefusal N F x1 x2 (v_X6_within x3 0 2)))))
set_option maxHeartbeats 800000 in
theorem c_X6_behind {l : Launch} (G : zG) (P : pT) (a : Nat → Nat) (sz : Nat) (N : nT) (R : rT) (O : oT) (F : fT) (x1 : Int32) (x2 : Int32) (x3 : Int32) (hp : p_X6_behind P N R O F x1 x2 x3) : Met l yX6_behind (.code yX6_behind k_X6_behind.1 k_X6_behind.2.1 k_X6_behind.2.2.2.1 :: TS) k_X6_behind.2.2.2.2 (Pz G [.ref (a 0), .int x1, .int x2, .int x3] (Fw G (gX G P) (maW G a N ++ rdW G (sh a 10) R ++ orW G (sh a 60) (sh a 10) O ++ faW G a F) sz)) (Qwi G (fun r w => r = (v_X6_behind P N R O F x1 x2 x3).1 ∧ w = maW G a ((v_X6_behind P N R O F x1 x2 x3).2.1) ++ rdW G (sh a 10) R ++ orW G (sh a 60) (sh a 10) ((v_X6_behind P N R O F x1 x2 x3).2.2) ++ faW G a F) (va_A (maW G a N ++ rdW G (sh a 10) R ++ orW G (sh a 60) (sh a 10) O ++ faW G a F) sz)) 0 0 (va_A (maW G a N ++ rdW G (sh a 10) R ++ orW G (sh a 60) (sh a 10) O ++ faW G a F) sz) := by
  refine zmet (K := k_X6_behind) (by decide +kernel) rfl rfl (fun Γ hl0 hQ hN hF => ?_)
  refine z_start (gX_ok G P) hF (fun hw => ?_)
  generalize va_A (maW G a N ++ rdW G (sh a 10) R ++ orW G (sh a 60) (sh a 10) O ++ faW G a F) sz = A at hQ hw ⊢
  obtain ⟨res, hv⟩ : ∃ res, v_X6_behind P N R O F x1 x2 x3 = res := ⟨_, rfl⟩
  rw [hv] at hQ
  unfold v_X6_behind at hv
  unfold p_X6_behind at hp
  show Z k_X6_behind G Γ _ 0 0 [(0, .ref (a 0)), (1, .int x1), (2, .int x2), (3, .int x3)] 0 []
  refine z_aload_n dX6_behind_0 rfl ?_
  refine z_iload_n dX6_behind_1 rfl ?_
  refine z_iload_n dX6_behind_2 rfl ?_
  refine z_iload_n dX6_behind_3 rfl ?_
  refine z_iconst (v := 0) dX6_behind_4 rfl ?_
  refine z_iconst (v := 2) dX6_behind_5 rfl ?_
  refine z_csi (c_X6_within G P x3 0 2 ) zc_X6_within tw_st_yX6_within tw_m_RX6_74 (fr_all (sub_P wr_P [] rfl) (wr_G hw)) (zroom_of rfl) rfl (Nat.le_of_ble_eq_true rfl) dX6_behind_6 ?_
  obtain ⟨q1, hp⟩ := hp
  refine z_cvi (c_X6_dayRefusal G P a N F x1 x2 (v_X6_within x3 0 2) q1) zc_X6_dayRefusal zv_X6_dayRefusal tw_m_RX6_217 (zrec_of wr_P 0 rfl rfl) (fr_all (sub_P wr_P [0, 1, 2, 11, 12, 13, 14, 15, 16, 17, 18, 19, 20, 21, 22, 23, 24, 25, 26] rfl) (wr_G hw)) (zroom_of rfl) rfl (Nat.le_of_ble_eq_true rfl) dX6_behind_9 ?_
  refine z_istore (lv' := [(4, .int (v_X6_dayRefusal N F x1 x2 (v_X6_within x3 0 2))), (0, .ref (a 0)), (1, .int x1), (2, .int x2), (3, .int x3)]) dX6_behind_12 (Nat.le_of_ble_eq_true rfl) rfl ?_
  refine z_aload_n dX6_behind_14 rfl ?_
  refine z_iload_n dX6_behind_15 rfl ?_
  obtain ⟨q2, hp⟩ := hp
  refine z_cvq (c_X6_shelfAt G P a N x1 q2) zc_X6_shelfAt zv_X6_shelfAt tw_m_RX6_66 (zrec_of wr_P 0 rfl rfl) (fr_all (sub_P wr_P [0, 1, 2] rfl) (wr_G hw)) (zroom_of rfl) rfl (Nat.le_of_ble_eq_true rfl) dX6_behind_16 ?_
  suffices z19 : ∀ r3 : Option Nat, r3 = (v_X6_shelfAt N x1) → (∀ k : Nat, r3 = some k → k < 8) → Z k_X6_behind G Γ (wr G A Γ.2.2.1.1.heap (maW G a N ++ rdW G (sh a 10) R ++ orW G (sh a 60) (sh a 10) O ++ faW G a F)) 0 0 [(4, .int (v_X6_dayRefusal N F x1 x2 (v_X6_within x3 0 2))), (0, .ref (a 0)), (1, .int x1), (2, .int x2), (3, .int x3)] 19 [va_rf (r3.map (fun k => sh a (30 + 2 * k) 0))] from z19 _ rfl (shelfAt_lt N x1)
  intro r3 hr3 fr3
  have hp := oc_pq hp hr3
  have hv := oc_vq hv hr3
  clear hr3
  rcases r3 with _ | r3
  · have hp := oc_pn hp; have hv := oc_n hv
    refine z_astoreN (lv' := [(5, .null), (4, .int (v_X6_dayRefusal N F x1 x2 (v_X6_within x3 0 2))), (0, .ref (a 0)), (1, .int x1), (2, .int x2), (3, .int x3)]) dX6_behind_19 (Nat.le_of_ble_eq_true rfl) rfl ?_
    refine z_iload dX6_behind_21 rfl ?_
    refine z_if_ne (tgt := 31) dX6_behind_23 (by decide) (fun c4 => ?_) (fun c4 => ?_)
    · have hp := ip_f hp c4; have hv := it_f hv c4
      refine z_aload_n dX6_behind_31 rfl ?_
      refine z_iload dX6_behind_32 rfl ?_
      have q5 := hp
      refine z_cwviD (ws' := maW G a ((v_X6_refuse N (v_X6_dayRefusal N F x1 x2 (v_X6_within x3 0 2))).2) ++ rdW G (sh a 10) R ++ orW G (sh a 60) (sh a 10) O ++ faW G a F) hw (fun sz => c_X6_refuse G P a sz N (v_X6_dayRefusal N F x1 x2 (v_X6_within x3 0 2)) q5) [0, 1, 2] [3, 4, 5, 6, 7, 8, 9, 10, 11, 12, 13, 14, 15, 16, 17, 18, 19, 20, 21, 22, 23, 24, 25, 26] [24, 25, 26, 0, 1, 2, 3, 4, 5, 6, 7, 8, 9, 10, 11, 12, 13, 14, 15, 16, 17, 18, 19, 20, 21, 22, 23] 27 rfl rfl rfl rfl zc_X6_refuse zv_X6_refuse tw_m_RX6_70 (zrec_of wr_P 0 rfl rfl) (zroom_of rfl) rfl (Nat.le_of_ble_eq_true rfl) dX6_behind_34 ?_
      suffices z20 : ∀ q6 : Int32 × nT, q6 = (v_X6_refuse N (v_X6_dayRefusal N F x1 x2 (v_X6_within x3 0 2))) → Z k_X6_behind G Γ (wr G A Γ.2.2.1.1.heap (maW G a q6.2 ++ rdW G (sh a 10) R ++ orW G (sh a 60) (sh a 10) O ++ faW G a F)) 0 0 [(5, .null), (4, .int (v_X6_dayRefusal N F x1 x2 (v_X6_within x3 0 2))), (0, .ref (a 0)), (1, .int x1), (2, .int x2), (3, .int x3)] 37 [.int q6.1] from z20 _ rfl
      intro q6 hq6
      have hv := kk_vq hv hq6
      clear hq6
      subst hv; exact z_iret_W hQ rfl rfl rfl ⟨rfl, rfl⟩ dX6_behind_37
    · have hp := ip_t hp c4; have hv := it_t hv c4
      refine z_aloadN dX6_behind_26 rfl ?_
      refine z_ifnonnullN dX6_behind_28 ?_
      refine z_aload_n dX6_behind_31 rfl ?_
      refine z_iload dX6_behind_32 rfl ?_
      have q7 := hp
      refine z_cwviD (ws' := maW G a ((v_X6_refuse N (v_X6_dayRefusal N F x1 x2 (v_X6_within x3 0 2))).2) ++ rdW G (sh a 10) R ++ orW G (sh a 60) (sh a 10) O ++ faW G a F) hw (fun sz => c_X6_refuse G P a sz N (v_X6_dayRefusal N F x1 x2 (v_X6_within x3 0 2)) q7) [0, 1, 2] [3, 4, 5, 6, 7, 8, 9, 10, 11, 12, 13, 14, 15, 16, 17, 18, 19, 20, 21, 22, 23, 24, 25, 26] [24, 25, 26, 0, 1, 2, 3, 4, 5, 6, 7, 8, 9, 10, 11, 12, 13, 14, 15, 16, 17, 18, 19, 20, 21, 22, 23] 27 rfl rfl rfl rfl zc_X6_refuse zv_X6_refuse tw_m_RX6_70 (zrec_of wr_P 0 rfl rfl) (zroom_of rfl) rfl (Nat.le_of_ble_eq_true rfl) dX6_behind_34 ?_
      suffices z21 : ∀ q8 : Int32 × nT, q8 = (v_X6_refuse N (v_X6_dayRefusal N F x1 x2 (v_X6_within x3 0 2))) → Z k_X6_behind G Γ (wr G A Γ.2.2.1.1.heap (maW G a q8.2 ++ rdW G (sh a 10) R ++ orW G (sh a 60) (sh a 10) O ++ faW G a F)) 0 0 [(5, .null), (4, .int (v_X6_dayRefusal N F x1 x2 (v_X6_within x3 0 2))), (0, .ref (a 0)), (1, .int x1), (2, .int x2), (3, .int x3)] 37 [.int q8.1] from z21 _ rfl
      intro q8 hq8
      have hv := kk_vq hv hq8
      clear hq8
      subst hv; exact z_iret_W hQ rfl rfl rfl ⟨rfl, rfl⟩ dX6_behind_37
  · have hp := oc_ps hp; have hv := oc_s hv
    have hr3 := fr3 _ rfl; clear fr3
    refine z_astore (lv' := [(5, .ref (sh a (30 + 2 * r3) 0)), (4, .int (v_X6_dayRefusal N F x1 x2 (v_X6_within x3 0 2))), (0, .ref (a 0)), (1, .int x1), (2, .int x2), (3, .int x3)]) dX6_behind_19 (Nat.le_of_ble_eq_true rfl) rfl ?_
    refine z_iload dX6_behind_21 rfl ?_
    refine z_if_ne (tgt := 31) dX6_behind_23 (by decide) (fun c9 => ?_) (fun c9 => ?_)
    · have hp := ip_f hp c9; have hv := it_f hv c9
      refine z_aload_n dX6_behind_31 rfl ?_
      refine z_iload dX6_behind_32 rfl ?_
      have q10 := hp
      refine z_cwviD (ws' := maW G a ((v_X6_refuse N (v_X6_dayRefusal N F x1 x2 (v_X6_within x3 0 2))).2) ++ rdW G (sh a 10) R ++ orW G (sh a 60) (sh a 10) O ++ faW G a F) hw (fun sz => c_X6_refuse G P a sz N (v_X6_dayRefusal N F x1 x2 (v_X6_within x3 0 2)) q10) [0, 1, 2] [3, 4, 5, 6, 7, 8, 9, 10, 11, 12, 13, 14, 15, 16, 17, 18, 19, 20, 21, 22, 23, 24, 25, 26] [24, 25, 26, 0, 1, 2, 3, 4, 5, 6, 7, 8, 9, 10, 11, 12, 13, 14, 15, 16, 17, 18, 19, 20, 21, 22, 23] 27 rfl rfl rfl rfl zc_X6_refuse zv_X6_refuse tw_m_RX6_70 (zrec_of wr_P 0 rfl rfl) (zroom_of rfl) rfl (Nat.le_of_ble_eq_true rfl) dX6_behind_34 ?_
      suffices z22 : ∀ q11 : Int32 × nT, q11 = (v_X6_refuse N (v_X6_dayRefusal N F x1 x2 (v_X6_within x3 0 2))) → Z k_X6_behind G Γ (wr G A Γ.2.2.1.1.heap (maW G a q11.2 ++ rdW G (sh a 10) R ++ orW G (sh a 60) (sh a 10) O ++ faW G a F)) 0 0 [(5, .ref (sh a (30 + 2 * r3) 0)), (4, .int (v_X6_dayRefusal N F x1 x2 (v_X6_within x3 0 2))), (0, .ref (a 0)), (1, .int x1), (2, .int x2), (3, .int x3)] 37 [.int q11.1] from z22 _ rfl
      intro q11 hq11
      have hv := kk_vq hv hq11
      clear hq11
      subst hv; exact z_iret_W hQ rfl rfl rfl ⟨rfl, rfl⟩ dX6_behind_37
    · have hp := ip_t hp c9; have hv := it_t hv c9
      refine z_aload dX6_behind_26 rfl ?_
      refine z_ifnonnull (tgt := 38) dX6_behind_28 (by decide) ?_
      refine z_aload_n dX6_behind_38 rfl ?_
      refine z_get (v := .ref ((sh a 60) 0)) wr_P 0 rfl rfl uin_X6 5 (Nat.le_of_ble_eq_true rfl) tw_f_RX6_41 rfl rfl dX6_behind_39 ?_
      refine z_aload dX6_behind_42 rfl ?_
      refine z_iload_n dX6_behind_44 rfl ?_
      refine z_out (X := maW G a N ++ rdW G (sh a 10) R ++ orW G (sh a 60) (sh a 10) O) (F := F) hr3 ?_
      obtain ⟨q12, hp⟩ := hp
      refine z_ctviD (R0 := pick (maW G a N ++ rdW G (sh a 10) R ++ orW G (sh a 60) (sh a 10) O ++ shW G (sh a (30 + 2 * r3)) (F r3)) [0, 1, 2]) (W1 := maW G a N ++ rdW G (sh a 10) R ++ orW G (sh a 60) (sh a 10) ((v_X2_wrongIn P O R (F r3) x2).2) ++ shW G (sh a (30 + 2 * r3)) (F r3)) hw (fun sz => c_X2_wrongIn G P (sh a 60) (sh a 10) (sh a (30 + 2 * r3)) sz O R (F r3) x2 q12) [8, 9, 10, 3, 4, 5, 6, 7, 11, 12] [0, 1, 2] [0, 1, 2, 6, 7, 8, 9, 10, 3, 4, 5, 11, 12] 13 (by decide +kernel) rfl rfl rfl rfl rfl zc_X2_wrongIn zv_X2_wrongIn tw_m_RX6_286 (zrec_of wr_P 8 rfl rfl) (zroom_of rfl) rfl (Nat.le_of_ble_eq_true rfl) dX6_behind_45 ?_
      refine z_in0 hr3 ?_
      suffices z23 : ∀ q13 : Int32 × oT, q13 = (v_X2_wrongIn P O R (F r3) x2) → Z k_X6_behind G Γ (wr G A Γ.2.2.1.1.heap (maW G a N ++ rdW G (sh a 10) R ++ orW G (sh a 60) (sh a 10) q13.2 ++ faW G a F)) 0 0 [(5, .ref (sh a (30 + 2 * r3) 0)), (4, .int (v_X6_dayRefusal N F x1 x2 (v_X6_within x3 0 2))), (0, .ref (a 0)), (1, .int x1), (2, .int x2), (3, .int x3)] 48 [.int q13.1] from z23 _ rfl
      intro q13 hq13
      have hp := kk_pq hp hq13
      have hv := kk_vq hv hq13
      clear hq13
      refine z_iconst (v := (-1)) dX6_behind_48 rfl ?_
      refine z_icmp_eq (tgt := 59) dX6_behind_49 (by decide) (fun c14 => ?_) (fun c14 => ?_)
      · have hp := ip_t hp c14; have hv := it_t hv c14
        refine z_iload_n dX6_behind_59 rfl ?_
        by_cases c15 : x3 = 0
        · have hv := it_t hv c15
          refine z_lookup (tgt := 88) dX6_behind_60 (by decide) (look_in c15 rfl) (by decide) ?_
          refine z_aload_n dX6_behind_88 rfl ?_
          refine z_get (v := .ref ((sh a 60) 0)) wr_P 0 rfl rfl uin_X6 5 (Nat.le_of_ble_eq_true rfl) tw_f_RX6_41 rfl rfl dX6_behind_89 ?_
          refine z_cvi (c_X2_paid G P (sh a 60) (sh a 10) q13.2 R ) zc_X2_paid zv_X2_paid tw_m_RX6_242 (zrec_of wr_P 8 rfl rfl) (fr_all (sub_P wr_P [8, 9, 10, 3, 4, 5, 6, 7] rfl) (wr_G hw)) (zroom_of rfl) rfl (Nat.le_of_ble_eq_true rfl) dX6_behind_92 ?_
          subst hv; exact z_iret_W hQ rfl rfl rfl ⟨rfl, rfl⟩ dX6_behind_95
        have hv := it_f hv c15
        by_cases c16 : x3 = 1
        · have hv := it_t hv c16
          refine z_lookup (tgt := 96) dX6_behind_60 (by decide) (look_in c16 rfl) (by decide) ?_
          refine z_aload_n dX6_behind_96 rfl ?_
          refine z_get (v := .ref ((sh a 60) 0)) wr_P 0 rfl rfl uin_X6 5 (Nat.le_of_ble_eq_true rfl) tw_f_RX6_41 rfl rfl dX6_behind_97 ?_
          refine z_get (v := .int (q13.2.1 4)) wr_P 8 rfl rfl uin_X2 4 (Nat.le_of_ble_eq_true rfl) tw_f_RX6_228 rfl rfl dX6_behind_100 ?_
          refine z_csi (c_J6_bitCount_0f7a4 G P (q13.2.1 4) ) zc_J6_bitCount_0f7a4 tw_st_yJ6_bitCount_0f7a4 tw_m_RX6_231 (fr_all (sub_P wr_P [] rfl) (wr_G hw)) (zroom_of rfl) rfl (Nat.le_of_ble_eq_true rfl) dX6_behind_103 ?_
          subst hv; exact z_iret_W hQ rfl rfl rfl ⟨rfl, rfl⟩ dX6_behind_106
        have hv := it_f hv c16
        refine z_lookup (tgt := 107) dX6_behind_60 (by decide) (look_c c15 rfl (look_c c16 rfl look_n)) (by decide) ?_
        refine z_aload_n dX6_behind_107 rfl ?_
        refine z_get (v := .ref ((sh a 60) 0)) wr_P 0 rfl rfl uin_X6 5 (Nat.le_of_ble_eq_true rfl) tw_f_RX6_41 rfl rfl dX6_behind_108 ?_
        refine z_get (v := .int (q13.2.1 6)) wr_P 8 rfl rfl uin_X2 6 (Nat.le_of_ble_eq_true rfl) tw_f_RX6_239 rfl rfl dX6_behind_111 ?_
        refine z_csi (c_J6_bitCount_0f7a4 G P (q13.2.1 6) ) zc_J6_bitCount_0f7a4 tw_st_yJ6_bitCount_0f7a4 tw_m_RX6_231 (fr_all (sub_P wr_P [] rfl) (wr_G hw)) (zroom_of rfl) rfl (Nat.le_of_ble_eq_true rfl) dX6_behind_114 ?_
        subst hv; exact z_iret_W hQ rfl rfl rfl ⟨rfl, rfl⟩ dX6_behind_117
      · have hp := ip_f hp c14; have hv := it_f hv c14
        refine z_aload_n dX6_behind_52 rfl ?_
        refine z_bipush (v := 6) dX6_behind_53 rfl ?_
        have q17 := hp
        refine z_cwviD (ws' := maW G a ((v_X6_refuse N 6).2) ++ rdW G (sh a 10) R ++ orW G (sh a 60) (sh a 10) q13.2 ++ faW G a F) hw (fun sz => c_X6_refuse G P a sz N 6 q17) [0, 1, 2] [3, 4, 5, 6, 7, 8, 9, 10, 11, 12, 13, 14, 15, 16, 17, 18, 19, 20, 21, 22, 23, 24, 25, 26] [24, 25, 26, 0, 1, 2, 3, 4, 5, 6, 7, 8, 9, 10, 11, 12, 13, 14, 15, 16, 17, 18, 19, 20, 21, 22, 23] 27 rfl rfl rfl rfl zc_X6_refuse zv_X6_refuse tw_m_RX6_70 (zrec_of wr_P 0 rfl rfl) (zroom_of rfl) rfl (Nat.le_of_ble_eq_true rfl) dX6_behind_55 ?_
        suffices z24 : ∀ q18 : Int32 × nT, q18 = (v_X6_refuse N 6) → Z k_X6_behind G Γ (wr G A Γ.2.2.1.1.heap (maW G a q18.2 ++ rdW G (sh a 10) R ++ orW G (sh a 60) (sh a 10) q13.2 ++ faW G a F)) 0 0 [(5, .ref (sh a (30 + 2 * r3) 0)), (4, .int (v_X6_dayRefusal N F x1 x2 (v_X6_within x3 0 2))), (0, .ref (a 0)), (1, .int x1), (2, .int x2), (3, .int x3)] 58 [.int q18.1] from z24 _ rfl
        intro q18 hq18
        have hv := kk_vq hv hq18
        clear hq18
        subst hv; exact z_iret_W hQ rfl rfl rfl ⟨rfl, rfl⟩ dX6_behind_58
theorem dX6_done_0 : decode cX6_done 0 = .ok (.aload_n 0, 1) := by decide +kernel
theorem dX6_done_1 : decode cX6_done 1 = .ok (.iload_n 1, 1) := by decide +kernel
theorem dX6_done_2 : decode cX6_done 2 = .ok (.iload_n 2, 1) := by decide +kernel
theorem dX6_done_3 : decode cX6_done 3 = .ok (.iconst 1, 1) := by decide +kernel
theorem dX6_done_4 : decode cX6_done 4 = .ok (.invokevirtual 217, 3) := by decide +kernel
theorem dX6_done_7 : decode cX6_done 7 = .ok (.istore_n 3, 1) := by decide +kernel
theorem dX6_done_8 : decode cX6_done 8 = .ok (.aload_n 0, 1) := by decide +kernel
theorem dX6_done_9 : decode cX6_done 9 = .ok (.iload_n 1, 1) := by decide +kernel
theorem dX6_done_10 : decode cX6_done 10 = .ok (.invokevirtual 66, 3) := by decide +kernel
theorem dX6_done_13 : decode cX6_done 13 = .ok (.astore 4, 2) := by decide +kernel
theorem dX6_done_15 : decode cX6_done 15 = .ok (.iload_n 3, 1) := by decide +kernel
theorem dX6_done_16 : decode cX6_done 16 = .ok (.ifCond .ne 8, 3) := by decide +kernel
theorem dX6_done_19 : decode cX6_done 19 = .ok (.aload 4, 2) := by decide +kernel
theorem dX6_done_21 : decode cX6_done 21 = .ok (.ifnonnull 9, 3) := by decide +kernel
theorem dX6_done_24 : decode cX6_done 24 = .ok (.aload_n 0, 1) := by decide +kernel
theorem dX6_done_25 : decode cX6_done 25 = .ok (.iload_n 3, 1) := by decide +kernel
theorem dX6_done_26 : decode cX6_done 26 = .ok (.invokevirtual 70, 3) := by decide +kernel
theorem dX6_done_29 : decode cX6_done 29 = .ok (.ireturn, 1) := by decide +kernel
theorem dX6_done_30 : decode cX6_done 30 = .ok (.aload_n 0, 1) := by decide +kernel
theorem dX6_done_31 : decode cX6_done 31 = .ok (.getfield 41, 3) := by decide +kernel
theorem dX6_done_34 : decode cX6_done 34 = .ok (.aload 4, 2) := by decide +kernel
theorem dX6_done_36 : decode cX6_done 36 = .ok (.iload_n 2, 1) := by decide +kernel
theorem dX6_done_37 : decode cX6_done 37 = .ok (.invokevirtual 286, 3) := by decide +kernel
theorem dX6_done_40 : decode cX6_done 40 = .ok (.iconst (-1), 1) := by decide +kernel
theorem dX6_done_41 : decode cX6_done 41 = .ok (.if_icmp .eq 10, 3) := by decide +kernel
theorem dX6_done_44 : decode cX6_done 44 = .ok (.aload_n 0, 1) := by decide +kernel
theorem dX6_done_45 : decode cX6_done 45 = .ok (.bipush 6, 2) := by decide +kernel
theorem dX6_done_47 : decode cX6_done 47 = .ok (.invokevirtual 70, 3) := by decide +kernel
theorem dX6_done_50 : decode cX6_done 50 = .ok (.ireturn, 1) := by decide +kernel
theorem dX6_done_51 : decode cX6_done 51 = .ok (.aload_n 0, 1) := by decide +kernel
theorem dX6_done_52 : decode cX6_done 52 = .ok (.getfield 10, 3) := by decide +kernel
theorem dX6_done_55 : decode cX6_done 55 = .ok (.aload_n 0, 1) := by decide +kernel
theorem dX6_done_56 : decode cX6_done 56 = .ok (.getfield 41, 3) := by decide +kernel
theorem dX6_done_59 : decode cX6_done 59 = .ok (.getfield 228, 3) := by decide +kernel
theorem dX6_done_62 : decode cX6_done 62 = .ok (.aload_n 0, 1) := by decide +kernel
theorem dX6_done_63 : decode cX6_done 63 = .ok (.getfield 41, 3) := by decide +kernel
theorem dX6_done_66 : decode cX6_done 66 = .ok (.getfield 236, 3) := by decide +kernel
theorem dX6_done_69 : decode cX6_done 69 = .ok (.invokevirtual 290, 3) := by decide +kernel
theorem dX6_done_72 : decode cX6_done 72 = .ok (.aload_n 0, 1) := by decide +kernel
theorem dX6_done_73 : decode cX6_done 73 = .ok (.getfield 10, 3) := by decide +kernel
theorem dX6_done_76 : decode cX6_done 76 = .ok (.getfield 293, 3) := by decide +kernel
theorem dX6_done_79 : decode cX6_done 79 = .ok (.ireturn, 1) := by decide +kernel
abbrev k_X6_done : zK := (cX6_done, 5, RX6, (some .int), ({ frames := 5, cells := 0, slots := 0, locals := 118 } : Room))
theorem zc_X6_done : zcal yX6_done k_X6_done.1 k_X6_done.2.1 k_X6_done.2.2.2.1 2 := ⟨tw_code_yX6_done, tw_i_TollForHesitators, ⟨by decide +kernel, by decide +kernel⟩, by decide +kernel⟩
theorem zv_X6_done : Cond.instanceMethod yX6_done ∈ TS ∧ Cond.selects RX6 yX6_done yX6_done ∈ TS := ⟨tw_inst_yX6_done, tw_s_yX6_done⟩
def v_X6_done (P : pT) (N : nT) (R : rT) (O : oT) (F : fT) (x1 : Int32) (x2 : Int32) : Int32 × nT × rT × oT := oc (v_X6_shelfAt N x1) (if (v_X6_dayRefusal N F x1 x2 1) = 0 then kk (v_X6_refuse N (v_X6_dayRefusal N F x1 x2 1)) (fun q8 : Int32 × nT => (q8.1, (q8.2, R, O))) else kk (v_X6_refuse N (v_X6_dayRefusal N F x1 x2 1)) (fun q6 : Int32 × nT => (q6.1, (q6.2, R, O)))) (fun r3 : Nat => if (v_X6_dayRefusal N F x1 x2 1) = 0 then kk (v_X2_wrongIn P O R (F r3) x2) (fun q13 : Int32 × oT => if q13.1 = (-1) then kk (v_X4_passDay R (q13.2.1 4) (q13.2.1 5)) (fun q16 : rT => (q16.1 9, (N, q16, q13.2))) else kk (v_X6_refuse N 6) (fun q18 : Int32 × nT => (q18.1, (q18.2, R, q13.2)))) else kk (v_X6_refuse N (v_X6_dayRefusal N F x1 x2 1)) (fun q11 : Int32 × nT => (q11.1, (q11.2, R, O))))
def p_X6_done (P : pT) (N : nT) (R : rT) (O : oT) (F : fT) (x1 : Int32) (x2 : Int32) : Prop := p_X6_dayRefusal N F x1 x2 1 ∧ (p_X6_shelfAt N x1 ∧ (oc (v_X6_shelfAt N x1) (if (v_X6_dayRefusal N F x1 x2 1) = 0 then p_X6_refuse N (v_X6_dayRefusal N F x1 x2 1) else p_X6_refuse N (v_X6_dayRefusal N F x1 x2 1)) (fun r3 : Nat => if (v_X6_dayRefusal N F x1 x2 1) = 0 then (p_X2_wrongIn P O R (F r3) x2) ∧ (kk (v_X2_wrongIn P O R (F r3) x2) (fun q13 : Int32 × oT => if q13.1 = (-1) then p_X4_passDay R (q13.2.1 4) (q13.2.1 5) else p_X6_refuse N 6)) else p_X6_refuse N (v_X6_dayRefusal N F x1 x2 1))))
set_option maxHeartbeats 800000 in
theorem c_X6_done {l : Launch} (G : zG) (P : pT) (a : Nat → Nat) (sz : Nat) (N : nT) (R : rT) (O : oT) (F : fT) (x1 : Int32) (x2 : Int32) (hp : p_X6_done P N R O F x1 x2) : Met l yX6_done (.code yX6_done k_X6_done.1 k_X6_done.2.1 k_X6_done.2.2.2.1 :: TS) k_X6_done.2.2.2.2 (Pz G [.ref (a 0), .int x1, .int x2] (Fw G (gX G P) (maW G a N ++ rdW G (sh a 10) R ++ orW G (sh a 60) (sh a 10) O ++ faW G a F) sz)) (Qwi G (fun r w => r = (v_X6_done P N R O F x1 x2).1 ∧ w = maW G a ((v_X6_done P N R O F x1 x2).2.1) ++ rdW G (sh a 10) ((v_X6_done P N R O F x1 x2).2.2.1) ++ orW G (sh a 60) (sh a 10) ((v_X6_done P N R O F x1 x2).2.2.2) ++ faW G a F) (va_A (maW G a N ++ rdW G (sh a 10) R ++ orW G (sh a 60) (sh a 10) O ++ faW G a F) sz)) 0 0 (va_A (maW G a N ++ rdW G (sh a 10) R ++ orW G (sh a 60) (sh a 10) O ++ faW G a F) sz) := by
  refine zmet (K := k_X6_done) (by decide +kernel) rfl rfl (fun Γ hl0 hQ hN hF => ?_)
  refine z_start (gX_ok G P) hF (fun hw => ?_)
  generalize va_A (maW G a N ++ rdW G (sh a 10) R ++ orW G (sh a 60) (sh a 10) O ++ faW G a F) sz = A at hQ hw ⊢
  obtain ⟨res, hv⟩ : ∃ res, v_X6_done P N R O F x1 x2 = res := ⟨_, rfl⟩
  rw [hv] at hQ
  unfold v_X6_done at hv
  unfold p_X6_done at hp
  show Z k_X6_done G Γ _ 0 0 [(0, .ref (a 0)), (1, .int x1), (2, .int x2)] 0 []
  refine z_aload_n dX6_done_0 rfl ?_
  refine z_iload_n dX6_done_1 rfl ?_
  refine z_iload_n dX6_done_2 rfl ?_
  refine z_iconst (v := 1) dX6_done_3 rfl ?_
  obtain ⟨q1, hp⟩ := hp
  refine z_cvi (c_X6_dayRefusal G P a N F x1 x2 1 q1) zc_X6_dayRefusal zv_X6_dayRefusal tw_m_RX6_217 (zrec_of wr_P 0 rfl rfl) (fr_all (sub_P wr_P [0, 1, 2, 11, 12, 13, 14, 15, 16, 17, 18, 19, 20, 21, 22, 23, 24, 25, 26] rfl) (wr_G hw)) (zroom_of rfl) rfl (Nat.le_of_ble_eq_true rfl) dX6_done_4 ?_
  refine z_istore_n (lv' := [(3, .int (v_X6_dayRefusal N F x1 x2 1)), (0, .ref (a 0)), (1, .int x1), (2, .int x2)]) dX6_done_7 (Nat.le_of_ble_eq_true rfl) rfl ?_
  refine z_aload_n dX6_done_8 rfl ?_
  refine z_iload_n dX6_done_9 rfl ?_
  obtain ⟨q2, hp⟩ := hp
  refine z_cvq (c_X6_shelfAt G P a N x1 q2) zc_X6_shelfAt zv_X6_shelfAt tw_m_RX6_66 (zrec_of wr_P 0 rfl rfl) (fr_all (sub_P wr_P [0, 1, 2] rfl) (wr_G hw)) (zroom_of rfl) rfl (Nat.le_of_ble_eq_true rfl) dX6_done_10 ?_
  suffices z19 : ∀ r3 : Option Nat, r3 = (v_X6_shelfAt N x1) → (∀ k : Nat, r3 = some k → k < 8) → Z k_X6_done G Γ (wr G A Γ.2.2.1.1.heap (maW G a N ++ rdW G (sh a 10) R ++ orW G (sh a 60) (sh a 10) O ++ faW G a F)) 0 0 [(3, .int (v_X6_dayRefusal N F x1 x2 1)), (0, .ref (a 0)), (1, .int x1), (2, .int x2)] 13 [va_rf (r3.map (fun k => sh a (30 + 2 * k) 0))] from z19 _ rfl (shelfAt_lt N x1)
  intro r3 hr3 fr3
  have hp := oc_pq hp hr3
  have hv := oc_vq hv hr3
  clear hr3
  rcases r3 with _ | r3
  · have hp := oc_pn hp; have hv := oc_n hv
    refine z_astoreN (lv' := [(4, .null), (3, .int (v_X6_dayRefusal N F x1 x2 1)), (0, .ref (a 0)), (1, .int x1), (2, .int x2)]) dX6_done_13 (Nat.le_of_ble_eq_true rfl) rfl ?_
    refine z_iload_n dX6_done_15 rfl ?_
    refine z_if_ne (tgt := 24) dX6_done_16 (by decide) (fun c4 => ?_) (fun c4 => ?_)
    · have hp := ip_f hp c4; have hv := it_f hv c4
      refine z_aload_n dX6_done_24 rfl ?_
      refine z_iload_n dX6_done_25 rfl ?_
      have q5 := hp
      refine z_cwviD (ws' := maW G a ((v_X6_refuse N (v_X6_dayRefusal N F x1 x2 1)).2) ++ rdW G (sh a 10) R ++ orW G (sh a 60) (sh a 10) O ++ faW G a F) hw (fun sz => c_X6_refuse G P a sz N (v_X6_dayRefusal N F x1 x2 1) q5) [0, 1, 2] [3, 4, 5, 6, 7, 8, 9, 10, 11, 12, 13, 14, 15, 16, 17, 18, 19, 20, 21, 22, 23, 24, 25, 26] [24, 25, 26, 0, 1, 2, 3, 4, 5, 6, 7, 8, 9, 10, 11, 12, 13, 14, 15, 16, 17, 18, 19, 20, 21, 22, 23] 27 rfl rfl rfl rfl zc_X6_refuse zv_X6_refuse tw_m_RX6_70 (zrec_of wr_P 0 rfl rfl) (zroom_of rfl) rfl (Nat.le_of_ble_eq_true rfl) dX6_done_26 ?_
      suffices z20 : ∀ q6 : Int32 × nT, q6 = (v_X6_refuse N (v_X6_dayRefusal N F x1 x2 1)) → Z k_X6_done G Γ (wr G A Γ.2.2.1.1.heap (maW G a q6.2 ++ rdW G (sh a 10) R ++ orW G (sh a 60) (sh a 10) O ++ faW G a F)) 0 0 [(4, .null), (3, .int (v_X6_dayRefusal N F x1 x2 1)), (0, .ref (a 0)), (1, .int x1), (2, .int x2)] 29 [.int q6.1] from z20 _ rfl
      intro q6 hq6
      have hv := kk_vq hv hq6
      clear hq6
      subst hv; exact z_iret_W hQ rfl rfl rfl ⟨rfl, rfl⟩ dX6_done_29
    · have hp := ip_t hp c4; have hv := it_t hv c4
      refine z_aloadN dX6_done_19 rfl ?_
      refine z_ifnonnullN dX6_done_21 ?_
      refine z_aload_n dX6_done_24 rfl ?_
      refine z_iload_n dX6_done_25 rfl ?_
      have q7 := hp
      refine z_cwviD (ws' := maW G a ((v_X6_refuse N (v_X6_dayRefusal N F x1 x2 1)).2) ++ rdW G (sh a 10) R ++ orW G (sh a 60) (sh a 10) O ++ faW G a F) hw (fun sz => c_X6_refuse G P a sz N (v_X6_dayRefusal N F x1 x2 1) q7) [0, 1, 2] [3, 4, 5, 6, 7, 8, 9, 10, 11, 12, 13, 14, 15, 16, 17, 18, 19, 20, 21, 22, 23, 24, 25, 26] [24, 25, 26, 0, 1, 2, 3, 4, 5, 6, 7, 8, 9, 10, 11, 12, 13, 14, 15, 16, 17, 18, 19, 20, 21, 22, 23] 27 rfl rfl rfl rfl zc_X6_refuse zv_X6_refuse tw_m_RX6_70 (zrec_of wr_P 0 rfl rfl) (zroom_of rfl) rfl (Nat.le_of_ble_eq_true rfl) dX6_done_26 ?_
      suffices z21 : ∀ q8 : Int32 × nT, q8 = (v_X6_refuse N (v_X6_dayRefusal N F x1 x2 1)) → Z k_X6_done G Γ (wr G A Γ.2.2.1.1.heap (maW G a q8.2 ++ rdW G (sh a 10) R ++ orW G (sh a 60) (sh a 10) O ++ faW G a F)) 0 0 [(4, .null), (3, .int (v_X6_dayRefusal N F x1 x2 1)), (0, .ref (a 0)), (1, .int x1), (2, .int x2)] 29 [.int q8.1] from z21 _ rfl
      intro q8 hq8
      have hv := kk_vq hv hq8
      clear hq8
      subst hv; exact z_iret_W hQ rfl rfl rfl ⟨rfl, rfl⟩ dX6_done_29
  · have hp := oc_ps hp; have hv := oc_s hv
    have hr3 := fr3 _ rfl; clear fr3
    refine z_astore (lv' := [(4, .ref (sh a (30 + 2 * r3) 0)), (3, .int (v_X6_dayRefusal N F x1 x2 1)), (0, .ref (a 0)), (1, .int x1), (2, .int x2)]) dX6_done_13 (Nat.le_of_ble_eq_true rfl) rfl ?_
    refine z_iload_n dX6_done_15 rfl ?_
    refine z_if_ne (tgt := 24) dX6_done_16 (by decide) (fun c9 => ?_) (fun c9 => ?_)
    · have hp := ip_f hp c9; have hv := it_f hv c9
      refine z_aload_n dX6_done_24 rfl ?_
      refine z_iload_n dX6_done_25 rfl ?_
      have q10 := hp
      refine z_cwviD (ws' := maW G a ((v_X6_refuse N (v_X6_dayRefusal N F x1 x2 1)).2) ++ rdW G (sh a 10) R ++ orW G (sh a 60) (sh a 10) O ++ faW G a F) hw (fun sz => c_X6_refuse G P a sz N (v_X6_dayRefusal N F x1 x2 1) q10) [0, 1, 2] [3, 4, 5, 6, 7, 8, 9, 10, 11, 12, 13, 14, 15, 16, 17, 18, 19, 20, 21, 22, 23, 24, 25, 26] [24, 25, 26, 0, 1, 2, 3, 4, 5, 6, 7, 8, 9, 10, 11, 12, 13, 14, 15, 16, 17, 18, 19, 20, 21, 22, 23] 27 rfl rfl rfl rfl zc_X6_refuse zv_X6_refuse tw_m_RX6_70 (zrec_of wr_P 0 rfl rfl) (zroom_of rfl) rfl (Nat.le_of_ble_eq_true rfl) dX6_done_26 ?_
      suffices z22 : ∀ q11 : Int32 × nT, q11 = (v_X6_refuse N (v_X6_dayRefusal N F x1 x2 1)) → Z k_X6_done G Γ (wr G A Γ.2.2.1.1.heap (maW G a q11.2 ++ rdW G (sh a 10) R ++ orW G (sh a 60) (sh a 10) O ++ faW G a F)) 0 0 [(4, .ref (sh a (30 + 2 * r3) 0)), (3, .int (v_X6_dayRefusal N F x1 x2 1)), (0, .ref (a 0)), (1, .int x1), (2, .int x2)] 29 [.int q11.1] from z22 _ rfl
      intro q11 hq11
      have hv := kk_vq hv hq11
      clear hq11
      subst hv; exact z_iret_W hQ rfl rfl rfl ⟨rfl, rfl⟩ dX6_done_29
    · have hp := ip_t hp c9; have hv := it_t hv c9
      refine z_aload dX6_done_19 rfl ?_
      refine z_ifnonnull (tgt := 30) dX6_done_21 (by decide) ?_
      refine z_aload_n dX6_done_30 rfl ?_
      refine z_get (v := .ref ((sh a 60) 0)) wr_P 0 rfl rfl uin_X6 5 (Nat.le_of_ble_eq_true rfl) tw_f_RX6_41 rfl rfl dX6_done_31 ?_
      refine z_aload dX6_done_34 rfl ?_
      refine z_iload_n dX6_done_36 rfl ?_
      refine z_out (X := maW G a N ++ rdW G (sh a 10) R ++ orW G (sh a 60) (sh a 10) O) (F := F) hr3 ?_
      obtain ⟨q12, hp⟩ := hp
      refine z_ctviD (R0 := pick (maW G a N ++ rdW G (sh a 10) R ++ orW G (sh a 60) (sh a 10) O ++ shW G (sh a (30 + 2 * r3)) (F r3)) [0, 1, 2]) (W1 := maW G a N ++ rdW G (sh a 10) R ++ orW G (sh a 60) (sh a 10) ((v_X2_wrongIn P O R (F r3) x2).2) ++ shW G (sh a (30 + 2 * r3)) (F r3)) hw (fun sz => c_X2_wrongIn G P (sh a 60) (sh a 10) (sh a (30 + 2 * r3)) sz O R (F r3) x2 q12) [8, 9, 10, 3, 4, 5, 6, 7, 11, 12] [0, 1, 2] [0, 1, 2, 6, 7, 8, 9, 10, 3, 4, 5, 11, 12] 13 (by decide +kernel) rfl rfl rfl rfl rfl zc_X2_wrongIn zv_X2_wrongIn tw_m_RX6_286 (zrec_of wr_P 8 rfl rfl) (zroom_of rfl) rfl (Nat.le_of_ble_eq_true rfl) dX6_done_37 ?_
      refine z_in0 hr3 ?_
      suffices z23 : ∀ q13 : Int32 × oT, q13 = (v_X2_wrongIn P O R (F r3) x2) → Z k_X6_done G Γ (wr G A Γ.2.2.1.1.heap (maW G a N ++ rdW G (sh a 10) R ++ orW G (sh a 60) (sh a 10) q13.2 ++ faW G a F)) 0 0 [(4, .ref (sh a (30 + 2 * r3) 0)), (3, .int (v_X6_dayRefusal N F x1 x2 1)), (0, .ref (a 0)), (1, .int x1), (2, .int x2)] 40 [.int q13.1] from z23 _ rfl
      intro q13 hq13
      have hp := kk_pq hp hq13
      have hv := kk_vq hv hq13
      clear hq13
      refine z_iconst (v := (-1)) dX6_done_40 rfl ?_
      refine z_icmp_eq (tgt := 51) dX6_done_41 (by decide) (fun c14 => ?_) (fun c14 => ?_)
      · have hp := ip_t hp c14; have hv := it_t hv c14
        refine z_aload_n dX6_done_51 rfl ?_
        refine z_get (v := .ref ((sh a 10) 0)) wr_P 0 rfl rfl uin_X6 0 (Nat.le_of_ble_eq_true rfl) tw_f_RX6_10 rfl rfl dX6_done_52 ?_
        refine z_aload_n dX6_done_55 rfl ?_
        refine z_get (v := .ref ((sh a 60) 0)) wr_P 0 rfl rfl uin_X6 5 (Nat.le_of_ble_eq_true rfl) tw_f_RX6_41 rfl rfl dX6_done_56 ?_
        refine z_get (v := .int (q13.2.1 4)) wr_P 8 rfl rfl uin_X2 4 (Nat.le_of_ble_eq_true rfl) tw_f_RX6_228 rfl rfl dX6_done_59 ?_
        refine z_aload_n dX6_done_62 rfl ?_
        refine z_get (v := .ref ((sh a 60) 0)) wr_P 0 rfl rfl uin_X6 5 (Nat.le_of_ble_eq_true rfl) tw_f_RX6_41 rfl rfl dX6_done_63 ?_
        refine z_get (v := .int (q13.2.1 5)) wr_P 8 rfl rfl uin_X2 5 (Nat.le_of_ble_eq_true rfl) tw_f_RX6_236 rfl rfl dX6_done_66 ?_
        have q15 := hp
        refine z_cwvvD (ws' := maW G a N ++ rdW G (sh a 10) (v_X4_passDay R (q13.2.1 4) (q13.2.1 5)) ++ orW G (sh a 60) (sh a 10) q13.2 ++ faW G a F) hw (fun sz => c_X4_passDay G P (sh a 10) sz R (q13.2.1 4) (q13.2.1 5) q15) [3, 4, 5, 6, 7] [0, 1, 2, 8, 9, 10, 11, 12, 13, 14, 15, 16, 17, 18, 19, 20, 21, 22, 23, 24, 25, 26] [0, 1, 2, 22, 23, 24, 25, 26, 3, 4, 5, 6, 7, 8, 9, 10, 11, 12, 13, 14, 15, 16, 17, 18, 19, 20, 21] 27 rfl rfl rfl rfl zc_X4_passDay zv_X4_passDay tw_m_RX6_290 (zrec_of wr_P 3 rfl rfl) (zroom_of rfl) rfl (Nat.le_of_ble_eq_true rfl) dX6_done_69 ?_
        suffices z24 : ∀ q16 : rT, q16 = (v_X4_passDay R (q13.2.1 4) (q13.2.1 5)) → Z k_X6_done G Γ (wr G A Γ.2.2.1.1.heap (maW G a N ++ rdW G (sh a 10) q16 ++ orW G (sh a 60) (sh a 10) q13.2 ++ faW G a F)) 0 0 [(4, .ref (sh a (30 + 2 * r3) 0)), (3, .int (v_X6_dayRefusal N F x1 x2 1)), (0, .ref (a 0)), (1, .int x1), (2, .int x2)] 72 [] from z24 _ rfl
        intro q16 hq16
        have hv := kk_vq hv hq16
        clear hq16
        refine z_aload_n dX6_done_72 rfl ?_
        refine z_get (v := .ref ((sh a 10) 0)) wr_P 0 rfl rfl uin_X6 0 (Nat.le_of_ble_eq_true rfl) tw_f_RX6_10 rfl rfl dX6_done_73 ?_
        refine z_get (v := .int (q16.1 9)) wr_P 3 rfl rfl uin_X4 9 (Nat.le_of_ble_eq_true rfl) tw_f_RX6_293 rfl rfl dX6_done_76 ?_
        subst hv; exact z_iret_W hQ rfl rfl rfl ⟨rfl, rfl⟩ dX6_done_79
      · have hp := ip_f hp c14; have hv := it_f hv c14
        refine z_aload_n dX6_done_44 rfl ?_
        refine z_bipush (v := 6) dX6_done_45 rfl ?_
        have q17 := hp
        refine z_cwviD (ws' := maW G a ((v_X6_refuse N 6).2) ++ rdW G (sh a 10) R ++ orW G (sh a 60) (sh a 10) q13.2 ++ faW G a F) hw (fun sz => c_X6_refuse G P a sz N 6 q17) [0, 1, 2] [3, 4, 5, 6, 7, 8, 9, 10, 11, 12, 13, 14, 15, 16, 17, 18, 19, 20, 21, 22, 23, 24, 25, 26] [24, 25, 26, 0, 1, 2, 3, 4, 5, 6, 7, 8, 9, 10, 11, 12, 13, 14, 15, 16, 17, 18, 19, 20, 21, 22, 23] 27 rfl rfl rfl rfl zc_X6_refuse zv_X6_refuse tw_m_RX6_70 (zrec_of wr_P 0 rfl rfl) (zroom_of rfl) rfl (Nat.le_of_ble_eq_true rfl) dX6_done_47 ?_
        suffices z25 : ∀ q18 : Int32 × nT, q18 = (v_X6_refuse N 6) → Z k_X6_done G Γ (wr G A Γ.2.2.1.1.heap (maW G a q18.2 ++ rdW G (sh a 10) R ++ orW G (sh a 60) (sh a 10) q13.2 ++ faW G a F)) 0 0 [(4, .ref (sh a (30 + 2 * r3) 0)), (3, .int (v_X6_dayRefusal N F x1 x2 1)), (0, .ref (a 0)), (1, .int x1), (2, .int x2)] 50 [.int q18.1] from z25 _ rfl
        intro q18 hq18
        have hv := kk_vq hv hq18
        clear hq18
        subst hv; exact z_iret_W hQ rfl rfl rfl ⟨rfl, rfl⟩ dX6_done_50
theorem dX6_days_0 : decode cX6_days 0 = .ok (.aload_n 0, 1) := by decide +kernel
theorem dX6_days_1 : decode cX6_days 1 = .ok (.getfield 10, 3) := by decide +kernel
theorem dX6_days_4 : decode cX6_days 4 = .ok (.getfield 157, 3) := by decide +kernel
theorem dX6_days_7 : decode cX6_days 7 = .ok (.ifCond .ne 9, 3) := by decide +kernel
theorem dX6_days_10 : decode cX6_days 10 = .ok (.aload_n 0, 1) := by decide +kernel
theorem dX6_days_11 : decode cX6_days 11 = .ok (.iconst 5, 1) := by decide +kernel
theorem dX6_days_12 : decode cX6_days 12 = .ok (.invokevirtual 70, 3) := by decide +kernel
theorem dX6_days_15 : decode cX6_days 15 = .ok (.ireturn, 1) := by decide +kernel
theorem dX6_days_16 : decode cX6_days 16 = .ok (.iload_n 1, 1) := by decide +kernel
theorem dX6_days_17 : decode cX6_days 17 = .ok (.iconst 1, 1) := by decide +kernel
theorem dX6_days_18 : decode cX6_days 18 = .ok (.bipush 60, 2) := by decide +kernel
theorem dX6_days_20 : decode cX6_days 20 = .ok (.invokestatic 74, 3) := by decide +kernel
theorem dX6_days_23 : decode cX6_days 23 = .ok (.ifCond .ne 10, 3) := by decide +kernel
theorem dX6_days_26 : decode cX6_days 26 = .ok (.aload_n 0, 1) := by decide +kernel
theorem dX6_days_27 : decode cX6_days 27 = .ok (.bipush 6, 2) := by decide +kernel
theorem dX6_days_29 : decode cX6_days 29 = .ok (.invokevirtual 70, 3) := by decide +kernel
theorem dX6_days_32 : decode cX6_days 32 = .ok (.ireturn, 1) := by decide +kernel
theorem dX6_days_33 : decode cX6_days 33 = .ok (.aload_n 0, 1) := by decide +kernel
theorem dX6_days_34 : decode cX6_days 34 = .ok (.getfield 41, 3) := by decide +kernel
theorem dX6_days_37 : decode cX6_days 37 = .ok (.invokevirtual 255, 3) := by decide +kernel
theorem dX6_days_40 : decode cX6_days 40 = .ok (.iconst 0, 1) := by decide +kernel
theorem dX6_days_41 : decode cX6_days 41 = .ok (.istore_n 2, 1) := by decide +kernel
theorem dX6_days_42 : decode cX6_days 42 = .ok (.iconst 0, 1) := by decide +kernel
theorem dX6_days_43 : decode cX6_days 43 = .ok (.istore_n 3, 1) := by decide +kernel
theorem dX6_days_44 : decode cX6_days 44 = .ok (.iload_n 3, 1) := by decide +kernel
theorem dX6_days_45 : decode cX6_days 45 = .ok (.iload_n 1, 1) := by decide +kernel
theorem dX6_days_46 : decode cX6_days 46 = .ok (.if_icmp .ge 64, 3) := by decide +kernel
theorem dX6_days_49 : decode cX6_days 49 = .ok (.aload_n 0, 1) := by decide +kernel
theorem dX6_days_50 : decode cX6_days 50 = .ok (.getfield 10, 3) := by decide +kernel
theorem dX6_days_53 : decode cX6_days 53 = .ok (.aload_n 0, 1) := by decide +kernel
theorem dX6_days_54 : decode cX6_days 54 = .ok (.getfield 10, 3) := by decide +kernel
theorem dX6_days_57 : decode cX6_days 57 = .ok (.bipush 10, 2) := by decide +kernel
theorem dX6_days_59 : decode cX6_days 59 = .ok (.invokevirtual 296, 3) := by decide +kernel
theorem dX6_days_62 : decode cX6_days 62 = .ok (.putfield 163, 3) := by decide +kernel
theorem dX6_days_65 : decode cX6_days 65 = .ok (.aload_n 0, 1) := by decide +kernel
theorem dX6_days_66 : decode cX6_days 66 = .ok (.getfield 41, 3) := by decide +kernel
theorem dX6_days_69 : decode cX6_days 69 = .ok (.iconst 0, 1) := by decide +kernel
theorem dX6_days_70 : decode cX6_days 70 = .ok (.invokevirtual 225, 3) := by decide +kernel
theorem dX6_days_73 : decode cX6_days 73 = .ok (.iload_n 2, 1) := by decide +kernel
theorem dX6_days_74 : decode cX6_days 74 = .ok (.aload_n 0, 1) := by decide +kernel
theorem dX6_days_75 : decode cX6_days 75 = .ok (.getfield 41, 3) := by decide +kernel
theorem dX6_days_78 : decode cX6_days 78 = .ok (.invokevirtual 242, 3) := by decide +kernel
theorem dX6_days_81 : decode cX6_days 81 = .ok (.iadd, 1) := by decide +kernel
theorem dX6_days_82 : decode cX6_days 82 = .ok (.istore_n 2, 1) := by decide +kernel
theorem dX6_days_83 : decode cX6_days 83 = .ok (.aload_n 0, 1) := by decide +kernel
theorem dX6_days_84 : decode cX6_days 84 = .ok (.getfield 10, 3) := by decide +kernel
theorem dX6_days_87 : decode cX6_days 87 = .ok (.aload_n 0, 1) := by decide +kernel
theorem dX6_days_88 : decode cX6_days 88 = .ok (.getfield 41, 3) := by decide +kernel
theorem dX6_days_91 : decode cX6_days 91 = .ok (.getfield 228, 3) := by decide +kernel
theorem dX6_days_94 : decode cX6_days 94 = .ok (.aload_n 0, 1) := by decide +kernel
theorem dX6_days_95 : decode cX6_days 95 = .ok (.getfield 41, 3) := by decide +kernel
theorem dX6_days_98 : decode cX6_days 98 = .ok (.getfield 236, 3) := by decide +kernel
theorem dX6_days_101 : decode cX6_days 101 = .ok (.invokevirtual 290, 3) := by decide +kernel
theorem dX6_days_104 : decode cX6_days 104 = .ok (.iinc 3 1, 3) := by decide +kernel
theorem dX6_days_107 : decode cX6_days 107 = .ok (.goto (-63), 3) := by decide +kernel
theorem dX6_days_110 : decode cX6_days 110 = .ok (.iload_n 2, 1) := by decide +kernel
theorem dX6_days_111 : decode cX6_days 111 = .ok (.ireturn, 1) := by decide +kernel
abbrev k_X6_days : zK := (cX6_days, 4, RX6, (some .int), ({ frames := 5, cells := 0, slots := 0, locals := 114 } : Room))
theorem zc_X6_days : zcal yX6_days k_X6_days.1 k_X6_days.2.1 k_X6_days.2.2.2.1 1 := ⟨tw_code_yX6_days, tw_i_TollForHesitators, ⟨by decide +kernel, by decide +kernel⟩, by decide +kernel⟩
theorem zv_X6_days : Cond.instanceMethod yX6_days ∈ TS ∧ Cond.selects RX6 yX6_days yX6_days ∈ TS := ⟨tw_inst_yX6_days, tw_s_yX6_days⟩
def v_X6_days_r (P : pT) : Nat → nT → rT → oT → Int32 → Int32 → Int32 → Int32 × nT × rT × oT
  | 0, N, R, O, _, _, _ => (0, N, R, O)
  | n + 1, N, R, O, v1, v2, v3 => if v1 ≤ v3 then (v2, (N, R, O)) else kk (v_X4_draw R 10) (fun q17 : Int32 × rT => kk (v_X2_play P O (rsf q17.2 6 q17.1) 0) (fun q19 : oT => kk (v_X4_passDay (rsf q17.2 6 q17.1) (q19.1 4) (q19.1 5)) (fun q21 : rT => v_X6_days_r P n N q21 q19 v1 (v2 + (v_X2_paid q19 (rsf q17.2 6 q17.1))) (v3 + 1))))
def p_X6_days_r (P : pT) : Nat → nT → rT → oT → Int32 → Int32 → Int32 → Prop
  | 0, _, _, _, _, _, _ => False
  | n + 1, N, R, O, v1, v2, v3 => if v1 ≤ v3 then True else p_X4_draw R 10 ∧ (kk (v_X4_draw R 10) (fun q17 : Int32 × rT => (p_X2_play P O (rsf q17.2 6 q17.1) 0) ∧ (kk (v_X2_play P O (rsf q17.2 6 q17.1) 0) (fun q19 : oT => (p_X4_passDay (rsf q17.2 6 q17.1) (q19.1 4) (q19.1 5)) ∧ (kk (v_X4_passDay (rsf q17.2 6 q17.1) (q19.1 4) (q19.1 5)) (fun q21 : rT => p_X6_days_r P n N q21 q19 v1 (v2 + (v_X2_paid q19 (rsf q17.2 6 q17.1))) (v3 + 1)))))))
def v_X6_days (P : pT) (N : nT) (R : rT) (O : oT) (x1 : Int32) : Int32 × nT × rT × oT := if (R.1 4) = 0 then kk (v_X6_refuse N 5) (fun q8 : Int32 × nT => (q8.1, (q8.2, R, O))) else if (v_X6_within x1 1 60) = 0 then kk (v_X6_refuse N 6) (fun q6 : Int32 × nT => (q6.1, (q6.2, R, O))) else kk (v_X2_byNumbers O R) (fun q4 : oT => v_X6_days_r P 200 N R q4 x1 0 0)
def p_X6_days (P : pT) (N : nT) (R : rT) (O : oT) (x1 : Int32) : Prop := if (R.1 4) = 0 then p_X6_refuse N 5 else if (v_X6_within x1 1 60) = 0 then p_X6_refuse N 6 else p_X2_byNumbers O R ∧ (kk (v_X2_byNumbers O R) (fun q4 : oT => p_X6_days_r P 200 N R q4 x1 0 0))
set_option maxHeartbeats 800000 in
theorem w_X6_days {G : zG} {P : pT} {Γ : zT} {A : Nat → Prop} {res : Int32 × nT × rT × oT} (a : Nat → Nat) (hw : wk (gX G P) A Γ.2.2.1.1.heap) (hQ : zQ Γ (Qwi G (fun r w => r = (res).1 ∧ w = maW G a ((res).2.1) ++ rdW G (sh a 10) ((res).2.2.1) ++ orW G (sh a 60) (sh a 10) ((res).2.2.2)) A) 0 0 A) : ∀ n : Nat, (∀ (N : nT) (R : rT) (O : oT) (v1 : Int32) (v2 : Int32) (v3 : Int32), p_X6_days_r P n N R O v1 v2 v3 → v_X6_days_r P n N R O v1 v2 v3 = res → Z k_X6_days G Γ (wr G A Γ.2.2.1.1.heap (maW G a N ++ rdW G (sh a 10) R ++ orW G (sh a 60) (sh a 10) O)) 0 0 [(0, .ref (a 0)), (1, .int v1), (2, .int v2), (3, .int v3)] 44 []) := by
  intro n
  induction n with
  | zero => exact fun N R O v1 v2 v3 hp => absurd hp (by rw [p_X6_days_r]; exact not_false)
  | succ n ih =>
    intro N R O v1 v2 v3 hp hv
    rw [p_X6_days_r] at hp
    rw [v_X6_days_r] at hv
    refine z_iload_n dX6_days_44 rfl ?_
    refine z_iload_n dX6_days_45 rfl ?_
    refine z_icmp_ge (tgt := 110) dX6_days_46 (by decide) (fun c9 => ?_) (fun c9 => ?_)
    · have hp := ip_t hp c9; have hv := it_t hv c9
      refine z_iload_n dX6_days_110 rfl ?_
      subst hv; exact z_iret_W hQ rfl rfl rfl ⟨rfl, rfl⟩ dX6_days_111
    · have hp := ip_f hp c9; have hv := it_f hv c9
      refine z_aload_n dX6_days_49 rfl ?_
      refine z_get (v := .ref ((sh a 10) 0)) wr_P 0 rfl rfl uin_X6 0 (Nat.le_of_ble_eq_true rfl) tw_f_RX6_10 rfl rfl dX6_days_50 ?_
      refine z_aload_n dX6_days_53 rfl ?_
      refine z_get (v := .ref ((sh a 10) 0)) wr_P 0 rfl rfl uin_X6 0 (Nat.le_of_ble_eq_true rfl) tw_f_RX6_10 rfl rfl dX6_days_54 ?_
      refine z_bipush (v := 10) dX6_days_57 rfl ?_
      obtain ⟨q16, hp⟩ := hp
      refine z_cwviD (ws' := maW G a N ++ rdW G (sh a 10) ((v_X4_draw R 10).2) ++ orW G (sh a 60) (sh a 10) O) hw (fun sz => c_X4_draw G P (sh a 10) sz R 10 q16) [3, 4, 5, 6, 7] [0, 1, 2, 8, 9, 10] [0, 1, 2, 6, 7, 8, 9, 10, 3, 4, 5] 11 rfl rfl rfl rfl zc_X4_draw zv_X4_draw tw_m_RX6_296 (zrec_of wr_P 3 rfl rfl) (zroom_of rfl) rfl (Nat.le_of_ble_eq_true rfl) dX6_days_59 ?_
      suffices z22 : ∀ q17 : Int32 × rT, q17 = (v_X4_draw R 10) → Z k_X6_days G Γ (wr G A Γ.2.2.1.1.heap (maW G a N ++ rdW G (sh a 10) q17.2 ++ orW G (sh a 60) (sh a 10) O)) 0 0 [(0, .ref (a 0)), (1, .int v1), (2, .int v2), (3, .int v3)] 62 [.int q17.1, .ref ((sh a 10) 0)] from z22 _ rfl
      intro q17 hq17
      have hp := kk_pq hp hq17
      have hv := kk_vq hv hq17
      clear hq17
      refine z_put (fs := rdF (sh a 10) q17.2) (v := .int q17.1) (ws' := maW G a N ++ rdW G (sh a 10) (rsf q17.2 6 q17.1) ++ orW G (sh a 60) (sh a 10) O) 3 rfl rfl uin_X4 tyX4 tyX4_ok nmX4 6 (Nat.le_of_ble_eq_true rfl) tw_f_RX6_163 rfl rfl (ty := .int) rfl rfl rfl (Nat.le_of_ble_eq_true rfl) rfl dX6_days_62 ?_
      refine z_aload_n dX6_days_65 rfl ?_
      refine z_get (v := .ref ((sh a 60) 0)) wr_P 0 rfl rfl uin_X6 5 (Nat.le_of_ble_eq_true rfl) tw_f_RX6_41 rfl rfl dX6_days_66 ?_
      refine z_iconst (v := 0) dX6_days_69 rfl ?_
      obtain ⟨q18, hp⟩ := hp
      refine z_cwvvD (ws' := maW G a N ++ rdW G (sh a 10) (rsf q17.2 6 q17.1) ++ orW G (sh a 60) (sh a 10) (v_X2_play P O (rsf q17.2 6 q17.1) 0)) hw (fun sz => c_X2_play G P (sh a 60) (sh a 10) sz O (rsf q17.2 6 q17.1) 0 q18) [8, 9, 10, 3, 4, 5, 6, 7] [0, 1, 2] [0, 1, 2, 6, 7, 8, 9, 10, 3, 4, 5] 11 rfl rfl rfl rfl zc_X2_play zv_X2_play tw_m_RX6_225 (zrec_of wr_P 8 rfl rfl) (zroom_of rfl) rfl (Nat.le_of_ble_eq_true rfl) dX6_days_70 ?_
      suffices z23 : ∀ q19 : oT, q19 = (v_X2_play P O (rsf q17.2 6 q17.1) 0) → Z k_X6_days G Γ (wr G A Γ.2.2.1.1.heap (maW G a N ++ rdW G (sh a 10) (rsf q17.2 6 q17.1) ++ orW G (sh a 60) (sh a 10) q19)) 0 0 [(0, .ref (a 0)), (1, .int v1), (2, .int v2), (3, .int v3)] 73 [] from z23 _ rfl
      intro q19 hq19
      have hp := kk_pq hp hq19
      have hv := kk_vq hv hq19
      clear hq19
      refine z_iload_n dX6_days_73 rfl ?_
      refine z_aload_n dX6_days_74 rfl ?_
      refine z_get (v := .ref ((sh a 60) 0)) wr_P 0 rfl rfl uin_X6 5 (Nat.le_of_ble_eq_true rfl) tw_f_RX6_41 rfl rfl dX6_days_75 ?_
      refine z_cvi (c_X2_paid G P (sh a 60) (sh a 10) q19 (rsf q17.2 6 q17.1) ) zc_X2_paid zv_X2_paid tw_m_RX6_242 (zrec_of wr_P 8 rfl rfl) (fr_all (sub_P wr_P [8, 9, 10, 3, 4, 5, 6, 7] rfl) (wr_G hw)) (zroom_of rfl) rfl (Nat.le_of_ble_eq_true rfl) dX6_days_78 ?_
      refine z_iadd dX6_days_81 ?_
      refine z_istore_n (lv' := [(2, .int (v2 + (v_X2_paid q19 (rsf q17.2 6 q17.1)))), (0, .ref (a 0)), (1, .int v1), (3, .int v3)]) dX6_days_82 (Nat.le_of_ble_eq_true rfl) rfl ?_
      refine z_aload_n dX6_days_83 rfl ?_
      refine z_get (v := .ref ((sh a 10) 0)) wr_P 0 rfl rfl uin_X6 0 (Nat.le_of_ble_eq_true rfl) tw_f_RX6_10 rfl rfl dX6_days_84 ?_
      refine z_aload_n dX6_days_87 rfl ?_
      refine z_get (v := .ref ((sh a 60) 0)) wr_P 0 rfl rfl uin_X6 5 (Nat.le_of_ble_eq_true rfl) tw_f_RX6_41 rfl rfl dX6_days_88 ?_
      refine z_get (v := .int (q19.1 4)) wr_P 8 rfl rfl uin_X2 4 (Nat.le_of_ble_eq_true rfl) tw_f_RX6_228 rfl rfl dX6_days_91 ?_
      refine z_aload_n dX6_days_94 rfl ?_
      refine z_get (v := .ref ((sh a 60) 0)) wr_P 0 rfl rfl uin_X6 5 (Nat.le_of_ble_eq_true rfl) tw_f_RX6_41 rfl rfl dX6_days_95 ?_
      refine z_get (v := .int (q19.1 5)) wr_P 8 rfl rfl uin_X2 5 (Nat.le_of_ble_eq_true rfl) tw_f_RX6_236 rfl rfl dX6_days_98 ?_
      obtain ⟨q20, hp⟩ := hp
      refine z_cwvvD (ws' := maW G a N ++ rdW G (sh a 10) (v_X4_passDay (rsf q17.2 6 q17.1) (q19.1 4) (q19.1 5)) ++ orW G (sh a 60) (sh a 10) q19) hw (fun sz => c_X4_passDay G P (sh a 10) sz (rsf q17.2 6 q17.1) (q19.1 4) (q19.1 5) q20) [3, 4, 5, 6, 7] [0, 1, 2, 8, 9, 10] [0, 1, 2, 6, 7, 8, 9, 10, 3, 4, 5] 11 rfl rfl rfl rfl zc_X4_passDay zv_X4_passDay tw_m_RX6_290 (zrec_of wr_P 3 rfl rfl) (zroom_of rfl) rfl (Nat.le_of_ble_eq_true rfl) dX6_days_101 ?_
      suffices z24 : ∀ q21 : rT, q21 = (v_X4_passDay (rsf q17.2 6 q17.1) (q19.1 4) (q19.1 5)) → Z k_X6_days G Γ (wr G A Γ.2.2.1.1.heap (maW G a N ++ rdW G (sh a 10) q21 ++ orW G (sh a 60) (sh a 10) q19)) 0 0 [(2, .int (v2 + (v_X2_paid q19 (rsf q17.2 6 q17.1)))), (0, .ref (a 0)), (1, .int v1), (3, .int v3)] 104 [] from z24 _ rfl
      intro q21 hq21
      have hp := kk_pq hp hq21
      have hv := kk_vq hv hq21
      clear hq21
      refine z_iinc (v := v3 + 1) (lv' := [(3, .int (v3 + 1)), (2, .int (v2 + (v_X2_paid q19 (rsf q17.2 6 q17.1)))), (0, .ref (a 0)), (1, .int v1)]) dX6_days_104 3 rfl rfl (Nat.le_of_ble_eq_true rfl) rfl ?_
      refine z_goto (tgt := 44) dX6_days_107 (by decide) ?_
      exact z_lv rfl ((ih) N q21 q19 v1 (v2 + (v_X2_paid q19 (rsf q17.2 6 q17.1))) (v3 + 1) hp hv)
set_option maxHeartbeats 800000 in
theorem c_X6_days {l : Launch} (G : zG) (P : pT) (a : Nat → Nat) (sz : Nat) (N : nT) (R : rT) (O : oT) (x1 : Int32) (hp : p_X6_days P N R O x1) : Met l yX6_days (.code yX6_days k_X6_days.1 k_X6_days.2.1 k_X6_days.2.2.2.1 :: TS) k_X6_days.2.2.2.2 (Pz G [.ref (a 0), .int x1] (Fw G (gX G P) (maW G a N ++ rdW G (sh a 10) R ++ orW G (sh a 60) (sh a 10) O) sz)) (Qwi G (fun r w => r = (v_X6_days P N R O x1).1 ∧ w = maW G a ((v_X6_days P N R O x1).2.1) ++ rdW G (sh a 10) ((v_X6_days P N R O x1).2.2.1) ++ orW G (sh a 60) (sh a 10) ((v_X6_days P N R O x1).2.2.2)) (va_A (maW G a N ++ rdW G (sh a 10) R ++ orW G (sh a 60) (sh a 10) O) sz)) 0 0 (va_A (maW G a N ++ rdW G (sh a 10) R ++ orW G (sh a 60) (sh a 10) O) sz) := by
  refine zmet (K := k_X6_days) (by decide +kernel) rfl rfl (fun Γ hl0 hQ hN hF => ?_)
  refine z_start (gX_ok G P) hF (fun hw => ?_)
  generalize va_A (maW G a N ++ rdW G (sh a 10) R ++ orW G (sh a 60) (sh a 10) O) sz = A at hQ hw ⊢
  obtain ⟨res, hv⟩ : ∃ res, v_X6_days P N R O x1 = res := ⟨_, rfl⟩
  rw [hv] at hQ
  unfold v_X6_days at hv
  unfold p_X6_days at hp
  show Z k_X6_days G Γ _ 0 0 [(0, .ref (a 0)), (1, .int x1)] 0 []
  refine z_aload_n dX6_days_0 rfl ?_
  refine z_get (v := .ref ((sh a 10) 0)) wr_P 0 rfl rfl uin_X6 0 (Nat.le_of_ble_eq_true rfl) tw_f_RX6_10 rfl rfl dX6_days_1 ?_
  refine z_get (v := .int (R.1 4)) wr_P 3 rfl rfl uin_X4 4 (Nat.le_of_ble_eq_true rfl) tw_f_RX6_157 rfl rfl dX6_days_4 ?_
  refine z_if_ne (tgt := 16) dX6_days_7 (by decide) (fun c1 => ?_) (fun c1 => ?_)
  · have hp := ip_f hp c1; have hv := it_f hv c1
    refine z_iload_n dX6_days_16 rfl ?_
    refine z_iconst (v := 1) dX6_days_17 rfl ?_
    refine z_bipush (v := 60) dX6_days_18 rfl ?_
    refine z_csi (c_X6_within G P x1 1 60 ) zc_X6_within tw_st_yX6_within tw_m_RX6_74 (fr_all (sub_P wr_P [] rfl) (wr_G hw)) (zroom_of rfl) rfl (Nat.le_of_ble_eq_true rfl) dX6_days_20 ?_
    refine z_if_ne (tgt := 33) dX6_days_23 (by decide) (fun c2 => ?_) (fun c2 => ?_)
    · have hp := ip_f hp c2; have hv := it_f hv c2
      refine z_aload_n dX6_days_33 rfl ?_
      refine z_get (v := .ref ((sh a 60) 0)) wr_P 0 rfl rfl uin_X6 5 (Nat.le_of_ble_eq_true rfl) tw_f_RX6_41 rfl rfl dX6_days_34 ?_
      obtain ⟨q3, hp⟩ := hp
      refine z_cwvvD (ws' := maW G a N ++ rdW G (sh a 10) R ++ orW G (sh a 60) (sh a 10) (v_X2_byNumbers O R)) hw (fun sz => c_X2_byNumbers G P (sh a 60) (sh a 10) sz O R q3) [8, 9, 10, 3, 4, 5, 6, 7] [0, 1, 2] [0, 1, 2, 6, 7, 8, 9, 10, 3, 4, 5] 11 rfl rfl rfl rfl zc_X2_byNumbers zv_X2_byNumbers tw_m_RX6_255 (zrec_of wr_P 8 rfl rfl) (zroom_of rfl) rfl (Nat.le_of_ble_eq_true rfl) dX6_days_37 ?_
      suffices z25 : ∀ q4 : oT, q4 = (v_X2_byNumbers O R) → Z k_X6_days G Γ (wr G A Γ.2.2.1.1.heap (maW G a N ++ rdW G (sh a 10) R ++ orW G (sh a 60) (sh a 10) q4)) 0 0 [(0, .ref (a 0)), (1, .int x1)] 40 [] from z25 _ rfl
      intro q4 hq4
      have hp := kk_pq hp hq4
      have hv := kk_vq hv hq4
      clear hq4
      refine z_iconst (v := 0) dX6_days_40 rfl ?_
      refine z_istore_n (lv' := [(2, .int 0), (0, .ref (a 0)), (1, .int x1)]) dX6_days_41 (Nat.le_of_ble_eq_true rfl) rfl ?_
      refine z_iconst (v := 0) dX6_days_42 rfl ?_
      refine z_istore_n (lv' := [(3, .int 0), (2, .int 0), (0, .ref (a 0)), (1, .int x1)]) dX6_days_43 (Nat.le_of_ble_eq_true rfl) rfl ?_
      exact z_lv rfl ((w_X6_days a hw hQ 200) N R q4 x1 0 0 hp hv)
    · have hp := ip_t hp c2; have hv := it_t hv c2
      refine z_aload_n dX6_days_26 rfl ?_
      refine z_bipush (v := 6) dX6_days_27 rfl ?_
      have q5 := hp
      refine z_cwviD (ws' := maW G a ((v_X6_refuse N 6).2) ++ rdW G (sh a 10) R ++ orW G (sh a 60) (sh a 10) O) hw (fun sz => c_X6_refuse G P a sz N 6 q5) [0, 1, 2] [3, 4, 5, 6, 7, 8, 9, 10] [8, 9, 10, 0, 1, 2, 3, 4, 5, 6, 7] 11 rfl rfl rfl rfl zc_X6_refuse zv_X6_refuse tw_m_RX6_70 (zrec_of wr_P 0 rfl rfl) (zroom_of rfl) rfl (Nat.le_of_ble_eq_true rfl) dX6_days_29 ?_
      suffices z26 : ∀ q6 : Int32 × nT, q6 = (v_X6_refuse N 6) → Z k_X6_days G Γ (wr G A Γ.2.2.1.1.heap (maW G a q6.2 ++ rdW G (sh a 10) R ++ orW G (sh a 60) (sh a 10) O)) 0 0 [(0, .ref (a 0)), (1, .int x1)] 32 [.int q6.1] from z26 _ rfl
      intro q6 hq6
      have hv := kk_vq hv hq6
      clear hq6
      subst hv; exact z_iret_W hQ rfl rfl rfl ⟨rfl, rfl⟩ dX6_days_32
  · have hp := ip_t hp c1; have hv := it_t hv c1
    refine z_aload_n dX6_days_10 rfl ?_
    refine z_iconst (v := 5) dX6_days_11 rfl ?_
    have q7 := hp
    refine z_cwviD (ws' := maW G a ((v_X6_refuse N 5).2) ++ rdW G (sh a 10) R ++ orW G (sh a 60) (sh a 10) O) hw (fun sz => c_X6_refuse G P a sz N 5 q7) [0, 1, 2] [3, 4, 5, 6, 7, 8, 9, 10] [8, 9, 10, 0, 1, 2, 3, 4, 5, 6, 7] 11 rfl rfl rfl rfl zc_X6_refuse zv_X6_refuse tw_m_RX6_70 (zrec_of wr_P 0 rfl rfl) (zroom_of rfl) rfl (Nat.le_of_ble_eq_true rfl) dX6_days_12 ?_
    suffices z27 : ∀ q8 : Int32 × nT, q8 = (v_X6_refuse N 5) → Z k_X6_days G Γ (wr G A Γ.2.2.1.1.heap (maW G a q8.2 ++ rdW G (sh a 10) R ++ orW G (sh a 60) (sh a 10) O)) 0 0 [(0, .ref (a 0)), (1, .int x1)] 15 [.int q8.1] from z27 _ rfl
    intro q8 hq8
    have hv := kk_vq hv hq8
    clear hq8
    subst hv; exact z_iret_W hQ rfl rfl rfl ⟨rfl, rfl⟩ dX6_days_15
theorem dX6_seed_0 : decode cX6_seed 0 = .ok (.aload_n 0, 1) := by decide +kernel
theorem dX6_seed_1 : decode cX6_seed 1 = .ok (.getfield 10, 3) := by decide +kernel
theorem dX6_seed_4 : decode cX6_seed 4 = .ok (.getfield 299, 3) := by decide +kernel
theorem dX6_seed_7 : decode cX6_seed 7 = .ok (.istore_n 2, 1) := by decide +kernel
theorem dX6_seed_8 : decode cX6_seed 8 = .ok (.aload_n 0, 1) := by decide +kernel
theorem dX6_seed_9 : decode cX6_seed 9 = .ok (.getfield 10, 3) := by decide +kernel
theorem dX6_seed_12 : decode cX6_seed 12 = .ok (.iload_n 1, 1) := by decide +kernel
theorem dX6_seed_13 : decode cX6_seed 13 = .ok (.putfield 299, 3) := by decide +kernel
theorem dX6_seed_16 : decode cX6_seed 16 = .ok (.iload_n 2, 1) := by decide +kernel
theorem dX6_seed_17 : decode cX6_seed 17 = .ok (.ireturn, 1) := by decide +kernel
abbrev k_X6_seed : zK := (cX6_seed, 3, RX6, (some .int), ({ frames := 0, cells := 0, slots := 0, locals := 0 } : Room))
theorem zc_X6_seed : zcal yX6_seed k_X6_seed.1 k_X6_seed.2.1 k_X6_seed.2.2.2.1 1 := ⟨tw_code_yX6_seed, tw_i_TollForHesitators, ⟨by decide +kernel, by decide +kernel⟩, by decide +kernel⟩
theorem zv_X6_seed : Cond.instanceMethod yX6_seed ∈ TS ∧ Cond.selects RX6 yX6_seed yX6_seed ∈ TS := ⟨tw_inst_yX6_seed, tw_s_yX6_seed⟩
def v_X6_seed (N : nT) (R : rT) (x1 : Int32) : Int32 × rT := (R.1 10, rsf R 10 x1)
set_option maxHeartbeats 800000 in
theorem c_X6_seed {l : Launch} (G : zG) (P : pT) (a : Nat → Nat) (sz : Nat) (N : nT) (R : rT) (x1 : Int32) : Met l yX6_seed (.code yX6_seed k_X6_seed.1 k_X6_seed.2.1 k_X6_seed.2.2.2.1 :: TS) k_X6_seed.2.2.2.2 (Pz G [.ref (a 0), .int x1] (Fw G (gX G P) (maW G a N ++ rdW G (sh a 10) R) sz)) (Qwi G (fun r w => r = (v_X6_seed N R x1).1 ∧ w = maW G a N ++ rdW G (sh a 10) ((v_X6_seed N R x1).2)) (va_A (maW G a N ++ rdW G (sh a 10) R) sz)) 0 0 (va_A (maW G a N ++ rdW G (sh a 10) R) sz) := by
  refine zmet (K := k_X6_seed) (by decide +kernel) rfl rfl (fun Γ hl0 hQ hN hF => ?_)
  refine z_start (gX_ok G P) hF (fun hw => ?_)
  generalize va_A (maW G a N ++ rdW G (sh a 10) R) sz = A at hQ hw ⊢
  obtain ⟨res, hv⟩ : ∃ res, v_X6_seed N R x1 = res := ⟨_, rfl⟩
  rw [hv] at hQ
  unfold v_X6_seed at hv
  show Z k_X6_seed G Γ _ 0 0 [(0, .ref (a 0)), (1, .int x1)] 0 []
  refine z_aload_n dX6_seed_0 rfl ?_
  refine z_get (v := .ref ((sh a 10) 0)) wr_P 0 rfl rfl uin_X6 0 (Nat.le_of_ble_eq_true rfl) tw_f_RX6_10 rfl rfl dX6_seed_1 ?_
  refine z_get (v := .int (R.1 10)) wr_P 3 rfl rfl uin_X4 10 (Nat.le_of_ble_eq_true rfl) tw_f_RX6_299 rfl rfl dX6_seed_4 ?_
  refine z_istore_n (lv' := [(2, .int (R.1 10)), (0, .ref (a 0)), (1, .int x1)]) dX6_seed_7 (Nat.le_of_ble_eq_true rfl) rfl ?_
  refine z_aload_n dX6_seed_8 rfl ?_
  refine z_get (v := .ref ((sh a 10) 0)) wr_P 0 rfl rfl uin_X6 0 (Nat.le_of_ble_eq_true rfl) tw_f_RX6_10 rfl rfl dX6_seed_9 ?_
  refine z_iload_n dX6_seed_12 rfl ?_
  refine z_put (fs := rdF (sh a 10) R) (v := .int x1) (ws' := maW G a N ++ rdW G (sh a 10) (rsf R 10 x1)) 3 rfl rfl uin_X4 tyX4 tyX4_ok nmX4 10 (Nat.le_of_ble_eq_true rfl) tw_f_RX6_299 rfl rfl (ty := .int) rfl rfl rfl (Nat.le_of_ble_eq_true rfl) rfl dX6_seed_13 ?_
  refine z_iload_n dX6_seed_16 rfl ?_
  subst hv; exact z_iret_W hQ rfl rfl rfl ⟨rfl, rfl⟩ dX6_seed_17
theorem dX6_act_0 : decode cX6_act 0 = .ok (.aload_n 0, 1) := by decide +kernel
theorem dX6_act_1 : decode cX6_act 1 = .ok (.getfield 54, 3) := by decide +kernel
theorem dX6_act_4 : decode cX6_act 4 = .ok (.aload_n 0, 1) := by decide +kernel
theorem dX6_act_5 : decode cX6_act 5 = .ok (.getfield 10, 3) := by decide +kernel
theorem dX6_act_8 : decode cX6_act 8 = .ok (.iload_n 1, 1) := by decide +kernel
theorem dX6_act_9 : decode cX6_act 9 = .ok (.invokevirtual 128, 3) := by decide +kernel
theorem dX6_act_12 : decode cX6_act 12 = .ok (.iload_n 2, 1) := by decide +kernel
theorem dX6_act_13 : decode cX6_act 13 = .ok (.iload_n 3, 1) := by decide +kernel
theorem dX6_act_14 : decode cX6_act 14 = .ok (.invokevirtual 302, 3) := by decide +kernel
theorem dX6_act_17 : decode cX6_act 17 = .ok (.ireturn, 1) := by decide +kernel
abbrev k_X6_act : zK := (cX6_act, 4, RX6, (some .int), ({ frames := 20, cells := 0, slots := 0, locals := 561 } : Room))
theorem zc_X6_act : zcal yX6_act k_X6_act.1 k_X6_act.2.1 k_X6_act.2.2.2.1 3 := ⟨tw_code_yX6_act, tw_i_TollForHesitators, ⟨by decide +kernel, by decide +kernel⟩, by decide +kernel⟩
theorem zv_X6_act : Cond.instanceMethod yX6_act ∈ TS ∧ Cond.selects RX6 yX6_act yX6_act ∈ TS := ⟨tw_inst_yX6_act, tw_s_yX6_act⟩
def v_X6_act (P : pT) (N : nT) (R : rT) (V : vT) (x1 : Int32) (x2 : Int32) (x3 : Int32) : Int32 × vT := oc (v_X4_at R x1) (kk (v_X1_start P V none x2 x3) (fun q4 : Int32 × vT => (q4.1, q4.2))) (fun r2 : Nat => kk (v_X1_start P V (some r2) x2 x3) (fun q6 : Int32 × vT => (q6.1, q6.2)))
def p_X6_act (P : pT) (N : nT) (R : rT) (V : vT) (x1 : Int32) (x2 : Int32) (x3 : Int32) : Prop := p_X4_at R x1 ∧ (oc (v_X4_at R x1) (p_X1_start P V none x2 x3) (fun r2 : Nat => p_X1_start P V (some r2) x2 x3))
set_option maxHeartbeats 800000 in
theorem c_X6_act {l : Launch} (G : zG) (P : pT) (a : Nat → Nat) (sz : Nat) (N : nT) (R : rT) (V : vT) (x1 : Int32) (x2 : Int32) (x3 : Int32) (hp : p_X6_act P N R V x1 x2 x3) : Met l yX6_act (.code yX6_act k_X6_act.1 k_X6_act.2.1 k_X6_act.2.2.2.1 :: TS) k_X6_act.2.2.2.2 (Pz G [.ref (a 0), .int x1, .int x2, .int x3] (Fw G (gX G P) (maW G a N ++ rdW G (sh a 10) R ++ mvW G (sh a 70) V) sz)) (Qwi G (fun r w => r = (v_X6_act P N R V x1 x2 x3).1 ∧ w = maW G a N ++ rdW G (sh a 10) R ++ mvW G (sh a 70) ((v_X6_act P N R V x1 x2 x3).2)) (va_A (maW G a N ++ rdW G (sh a 10) R ++ mvW G (sh a 70) V) sz)) 0 0 (va_A (maW G a N ++ rdW G (sh a 10) R ++ mvW G (sh a 70) V) sz) := by
  refine zmet (K := k_X6_act) (by decide +kernel) rfl rfl (fun Γ hl0 hQ hN hF => ?_)
  refine z_start (gX_ok G P) hF (fun hw => ?_)
  generalize va_A (maW G a N ++ rdW G (sh a 10) R ++ mvW G (sh a 70) V) sz = A at hQ hw ⊢
  obtain ⟨res, hv⟩ : ∃ res, v_X6_act P N R V x1 x2 x3 = res := ⟨_, rfl⟩
  rw [hv] at hQ
  unfold v_X6_act at hv
  unfold p_X6_act at hp
  show Z k_X6_act G Γ _ 0 0 [(0, .ref (a 0)), (1, .int x1), (2, .int x2), (3, .int x3)] 0 []
  refine z_aload_n dX6_act_0 rfl ?_
  refine z_get (v := .ref ((sh a 70) 0)) wr_P 0 rfl rfl uin_X6 8 (Nat.le_of_ble_eq_true rfl) tw_f_RX6_54 rfl rfl dX6_act_1 ?_
  refine z_aload_n dX6_act_4 rfl ?_
  refine z_get (v := .ref ((sh a 10) 0)) wr_P 0 rfl rfl uin_X6 0 (Nat.le_of_ble_eq_true rfl) tw_f_RX6_10 rfl rfl dX6_act_5 ?_
  refine z_iload_n dX6_act_8 rfl ?_
  obtain ⟨q1, hp⟩ := hp
  refine z_cvq (c_X4_at G P (sh a 10) R x1 q1) zc_X4_at zv_X4_at tw_m_RX6_128 (zrec_of wr_P 3 rfl rfl) (fr_all (sub_P wr_P [3, 4, 5, 6, 7] rfl) (wr_G hw)) (zroom_of rfl) rfl (Nat.le_of_ble_eq_true rfl) dX6_act_9 ?_
  suffices z7 : ∀ r2 : Option Nat, r2 = (v_X4_at R x1) → Z k_X6_act G Γ (wr G A Γ.2.2.1.1.heap (maW G a N ++ rdW G (sh a 10) R ++ mvW G (sh a 70) V)) 0 0 [(0, .ref (a 0)), (1, .int x1), (2, .int x2), (3, .int x3)] 12 [va_rf r2, .ref ((sh a 70) 0)] from z7 _ rfl
  intro r2 hr2
  have hp := oc_pq hp hr2
  have hv := oc_vq hv hr2
  clear hr2
  rcases r2 with _ | r2
  · have hp := oc_pn hp; have hv := oc_n hv
    refine z_iload_n dX6_act_12 rfl ?_
    refine z_iload_n dX6_act_13 rfl ?_
    have q3 := hp
    refine z_cwviD (ws' := maW G a N ++ rdW G (sh a 10) R ++ mvW G (sh a 70) ((v_X1_start P V none x2 x3).2)) hw (fun sz => c_X1_start G P (sh a 70) sz V none x2 x3 q3) [8, 9] [0, 1, 2, 3, 4, 5, 6, 7] [0, 1, 2, 3, 4, 5, 6, 7, 8, 9] 10 rfl rfl rfl rfl zc_X1_start zv_X1_start tw_m_RX6_302 (zrec_of wr_P 8 rfl rfl) (zroom_of rfl) rfl (Nat.le_of_ble_eq_true rfl) dX6_act_14 ?_
    suffices z8 : ∀ q4 : Int32 × vT, q4 = (v_X1_start P V none x2 x3) → Z k_X6_act G Γ (wr G A Γ.2.2.1.1.heap (maW G a N ++ rdW G (sh a 10) R ++ mvW G (sh a 70) q4.2)) 0 0 [(0, .ref (a 0)), (1, .int x1), (2, .int x2), (3, .int x3)] 17 [.int q4.1] from z8 _ rfl
    intro q4 hq4
    have hv := kk_vq hv hq4
    clear hq4
    subst hv; exact z_iret_W hQ rfl rfl rfl ⟨rfl, rfl⟩ dX6_act_17
  · have hp := oc_ps hp; have hv := oc_s hv
    refine z_iload_n dX6_act_12 rfl ?_
    refine z_iload_n dX6_act_13 rfl ?_
    have q5 := hp
    refine z_cwviD (ws' := maW G a N ++ rdW G (sh a 10) R ++ mvW G (sh a 70) ((v_X1_start P V (some r2) x2 x3).2)) hw (fun sz => c_X1_start G P (sh a 70) sz V (some r2) x2 x3 q5) [8, 9] [0, 1, 2, 3, 4, 5, 6, 7] [0, 1, 2, 3, 4, 5, 6, 7, 8, 9] 10 rfl rfl rfl rfl zc_X1_start zv_X1_start tw_m_RX6_302 (zrec_of wr_P 8 rfl rfl) (zroom_of rfl) rfl (Nat.le_of_ble_eq_true rfl) dX6_act_14 ?_
    suffices z9 : ∀ q6 : Int32 × vT, q6 = (v_X1_start P V (some r2) x2 x3) → Z k_X6_act G Γ (wr G A Γ.2.2.1.1.heap (maW G a N ++ rdW G (sh a 10) R ++ mvW G (sh a 70) q6.2)) 0 0 [(0, .ref (a 0)), (1, .int x1), (2, .int x2), (3, .int x3)] 17 [.int q6.1] from z9 _ rfl
    intro q6 hq6
    have hv := kk_vq hv hq6
    clear hq6
    subst hv; exact z_iret_W hQ rfl rfl rfl ⟨rfl, rfl⟩ dX6_act_17
theorem dX6_trace_0 : decode cX6_trace 0 = .ok (.aload_n 0, 1) := by decide +kernel
theorem dX6_trace_1 : decode cX6_trace 1 = .ok (.getfield 54, 3) := by decide +kernel
theorem dX6_trace_4 : decode cX6_trace 4 = .ok (.iload_n 1, 1) := by decide +kernel
theorem dX6_trace_5 : decode cX6_trace 5 = .ok (.invokevirtual 306, 3) := by decide +kernel
theorem dX6_trace_8 : decode cX6_trace 8 = .ok (.ireturn, 1) := by decide +kernel
abbrev k_X6_trace : zK := (cX6_trace, 2, RX6, (some .int), ({ frames := 1, cells := 0, slots := 0, locals := 21 } : Room))
theorem zc_X6_trace : zcal yX6_trace k_X6_trace.1 k_X6_trace.2.1 k_X6_trace.2.2.2.1 1 := ⟨tw_code_yX6_trace, tw_i_TollForHesitators, ⟨by decide +kernel, by decide +kernel⟩, by decide +kernel⟩
theorem zv_X6_trace : Cond.instanceMethod yX6_trace ∈ TS ∧ Cond.selects RX6 yX6_trace yX6_trace ∈ TS := ⟨tw_inst_yX6_trace, tw_s_yX6_trace⟩
def v_X6_trace (N : nT) (V : vT) (x1 : Int32) : Int32 := (v_X1_keptAt V x1)
def p_X6_trace (N : nT) (V : vT) (x1 : Int32) : Prop := p_X1_keptAt V x1
set_option maxHeartbeats 800000 in
theorem c_X6_trace {l : Launch} (G : zG) (P : pT) (a : Nat → Nat) (N : nT) (V : vT) (x1 : Int32) (hp : p_X6_trace N V x1) : Met l yX6_trace (.code yX6_trace k_X6_trace.1 k_X6_trace.2.1 k_X6_trace.2.2.2.1 :: TS) k_X6_trace.2.2.2.2 (Pz G [.ref (a 0), .int x1] (Fr G P (maW G a N ++ mvW G (sh a 70) V))) (vp_Si (fun r => r = v_X6_trace N V x1)) 0 0 (fun _ => False) := by
  refine zmet (K := k_X6_trace) (by decide +kernel) rfl rfl (fun Γ hl0 hQ hN hF => ?_)
  have hI := rd_P (G := G) hF.1
  have hG := rd_F hF.2
  obtain ⟨res, hv⟩ : ∃ res, v_X6_trace N V x1 = res := ⟨_, rfl⟩
  rw [hv] at hQ
  unfold v_X6_trace at hv
  unfold p_X6_trace at hp
  show Z k_X6_trace G Γ _ 0 0 [(0, .ref (a 0)), (1, .int x1)] 0 []
  refine z_aload_n dX6_trace_0 rfl ?_
  refine z_get (v := .ref ((sh a 70) 0)) hI 0 rfl rfl uin_X6 8 (Nat.le_of_ble_eq_true rfl) tw_f_RX6_54 rfl rfl dX6_trace_1 ?_
  refine z_iload_n dX6_trace_4 rfl ?_
  have q1 := hp
  refine z_cvi (c_X1_keptAt G P (sh a 70) V x1 q1) zc_X1_keptAt zv_X1_keptAt tw_m_RX6_306 (zrec_of hI 3 rfl rfl) (fr_all (sub_P hI [3, 4] rfl) hG) (zroom_of rfl) rfl (Nat.le_of_ble_eq_true rfl) dX6_trace_5 ?_
  exact z_iret_S hQ rfl hv dX6_trace_8
theorem dX6_image_0 : decode cX6_image 0 = .ok (.aload_n 0, 1) := by decide +kernel
theorem dX6_image_1 : decode cX6_image 1 = .ok (.getfield 16, 3) := by decide +kernel
theorem dX6_image_4 : decode cX6_image 4 = .ok (.aload_n 0, 1) := by decide +kernel
theorem dX6_image_5 : decode cX6_image 5 = .ok (.getfield 10, 3) := by decide +kernel
theorem dX6_image_8 : decode cX6_image 8 = .ok (.invokevirtual 187, 3) := by decide +kernel
theorem dX6_image_11 : decode cX6_image 11 = .ok (.aload_n 0, 1) := by decide +kernel
theorem dX6_image_12 : decode cX6_image 12 = .ok (.iconst 1, 1) := by decide +kernel
theorem dX6_image_13 : decode cX6_image 13 = .ok (.putfield 309, 3) := by decide +kernel
theorem dX6_image_16 : decode cX6_image 16 = .ok (.aload_n 0, 1) := by decide +kernel
theorem dX6_image_17 : decode cX6_image 17 = .ok (.getfield 16, 3) := by decide +kernel
theorem dX6_image_20 : decode cX6_image 20 = .ok (.getfield 157, 3) := by decide +kernel
theorem dX6_image_23 : decode cX6_image 23 = .ok (.ireturn, 1) := by decide +kernel
abbrev k_X6_image : zK := (cX6_image, 1, RX6, (some .int), ({ frames := 1, cells := 0, slots := 0, locals := 22 } : Room))
theorem zc_X6_image : zcal yX6_image k_X6_image.1 k_X6_image.2.1 k_X6_image.2.2.2.1 0 := ⟨tw_code_yX6_image, tw_i_TollForHesitators, ⟨by decide +kernel, by decide +kernel⟩, by decide +kernel⟩
theorem zv_X6_image : Cond.instanceMethod yX6_image ∈ TS ∧ Cond.selects RX6 yX6_image yX6_image ∈ TS := ⟨tw_inst_yX6_image, tw_s_yX6_image⟩
def v_X6_image (P : pT) (N : nT) (R : rT) (Q : rT) : Int32 × nT × rT := kk (v_X4_become P Q R) (fun q2 : rT => (q2.1 4, (nsf N 11 1, q2)))
def p_X6_image (P : pT) (N : nT) (R : rT) (Q : rT) : Prop := p_X4_become P Q R
set_option maxHeartbeats 800000 in
theorem c_X6_image {l : Launch} (G : zG) (P : pT) (a : Nat → Nat) (sz : Nat) (N : nT) (R : rT) (Q : rT) (hp : p_X6_image P N R Q) : Met l yX6_image (.code yX6_image k_X6_image.1 k_X6_image.2.1 k_X6_image.2.2.2.1 :: TS) k_X6_image.2.2.2.2 (Pz G [.ref (a 0)] (Fw G (gX G P) (maW G a N ++ rdW G (sh a 10) R ++ rdW G (sh a 15) Q) sz)) (Qwi G (fun r w => r = (v_X6_image P N R Q).1 ∧ w = maW G a ((v_X6_image P N R Q).2.1) ++ rdW G (sh a 10) R ++ rdW G (sh a 15) ((v_X6_image P N R Q).2.2)) (va_A (maW G a N ++ rdW G (sh a 10) R ++ rdW G (sh a 15) Q) sz)) 0 0 (va_A (maW G a N ++ rdW G (sh a 10) R ++ rdW G (sh a 15) Q) sz) := by
  refine zmet (K := k_X6_image) (by decide +kernel) rfl rfl (fun Γ hl0 hQ hN hF => ?_)
  refine z_start (gX_ok G P) hF (fun hw => ?_)
  generalize va_A (maW G a N ++ rdW G (sh a 10) R ++ rdW G (sh a 15) Q) sz = A at hQ hw ⊢
  obtain ⟨res, hv⟩ : ∃ res, v_X6_image P N R Q = res := ⟨_, rfl⟩
  rw [hv] at hQ
  unfold v_X6_image at hv
  unfold p_X6_image at hp
  show Z k_X6_image G Γ _ 0 0 [(0, .ref (a 0))] 0 []
  refine z_aload_n dX6_image_0 rfl ?_
  refine z_get (v := .ref ((sh a 15) 0)) wr_P 0 rfl rfl uin_X6 1 (Nat.le_of_ble_eq_true rfl) tw_f_RX6_16 rfl rfl dX6_image_1 ?_
  refine z_aload_n dX6_image_4 rfl ?_
  refine z_get (v := .ref ((sh a 10) 0)) wr_P 0 rfl rfl uin_X6 0 (Nat.le_of_ble_eq_true rfl) tw_f_RX6_10 rfl rfl dX6_image_5 ?_
  have q1 := hp
  refine z_cwvvD (ws' := maW G a N ++ rdW G (sh a 10) R ++ rdW G (sh a 15) (v_X4_become P Q R)) hw (fun sz => c_X4_become G P (sh a 15) (sh a 10) sz Q R q1) [8, 9, 10, 11, 12, 3, 4, 5, 6, 7] [0, 1, 2] [0, 1, 2, 8, 9, 10, 11, 12, 3, 4, 5, 6, 7] 13 rfl rfl rfl rfl zc_X4_become zv_X4_become tw_m_RX6_187 (zrec_of wr_P 8 rfl rfl) (zroom_of rfl) rfl (Nat.le_of_ble_eq_true rfl) dX6_image_8 ?_
  suffices z3 : ∀ q2 : rT, q2 = (v_X4_become P Q R) → Z k_X6_image G Γ (wr G A Γ.2.2.1.1.heap (maW G a N ++ rdW G (sh a 10) R ++ rdW G (sh a 15) q2)) 0 0 [(0, .ref (a 0))] 11 [] from z3 _ rfl
  intro q2 hq2
  have hv := kk_vq hv hq2
  clear hq2
  refine z_aload_n dX6_image_11 rfl ?_
  refine z_iconst (v := 1) dX6_image_12 rfl ?_
  refine z_put (fs := maF a N) (v := .int 1) (ws' := maW G a (nsf N 11 1) ++ rdW G (sh a 10) R ++ rdW G (sh a 15) q2) 0 rfl rfl uin_X6 tyX6 tyX6_ok nmX6 11 (Nat.le_of_ble_eq_true rfl) tw_f_RX6_309 rfl rfl (ty := .boolean) rfl rfl rfl (Nat.le_of_ble_eq_true rfl) rfl dX6_image_13 ?_
  refine z_aload_n dX6_image_16 rfl ?_
  refine z_get (v := .ref ((sh a 15) 0)) wr_P 0 rfl rfl uin_X6 1 (Nat.le_of_ble_eq_true rfl) tw_f_RX6_16 rfl rfl dX6_image_17 ?_
  refine z_get (v := .int (q2.1 4)) wr_P 8 rfl rfl uin_X4 4 (Nat.le_of_ble_eq_true rfl) tw_f_RX6_157 rfl rfl dX6_image_20 ?_
  subst hv; exact z_iret_W hQ rfl rfl rfl ⟨rfl, rfl⟩ dX6_image_23
theorem dX6_restore_0 : decode cX6_restore 0 = .ok (.aload_n 0, 1) := by decide +kernel
theorem dX6_restore_1 : decode cX6_restore 1 = .ok (.getfield 309, 3) := by decide +kernel
theorem dX6_restore_4 : decode cX6_restore 4 = .ok (.ifCond .ne 10, 3) := by decide +kernel
theorem dX6_restore_7 : decode cX6_restore 7 = .ok (.aload_n 0, 1) := by decide +kernel
theorem dX6_restore_8 : decode cX6_restore 8 = .ok (.bipush 6, 2) := by decide +kernel
theorem dX6_restore_10 : decode cX6_restore 10 = .ok (.invokevirtual 70, 3) := by decide +kernel
theorem dX6_restore_13 : decode cX6_restore 13 = .ok (.ireturn, 1) := by decide +kernel
theorem dX6_restore_14 : decode cX6_restore 14 = .ok (.aload_n 0, 1) := by decide +kernel
theorem dX6_restore_15 : decode cX6_restore 15 = .ok (.getfield 10, 3) := by decide +kernel
theorem dX6_restore_18 : decode cX6_restore 18 = .ok (.aload_n 0, 1) := by decide +kernel
theorem dX6_restore_19 : decode cX6_restore 19 = .ok (.getfield 16, 3) := by decide +kernel
theorem dX6_restore_22 : decode cX6_restore 22 = .ok (.invokevirtual 187, 3) := by decide +kernel
theorem dX6_restore_25 : decode cX6_restore 25 = .ok (.iconst 0, 1) := by decide +kernel
theorem dX6_restore_26 : decode cX6_restore 26 = .ok (.istore_n 1, 1) := by decide +kernel
theorem dX6_restore_27 : decode cX6_restore 27 = .ok (.iload_n 1, 1) := by decide +kernel
theorem dX6_restore_28 : decode cX6_restore 28 = .ok (.aload_n 0, 1) := by decide +kernel
theorem dX6_restore_29 : decode cX6_restore 29 = .ok (.getfield 24, 3) := by decide +kernel
theorem dX6_restore_32 : decode cX6_restore 32 = .ok (.arraylength, 1) := by decide +kernel
theorem dX6_restore_33 : decode cX6_restore 33 = .ok (.if_icmp .ge 46, 3) := by decide +kernel
theorem dX6_restore_36 : decode cX6_restore 36 = .ok (.aload_n 0, 1) := by decide +kernel
theorem dX6_restore_37 : decode cX6_restore 37 = .ok (.getfield 24, 3) := by decide +kernel
theorem dX6_restore_40 : decode cX6_restore 40 = .ok (.iload_n 1, 1) := by decide +kernel
theorem dX6_restore_41 : decode cX6_restore 41 = .ok (.aaload, 1) := by decide +kernel
theorem dX6_restore_42 : decode cX6_restore 42 = .ok (.astore_n 2, 1) := by decide +kernel
theorem dX6_restore_43 : decode cX6_restore 43 = .ok (.aload_n 2, 1) := by decide +kernel
theorem dX6_restore_44 : decode cX6_restore 44 = .ok (.ifnull 29, 3) := by decide +kernel
theorem dX6_restore_47 : decode cX6_restore 47 = .ok (.aload_n 2, 1) := by decide +kernel
theorem dX6_restore_48 : decode cX6_restore 48 = .ok (.invokevirtual 93, 3) := by decide +kernel
theorem dX6_restore_51 : decode cX6_restore 51 = .ok (.ifCond .eq 22, 3) := by decide +kernel
theorem dX6_restore_54 : decode cX6_restore 54 = .ok (.aload_n 0, 1) := by decide +kernel
theorem dX6_restore_55 : decode cX6_restore 55 = .ok (.getfield 10, 3) := by decide +kernel
theorem dX6_restore_58 : decode cX6_restore 58 = .ok (.aload_n 2, 1) := by decide +kernel
theorem dX6_restore_59 : decode cX6_restore 59 = .ok (.getfield 100, 3) := by decide +kernel
theorem dX6_restore_62 : decode cX6_restore 62 = .ok (.invokevirtual 121, 3) := by decide +kernel
theorem dX6_restore_65 : decode cX6_restore 65 = .ok (.ifCond .ne 8, 3) := by decide +kernel
theorem dX6_restore_68 : decode cX6_restore 68 = .ok (.aload_n 2, 1) := by decide +kernel
theorem dX6_restore_69 : decode cX6_restore 69 = .ok (.iconst (-1), 1) := by decide +kernel
theorem dX6_restore_70 : decode cX6_restore 70 = .ok (.invokevirtual 124, 3) := by decide +kernel
theorem dX6_restore_73 : decode cX6_restore 73 = .ok (.iinc 1 1, 3) := by decide +kernel
theorem dX6_restore_76 : decode cX6_restore 76 = .ok (.goto (-49), 3) := by decide +kernel
theorem dX6_restore_79 : decode cX6_restore 79 = .ok (.aload_n 0, 1) := by decide +kernel
theorem dX6_restore_80 : decode cX6_restore 80 = .ok (.getfield 10, 3) := by decide +kernel
theorem dX6_restore_83 : decode cX6_restore 83 = .ok (.getfield 157, 3) := by decide +kernel
theorem dX6_restore_86 : decode cX6_restore 86 = .ok (.ireturn, 1) := by decide +kernel
abbrev k_X6_restore : zK := (cX6_restore, 3, RX6, (some .int), ({ frames := 2, cells := 0, slots := 0, locals := 42 } : Room))
theorem zc_X6_restore : zcal yX6_restore k_X6_restore.1 k_X6_restore.2.1 k_X6_restore.2.2.2.1 0 := ⟨tw_code_yX6_restore, tw_i_TollForHesitators, ⟨by decide +kernel, by decide +kernel⟩, by decide +kernel⟩
theorem zv_X6_restore : Cond.instanceMethod yX6_restore ∈ TS ∧ Cond.selects RX6 yX6_restore yX6_restore ∈ TS := ⟨tw_inst_yX6_restore, tw_s_yX6_restore⟩
def v_X6_restore_r (P : pT) (Q : rT) : Nat → nT → rT → fT → Int32 → Int32 × nT × rT × fT
  | 0, N, R, F, _ => (0, N, R, F)
  | n + 1, N, R, F, v1 => if 8 ≤ v1 then (R.1 4, (N, R, F)) else kk (if (v_X5_isComer (F v1.toNatClampNeg)) = 0 then F else (if (v_X4_has R ((F v1.toNatClampNeg).1 1)) = 0 then va_up F v1.toNatClampNeg (v_X5_hold (F v1.toNatClampNeg) (-1)) else F)) (fun M20 : fT => v_X6_restore_r P Q n N R M20 (v1 + 1))
def p_X6_restore_r (P : pT) (Q : rT) : Nat → nT → rT → fT → Int32 → Prop
  | 0, _, _, _, _ => False
  | n + 1, N, R, F, v1 => if 8 ≤ v1 then True else vp_in v1 8 ∧ ((if (v_X5_isComer (F v1.toNatClampNeg)) = 0 then True else p_X4_has R ((F v1.toNatClampNeg).1 1)) ∧ (kk (if (v_X5_isComer (F v1.toNatClampNeg)) = 0 then F else (if (v_X4_has R ((F v1.toNatClampNeg).1 1)) = 0 then va_up F v1.toNatClampNeg (v_X5_hold (F v1.toNatClampNeg) (-1)) else F)) (fun M20 : fT => p_X6_restore_r P Q n N R M20 (v1 + 1))))
def v_X6_restore (P : pT) (N : nT) (R : rT) (Q : rT) (F : fT) : Int32 × nT × rT × fT := if (N.1 11) = 0 then kk (v_X6_refuse N 6) (fun q5 : Int32 × nT => (q5.1, (q5.2, R, F))) else kk (v_X4_become P R Q) (fun q3 : rT => v_X6_restore_r P Q 200 N q3 F 0)
def p_X6_restore (P : pT) (N : nT) (R : rT) (Q : rT) (F : fT) : Prop := if (N.1 11) = 0 then p_X6_refuse N 6 else p_X4_become P R Q ∧ (kk (v_X4_become P R Q) (fun q3 : rT => p_X6_restore_r P Q 200 N q3 F 0))
set_option maxHeartbeats 800000 in
theorem w_X6_restore {G : zG} {P : pT} {Γ : zT} {A : Nat → Prop} {res : Int32 × nT × rT × fT} (a : Nat → Nat) (Q : rT) (hw : wk (gX G P) A Γ.2.2.1.1.heap) (hQ : zQ Γ (Qwi G (fun r w => r = (res).1 ∧ w = maW G a ((res).2.1) ++ rdW G (sh a 10) ((res).2.2.1) ++ rdW G (sh a 15) Q ++ faW G a ((res).2.2.2)) A) 0 0 A) : ∀ n : Nat, (∀ (N : nT) (R : rT) (F : fT) (v1 : Int32), p_X6_restore_r P Q n N R F v1 → v_X6_restore_r P Q n N R F v1 = res → Z k_X6_restore G Γ (wr G A Γ.2.2.1.1.heap (maW G a N ++ rdW G (sh a 10) R ++ rdW G (sh a 15) Q ++ faW G a F)) 0 0 [(0, .ref (a 0)), (1, .int v1)] 27 []) := by
  intro n
  induction n with
  | zero => exact fun N R F v1 hp => absurd hp (by rw [p_X6_restore_r]; exact not_false)
  | succ n ih =>
    intro N R F v1 hp hv
    rw [p_X6_restore_r] at hp
    rw [v_X6_restore_r] at hv
    refine z_iload_n dX6_restore_27 rfl ?_
    refine z_aload_n dX6_restore_28 rfl ?_
    refine z_get (v := .ref (a 1)) wr_P 0 rfl rfl uin_X6 3 (Nat.le_of_ble_eq_true rfl) tw_f_RX6_24 rfl rfl dX6_restore_29 ?_
    refine z_alen (cA := G.2.2.1 0) (v := 8) 3 (fun _ => rfl) wr_P 1 rfl rfl dX6_restore_32 ?_
    refine z_icmp_ge (tgt := 79) dX6_restore_33 (by decide) (fun c6 => ?_) (fun c6 => ?_)
    · have hp := ip_t hp c6; have hv := it_t hv c6
      refine z_aload_n dX6_restore_79 rfl ?_
      refine z_get (v := .ref ((sh a 10) 0)) wr_P 0 rfl rfl uin_X6 0 (Nat.le_of_ble_eq_true rfl) tw_f_RX6_10 rfl rfl dX6_restore_80 ?_
      refine z_get (v := .int (R.1 4)) wr_P 3 rfl rfl uin_X4 4 (Nat.le_of_ble_eq_true rfl) tw_f_RX6_157 rfl rfl dX6_restore_83 ?_
      subst hv; exact z_iret_W hQ rfl rfl rfl ⟨rfl, rfl⟩ dX6_restore_86
    · have hp := ip_f hp c6; have hv := it_f hv c6
      refine z_aload_n dX6_restore_36 rfl ?_
      refine z_get (v := .ref (a 1)) wr_P 0 rfl rfl uin_X6 3 (Nat.le_of_ble_eq_true rfl) tw_f_RX6_24 rfl rfl dX6_restore_37 ?_
      refine z_iload_n dX6_restore_40 rfl ?_
      obtain ⟨q14, hp⟩ := hp
      refine z_aalds (q := sh a (30 + 2 * v1.toNatClampNeg) 0) wr_P 1 rfl q14 rfl dX6_restore_41 ?_
      refine z_astore_n (lv' := [(2, .ref (sh a (30 + 2 * v1.toNatClampNeg) 0)), (0, .ref (a 0)), (1, .int v1)]) dX6_restore_42 (Nat.le_of_ble_eq_true rfl) rfl ?_
      refine z_aload_n dX6_restore_43 rfl ?_
      refine z_ifnull dX6_restore_44 ?_
      refine z_aload_n dX6_restore_47 rfl ?_
      refine z_cvi (c_X5_isComer G P (sh a (30 + 2 * v1.toNatClampNeg)) (F v1.toNatClampNeg) ) zc_X5_isComer zv_X5_isComer tw_m_RX6_93 (zrec_of (fam_P (a := a) (vin_lt q14) (sub_P wr_P [13, 14, 15, 16, 17, 18, 19, 20, 21, 22, 23, 24, 25, 26, 27, 28] rfl)) 0 rfl rfl) (fr_all (fam_P (a := a) (vin_lt q14) (sub_P wr_P [13, 14, 15, 16, 17, 18, 19, 20, 21, 22, 23, 24, 25, 26, 27, 28] rfl)) (wr_G hw)) (zroom_of rfl) rfl (Nat.le_of_ble_eq_true rfl) dX6_restore_48 ?_
      obtain ⟨hpm, hp⟩ := hp
      have J21 : ∀ M20 : fT, M20 = (if (v_X5_isComer (F v1.toNatClampNeg)) = 0 then F else (if (v_X4_has R ((F v1.toNatClampNeg).1 1)) = 0 then va_up F v1.toNatClampNeg (v_X5_hold (F v1.toNatClampNeg) (-1)) else F)) → Z k_X6_restore G Γ (wr G A Γ.2.2.1.1.heap (maW G a N ++ rdW G (sh a 10) R ++ rdW G (sh a 15) Q ++ faW G a M20)) 0 0 [(2, .ref (sh a (30 + 2 * v1.toNatClampNeg) 0)), (0, .ref (a 0)), (1, .int v1)] 73 [] := by
        intro M20 eM20
        have hp := kk_pq hp eM20
        have hv := kk_vq hv eM20
        clear eM20
        refine z_iinc (v := v1 + 1) (lv' := [(1, .int (v1 + 1)), (2, .ref (sh a (30 + 2 * v1.toNatClampNeg) 0)), (0, .ref (a 0))]) dX6_restore_73 2 rfl rfl (Nat.le_of_ble_eq_true rfl) rfl ?_
        refine z_goto (tgt := 27) dX6_restore_76 (by decide) ?_
        exact z_lv rfl ((ih) N R M20 (v1 + 1) hp hv)
      refine z_if_eq (tgt := 73) dX6_restore_51 (by decide) (fun c15 => ?_) (fun c15 => ?_)
      · have hp := ip_t hpm c15
        exact z_lv rfl (J21 _ (if_pos c15).symm)
      · have hp := ip_f hpm c15
        refine z_aload_n dX6_restore_54 rfl ?_
        refine z_get (v := .ref ((sh a 10) 0)) wr_P 0 rfl rfl uin_X6 0 (Nat.le_of_ble_eq_true rfl) tw_f_RX6_10 rfl rfl dX6_restore_55 ?_
        refine z_aload_n dX6_restore_58 rfl ?_
        refine z_get (v := .int ((F v1.toNatClampNeg).1 1)) (fam_P (a := a) (vin_lt q14) (sub_P wr_P [13, 14, 15, 16, 17, 18, 19, 20, 21, 22, 23, 24, 25, 26, 27, 28] rfl)) 0 rfl rfl uin_X5 1 (Nat.le_of_ble_eq_true rfl) tw_f_RX6_100 rfl rfl dX6_restore_59 ?_
        have q16 := hp
        refine z_cvi (c_X4_has G P (sh a 10) R ((F v1.toNatClampNeg).1 1) q16) zc_X4_has zv_X4_has tw_m_RX6_121 (zrec_of wr_P 3 rfl rfl) (fr_all (sub_P wr_P [3, 4, 5, 6, 7] rfl) (wr_G hw)) (zroom_of rfl) rfl (Nat.le_of_ble_eq_true rfl) dX6_restore_62 ?_
        have J22 : ∀ M19 : fT, M19 = (if (v_X4_has R ((F v1.toNatClampNeg).1 1)) = 0 then va_up F v1.toNatClampNeg (v_X5_hold (F v1.toNatClampNeg) (-1)) else F) → Z k_X6_restore G Γ (wr G A Γ.2.2.1.1.heap (maW G a N ++ rdW G (sh a 10) R ++ rdW G (sh a 15) Q ++ faW G a M19)) 0 0 [(2, .ref (sh a (30 + 2 * v1.toNatClampNeg) 0)), (0, .ref (a 0)), (1, .int v1)] 73 [] := by
          intro M19 eM19
          rewrite [eM19]; clear eM19
          exact z_lv rfl (J21 _ (if_neg c15).symm)
        refine z_if_ne (tgt := 73) dX6_restore_65 (by decide) (fun c17 => ?_) (fun c17 => ?_)
        · skip
          exact z_lv rfl (J22 _ (if_neg c17).symm)
        · skip
          refine z_aload_n dX6_restore_68 rfl ?_
          refine z_iconst (v := (-1)) dX6_restore_69 rfl ?_
          refine z_out (X := maW G a N ++ rdW G (sh a 10) R ++ rdW G (sh a 15) Q) (F := F) (vin_lt q14) ?_
          refine z_ctvvD (R0 := pick (maW G a N ++ rdW G (sh a 10) R ++ rdW G (sh a 15) Q ++ shW G (sh a (30 + 2 * v1.toNatClampNeg)) (F v1.toNatClampNeg)) [0, 1, 2, 3, 4, 5, 6, 7, 8, 9, 10, 11, 12]) (W1 := maW G a N ++ rdW G (sh a 10) R ++ rdW G (sh a 15) Q ++ shW G (sh a (30 + 2 * v1.toNatClampNeg)) ((v_X5_hold (F v1.toNatClampNeg) (-1)))) hw (fun sz => c_X5_hold G P (sh a (30 + 2 * v1.toNatClampNeg)) sz (F v1.toNatClampNeg) (-1) ) [13, 14] [0, 1, 2, 3, 4, 5, 6, 7, 8, 9, 10, 11, 12] [0, 1, 2, 3, 4, 5, 6, 7, 8, 9, 10, 11, 12, 13, 14] 15 (by decide +kernel) rfl rfl rfl rfl rfl zc_X5_hold zv_X5_hold tw_m_RX6_124 (zrec_of wr_P 13 rfl rfl) (zroom_of rfl) rfl (Nat.le_of_ble_eq_true rfl) dX6_restore_70 ?_
          refine z_in (vin_lt q14) ?_
          exact z_lv rfl (J22 _ (if_pos c17).symm)
set_option maxHeartbeats 800000 in
theorem c_X6_restore {l : Launch} (G : zG) (P : pT) (a : Nat → Nat) (sz : Nat) (N : nT) (R : rT) (Q : rT) (F : fT) (hp : p_X6_restore P N R Q F) : Met l yX6_restore (.code yX6_restore k_X6_restore.1 k_X6_restore.2.1 k_X6_restore.2.2.2.1 :: TS) k_X6_restore.2.2.2.2 (Pz G [.ref (a 0)] (Fw G (gX G P) (maW G a N ++ rdW G (sh a 10) R ++ rdW G (sh a 15) Q ++ faW G a F) sz)) (Qwi G (fun r w => r = (v_X6_restore P N R Q F).1 ∧ w = maW G a ((v_X6_restore P N R Q F).2.1) ++ rdW G (sh a 10) ((v_X6_restore P N R Q F).2.2.1) ++ rdW G (sh a 15) Q ++ faW G a ((v_X6_restore P N R Q F).2.2.2)) (va_A (maW G a N ++ rdW G (sh a 10) R ++ rdW G (sh a 15) Q ++ faW G a F) sz)) 0 0 (va_A (maW G a N ++ rdW G (sh a 10) R ++ rdW G (sh a 15) Q ++ faW G a F) sz) := by
  refine zmet (K := k_X6_restore) (by decide +kernel) rfl rfl (fun Γ hl0 hQ hN hF => ?_)
  refine z_start (gX_ok G P) hF (fun hw => ?_)
  generalize va_A (maW G a N ++ rdW G (sh a 10) R ++ rdW G (sh a 15) Q ++ faW G a F) sz = A at hQ hw ⊢
  obtain ⟨res, hv⟩ : ∃ res, v_X6_restore P N R Q F = res := ⟨_, rfl⟩
  rw [hv] at hQ
  unfold v_X6_restore at hv
  unfold p_X6_restore at hp
  show Z k_X6_restore G Γ _ 0 0 [(0, .ref (a 0))] 0 []
  refine z_aload_n dX6_restore_0 rfl ?_
  refine z_get (v := .int (N.1 11)) wr_P 0 rfl rfl uin_X6 11 (Nat.le_of_ble_eq_true rfl) tw_f_RX6_309 rfl rfl dX6_restore_1 ?_
  refine z_if_ne (tgt := 14) dX6_restore_4 (by decide) (fun c1 => ?_) (fun c1 => ?_)
  · have hp := ip_f hp c1; have hv := it_f hv c1
    refine z_aload_n dX6_restore_14 rfl ?_
    refine z_get (v := .ref ((sh a 10) 0)) wr_P 0 rfl rfl uin_X6 0 (Nat.le_of_ble_eq_true rfl) tw_f_RX6_10 rfl rfl dX6_restore_15 ?_
    refine z_aload_n dX6_restore_18 rfl ?_
    refine z_get (v := .ref ((sh a 15) 0)) wr_P 0 rfl rfl uin_X6 1 (Nat.le_of_ble_eq_true rfl) tw_f_RX6_16 rfl rfl dX6_restore_19 ?_
    obtain ⟨q2, hp⟩ := hp
    refine z_cwvvD (ws' := maW G a N ++ rdW G (sh a 10) (v_X4_become P R Q) ++ rdW G (sh a 15) Q ++ faW G a F) hw (fun sz => c_X4_become G P (sh a 10) (sh a 15) sz R Q q2) [3, 4, 5, 6, 7, 8, 9, 10, 11, 12] [0, 1, 2, 13, 14, 15, 16, 17, 18, 19, 20, 21, 22, 23, 24, 25, 26, 27, 28] [0, 1, 2, 19, 20, 21, 22, 23, 24, 25, 26, 27, 28, 3, 4, 5, 6, 7, 8, 9, 10, 11, 12, 13, 14, 15, 16, 17, 18] 29 rfl rfl rfl rfl zc_X4_become zv_X4_become tw_m_RX6_187 (zrec_of wr_P 3 rfl rfl) (zroom_of rfl) rfl (Nat.le_of_ble_eq_true rfl) dX6_restore_22 ?_
    suffices z23 : ∀ q3 : rT, q3 = (v_X4_become P R Q) → Z k_X6_restore G Γ (wr G A Γ.2.2.1.1.heap (maW G a N ++ rdW G (sh a 10) q3 ++ rdW G (sh a 15) Q ++ faW G a F)) 0 0 [(0, .ref (a 0))] 25 [] from z23 _ rfl
    intro q3 hq3
    have hp := kk_pq hp hq3
    have hv := kk_vq hv hq3
    clear hq3
    refine z_iconst (v := 0) dX6_restore_25 rfl ?_
    refine z_istore_n (lv' := [(1, .int 0), (0, .ref (a 0))]) dX6_restore_26 (Nat.le_of_ble_eq_true rfl) rfl ?_
    exact z_lv rfl ((w_X6_restore a Q hw hQ 200) N q3 F 0 hp hv)
  · have hp := ip_t hp c1; have hv := it_t hv c1
    refine z_aload_n dX6_restore_7 rfl ?_
    refine z_bipush (v := 6) dX6_restore_8 rfl ?_
    have q4 := hp
    refine z_cwviD (ws' := maW G a ((v_X6_refuse N 6).2) ++ rdW G (sh a 10) R ++ rdW G (sh a 15) Q ++ faW G a F) hw (fun sz => c_X6_refuse G P a sz N 6 q4) [0, 1, 2] [3, 4, 5, 6, 7, 8, 9, 10, 11, 12, 13, 14, 15, 16, 17, 18, 19, 20, 21, 22, 23, 24, 25, 26, 27, 28] [26, 27, 28, 0, 1, 2, 3, 4, 5, 6, 7, 8, 9, 10, 11, 12, 13, 14, 15, 16, 17, 18, 19, 20, 21, 22, 23, 24, 25] 29 rfl rfl rfl rfl zc_X6_refuse zv_X6_refuse tw_m_RX6_70 (zrec_of wr_P 0 rfl rfl) (zroom_of rfl) rfl (Nat.le_of_ble_eq_true rfl) dX6_restore_10 ?_
    suffices z24 : ∀ q5 : Int32 × nT, q5 = (v_X6_refuse N 6) → Z k_X6_restore G Γ (wr G A Γ.2.2.1.1.heap (maW G a q5.2 ++ rdW G (sh a 10) R ++ rdW G (sh a 15) Q ++ faW G a F)) 0 0 [(0, .ref (a 0))] 13 [.int q5.1] from z24 _ rfl
    intro q5 hq5
    have hv := kk_vq hv hq5
    clear hq5
    subst hv; exact z_iret_W hQ rfl rfl rfl ⟨rfl, rfl⟩ dX6_restore_13
theorem dX6_status_0 : decode cX6_status 0 = .ok (.iload_n 1, 1) := by decide +kernel
theorem dX6_status_1 : decode cX6_status 1 = .ok (.tableswitch 149 0 9 #[55, 63, 71, 79, 87, 95, 103, 118, 133, 141], 55) := by decide +kernel
theorem dX6_status_56 : decode cX6_status 56 = .ok (.aload_n 0, 1) := by decide +kernel
theorem dX6_status_57 : decode cX6_status 57 = .ok (.getfield 10, 3) := by decide +kernel
theorem dX6_status_60 : decode cX6_status 60 = .ok (.getfield 157, 3) := by decide +kernel
theorem dX6_status_63 : decode cX6_status 63 = .ok (.ireturn, 1) := by decide +kernel
theorem dX6_status_64 : decode cX6_status 64 = .ok (.aload_n 0, 1) := by decide +kernel
theorem dX6_status_65 : decode cX6_status 65 = .ok (.getfield 10, 3) := by decide +kernel
theorem dX6_status_68 : decode cX6_status 68 = .ok (.getfield 160, 3) := by decide +kernel
theorem dX6_status_71 : decode cX6_status 71 = .ok (.ireturn, 1) := by decide +kernel
theorem dX6_status_72 : decode cX6_status 72 = .ok (.aload_n 0, 1) := by decide +kernel
theorem dX6_status_73 : decode cX6_status 73 = .ok (.getfield 10, 3) := by decide +kernel
theorem dX6_status_76 : decode cX6_status 76 = .ok (.getfield 163, 3) := by decide +kernel
theorem dX6_status_79 : decode cX6_status 79 = .ok (.ireturn, 1) := by decide +kernel
theorem dX6_status_80 : decode cX6_status 80 = .ok (.aload_n 0, 1) := by decide +kernel
theorem dX6_status_81 : decode cX6_status 81 = .ok (.getfield 10, 3) := by decide +kernel
theorem dX6_status_84 : decode cX6_status 84 = .ok (.getfield 166, 3) := by decide +kernel
theorem dX6_status_87 : decode cX6_status 87 = .ok (.ireturn, 1) := by decide +kernel
theorem dX6_status_88 : decode cX6_status 88 = .ok (.aload_n 0, 1) := by decide +kernel
theorem dX6_status_89 : decode cX6_status 89 = .ok (.getfield 10, 3) := by decide +kernel
theorem dX6_status_92 : decode cX6_status 92 = .ok (.getfield 169, 3) := by decide +kernel
theorem dX6_status_95 : decode cX6_status 95 = .ok (.ireturn, 1) := by decide +kernel
theorem dX6_status_96 : decode cX6_status 96 = .ok (.aload_n 0, 1) := by decide +kernel
theorem dX6_status_97 : decode cX6_status 97 = .ok (.getfield 10, 3) := by decide +kernel
theorem dX6_status_100 : decode cX6_status 100 = .ok (.getfield 293, 3) := by decide +kernel
theorem dX6_status_103 : decode cX6_status 103 = .ok (.ireturn, 1) := by decide +kernel
theorem dX6_status_104 : decode cX6_status 104 = .ok (.aload_n 0, 1) := by decide +kernel
theorem dX6_status_105 : decode cX6_status 105 = .ok (.getfield 10, 3) := by decide +kernel
theorem dX6_status_108 : decode cX6_status 108 = .ok (.aload_n 0, 1) := by decide +kernel
theorem dX6_status_109 : decode cX6_status 109 = .ok (.getfield 10, 3) := by decide +kernel
theorem dX6_status_112 : decode cX6_status 112 = .ok (.getfield 172, 3) := by decide +kernel
theorem dX6_status_115 : decode cX6_status 115 = .ok (.invokevirtual 313, 3) := by decide +kernel
theorem dX6_status_118 : decode cX6_status 118 = .ok (.ireturn, 1) := by decide +kernel
theorem dX6_status_119 : decode cX6_status 119 = .ok (.aload_n 0, 1) := by decide +kernel
theorem dX6_status_120 : decode cX6_status 120 = .ok (.getfield 10, 3) := by decide +kernel
theorem dX6_status_123 : decode cX6_status 123 = .ok (.aload_n 0, 1) := by decide +kernel
theorem dX6_status_124 : decode cX6_status 124 = .ok (.getfield 10, 3) := by decide +kernel
theorem dX6_status_127 : decode cX6_status 127 = .ok (.getfield 175, 3) := by decide +kernel
theorem dX6_status_130 : decode cX6_status 130 = .ok (.invokevirtual 313, 3) := by decide +kernel
theorem dX6_status_133 : decode cX6_status 133 = .ok (.ireturn, 1) := by decide +kernel
theorem dX6_status_134 : decode cX6_status 134 = .ok (.aload_n 0, 1) := by decide +kernel
theorem dX6_status_135 : decode cX6_status 135 = .ok (.getfield 10, 3) := by decide +kernel
theorem dX6_status_138 : decode cX6_status 138 = .ok (.getfield 299, 3) := by decide +kernel
theorem dX6_status_141 : decode cX6_status 141 = .ok (.ireturn, 1) := by decide +kernel
theorem dX6_status_142 : decode cX6_status 142 = .ok (.aload_n 0, 1) := by decide +kernel
theorem dX6_status_143 : decode cX6_status 143 = .ok (.getfield 54, 3) := by decide +kernel
theorem dX6_status_146 : decode cX6_status 146 = .ok (.getfield 317, 3) := by decide +kernel
theorem dX6_status_149 : decode cX6_status 149 = .ok (.ireturn, 1) := by decide +kernel
theorem dX6_status_150 : decode cX6_status 150 = .ok (.iload_n 1, 1) := by decide +kernel
theorem dX6_status_151 : decode cX6_status 151 = .ok (.bipush 11, 2) := by decide +kernel
theorem dX6_status_153 : decode cX6_status 153 = .ok (.bipush 17, 2) := by decide +kernel
theorem dX6_status_155 : decode cX6_status 155 = .ok (.invokestatic 74, 3) := by decide +kernel
theorem dX6_status_158 : decode cX6_status 158 = .ok (.ifCond .eq 15, 3) := by decide +kernel
theorem dX6_status_161 : decode cX6_status 161 = .ok (.aload_n 0, 1) := by decide +kernel
theorem dX6_status_162 : decode cX6_status 162 = .ok (.getfield 58, 3) := by decide +kernel
theorem dX6_status_165 : decode cX6_status 165 = .ok (.iload_n 1, 1) := by decide +kernel
theorem dX6_status_166 : decode cX6_status 166 = .ok (.bipush 10, 2) := by decide +kernel
theorem dX6_status_168 : decode cX6_status 168 = .ok (.isub, 1) := by decide +kernel
theorem dX6_status_169 : decode cX6_status 169 = .ok (.iaload, 1) := by decide +kernel
theorem dX6_status_170 : decode cX6_status 170 = .ok (.goto 4, 3) := by decide +kernel
theorem dX6_status_173 : decode cX6_status 173 = .ok (.iconst (-1), 1) := by decide +kernel
theorem dX6_status_174 : decode cX6_status 174 = .ok (.ireturn, 1) := by decide +kernel
abbrev k_X6_status : zK := (cX6_status, 2, RX6, (some .int), ({ frames := 1, cells := 0, slots := 0, locals := 23 } : Room))
theorem zc_X6_status : zcal yX6_status k_X6_status.1 k_X6_status.2.1 k_X6_status.2.2.2.1 1 := ⟨tw_code_yX6_status, tw_i_TollForHesitators, ⟨by decide +kernel, by decide +kernel⟩, by decide +kernel⟩
theorem zv_X6_status : Cond.instanceMethod yX6_status ∈ TS ∧ Cond.selects RX6 yX6_status yX6_status ∈ TS := ⟨tw_inst_yX6_status, tw_s_yX6_status⟩
def v_X6_status (N : nT) (R : rT) (V : vT) (x1 : Int32) : Int32 := if x1 = 0 then R.1 4 else if x1 = 1 then R.1 5 else if x1 = 2 then R.1 6 else if x1 = 3 then R.1 7 else if x1 = 4 then R.1 8 else if x1 = 5 then R.1 9 else if x1 = 6 then (v_X4_together_1 R) else if x1 = 7 then (v_X4_together_2 R) else if x1 = 8 then R.1 10 else if x1 = 9 then V.1 1 else (if (v_X6_within x1 11 17) = 0 then (-1) else N.2 (x1 - 10).toNatClampNeg)
def p_X6_status (N : nT) (R : rT) (V : vT) (x1 : Int32) : Prop := if x1 = 0 then True else if x1 = 1 then True else if x1 = 2 then True else if x1 = 3 then True else if x1 = 4 then True else if x1 = 5 then True else if x1 = 6 then p_X4_together_1 R else if x1 = 7 then p_X4_together_2 R else if x1 = 8 then True else if x1 = 9 then True else if (v_X6_within x1 11 17) = 0 then True else vp_in (x1 - 10) 8
set_option maxHeartbeats 800000 in
theorem c_X6_status {l : Launch} (G : zG) (P : pT) (a : Nat → Nat) (N : nT) (R : rT) (V : vT) (x1 : Int32) (hp : p_X6_status N R V x1) : Met l yX6_status (.code yX6_status k_X6_status.1 k_X6_status.2.1 k_X6_status.2.2.2.1 :: TS) k_X6_status.2.2.2.2 (Pz G [.ref (a 0), .int x1] (Fr G P (maW G a N ++ rdW G (sh a 10) R ++ mvW G (sh a 70) V))) (vp_Si (fun r => r = v_X6_status N R V x1)) 0 0 (fun _ => False) := by
  refine zmet (K := k_X6_status) (by decide +kernel) rfl rfl (fun Γ hl0 hQ hN hF => ?_)
  have hI := rd_P (G := G) hF.1
  have hG := rd_F hF.2
  obtain ⟨res, hv⟩ : ∃ res, v_X6_status N R V x1 = res := ⟨_, rfl⟩
  rw [hv] at hQ
  unfold v_X6_status at hv
  unfold p_X6_status at hp
  show Z k_X6_status G Γ _ 0 0 [(0, .ref (a 0)), (1, .int x1)] 0 []
  refine z_iload_n dX6_status_0 rfl ?_
  by_cases c1 : x1 = 0
  · have hp := ip_t hp c1; have hv := it_t hv c1
    refine z_tableIn (tgt := 56) dX6_status_1 0 c1 (by decide) (by decide) rfl (by decide) ?_
    refine z_aload_n dX6_status_56 rfl ?_
    refine z_get (v := .ref ((sh a 10) 0)) hI 0 rfl rfl uin_X6 0 (Nat.le_of_ble_eq_true rfl) tw_f_RX6_10 rfl rfl dX6_status_57 ?_
    refine z_get (v := .int (R.1 4)) hI 3 rfl rfl uin_X4 4 (Nat.le_of_ble_eq_true rfl) tw_f_RX6_157 rfl rfl dX6_status_60 ?_
    exact z_iret_S hQ rfl hv dX6_status_63
  have hp := ip_f hp c1
  have hv := it_f hv c1
  by_cases c2 : x1 = 1
  · have hp := ip_t hp c2; have hv := it_t hv c2
    refine z_tableIn (tgt := 64) dX6_status_1 1 c2 (by decide) (by decide) rfl (by decide) ?_
    refine z_aload_n dX6_status_64 rfl ?_
    refine z_get (v := .ref ((sh a 10) 0)) hI 0 rfl rfl uin_X6 0 (Nat.le_of_ble_eq_true rfl) tw_f_RX6_10 rfl rfl dX6_status_65 ?_
    refine z_get (v := .int (R.1 5)) hI 3 rfl rfl uin_X4 5 (Nat.le_of_ble_eq_true rfl) tw_f_RX6_160 rfl rfl dX6_status_68 ?_
    exact z_iret_S hQ rfl hv dX6_status_71
  have hp := ip_f hp c2
  have hv := it_f hv c2
  by_cases c3 : x1 = 2
  · have hp := ip_t hp c3; have hv := it_t hv c3
    refine z_tableIn (tgt := 72) dX6_status_1 2 c3 (by decide) (by decide) rfl (by decide) ?_
    refine z_aload_n dX6_status_72 rfl ?_
    refine z_get (v := .ref ((sh a 10) 0)) hI 0 rfl rfl uin_X6 0 (Nat.le_of_ble_eq_true rfl) tw_f_RX6_10 rfl rfl dX6_status_73 ?_
    refine z_get (v := .int (R.1 6)) hI 3 rfl rfl uin_X4 6 (Nat.le_of_ble_eq_true rfl) tw_f_RX6_163 rfl rfl dX6_status_76 ?_
    exact z_iret_S hQ rfl hv dX6_status_79
  have hp := ip_f hp c3
  have hv := it_f hv c3
  by_cases c4 : x1 = 3
  · have hp := ip_t hp c4; have hv := it_t hv c4
    refine z_tableIn (tgt := 80) dX6_status_1 3 c4 (by decide) (by decide) rfl (by decide) ?_
    refine z_aload_n dX6_status_80 rfl ?_
    refine z_get (v := .ref ((sh a 10) 0)) hI 0 rfl rfl uin_X6 0 (Nat.le_of_ble_eq_true rfl) tw_f_RX6_10 rfl rfl dX6_status_81 ?_
    refine z_get (v := .int (R.1 7)) hI 3 rfl rfl uin_X4 7 (Nat.le_of_ble_eq_true rfl) tw_f_RX6_166 rfl rfl dX6_status_84 ?_
    exact z_iret_S hQ rfl hv dX6_status_87
  have hp := ip_f hp c4
  have hv := it_f hv c4
  by_cases c5 : x1 = 4
  · have hp := ip_t hp c5; have hv := it_t hv c5
    refine z_tableIn (tgt := 88) dX6_status_1 4 c5 (by decide) (by decide) rfl (by decide) ?_
    refine z_aload_n dX6_status_88 rfl ?_
    refine z_get (v := .ref ((sh a 10) 0)) hI 0 rfl rfl uin_X6 0 (Nat.le_of_ble_eq_true rfl) tw_f_RX6_10 rfl rfl dX6_status_89 ?_
    refine z_get (v := .int (R.1 8)) hI 3 rfl rfl uin_X4 8 (Nat.le_of_ble_eq_true rfl) tw_f_RX6_169 rfl rfl dX6_status_92 ?_
    exact z_iret_S hQ rfl hv dX6_status_95
  have hp := ip_f hp c5
  have hv := it_f hv c5
  by_cases c6 : x1 = 5
  · have hp := ip_t hp c6; have hv := it_t hv c6
    refine z_tableIn (tgt := 96) dX6_status_1 5 c6 (by decide) (by decide) rfl (by decide) ?_
    refine z_aload_n dX6_status_96 rfl ?_
    refine z_get (v := .ref ((sh a 10) 0)) hI 0 rfl rfl uin_X6 0 (Nat.le_of_ble_eq_true rfl) tw_f_RX6_10 rfl rfl dX6_status_97 ?_
    refine z_get (v := .int (R.1 9)) hI 3 rfl rfl uin_X4 9 (Nat.le_of_ble_eq_true rfl) tw_f_RX6_293 rfl rfl dX6_status_100 ?_
    exact z_iret_S hQ rfl hv dX6_status_103
  have hp := ip_f hp c6
  have hv := it_f hv c6
  by_cases c8 : x1 = 6
  · have hp := ip_t hp c8; have hv := it_t hv c8
    refine z_tableIn (tgt := 104) dX6_status_1 6 c8 (by decide) (by decide) rfl (by decide) ?_
    refine z_aload_n dX6_status_104 rfl ?_
    refine z_get (v := .ref ((sh a 10) 0)) hI 0 rfl rfl uin_X6 0 (Nat.le_of_ble_eq_true rfl) tw_f_RX6_10 rfl rfl dX6_status_105 ?_
    refine z_aload_n dX6_status_108 rfl ?_
    refine z_get (v := .ref ((sh a 10) 0)) hI 0 rfl rfl uin_X6 0 (Nat.le_of_ble_eq_true rfl) tw_f_RX6_10 rfl rfl dX6_status_109 ?_
    refine z_get (v := .ref ((sh a 10) 2)) hI 3 rfl rfl uin_X4 1 (Nat.le_of_ble_eq_true rfl) tw_f_RX6_172 rfl rfl dX6_status_112 ?_
    have q7 := hp
    refine z_cvi (c_X4_together_1 G P (sh a 10) R q7) zc_X4_together_1 zv_X4_together_1 tw_m_RX6_313 (zrec_of hI 3 rfl rfl) (fr_all (sub_P hI [3, 4, 5, 6, 7] rfl) hG) (zroom_of rfl) rfl (Nat.le_of_ble_eq_true rfl) dX6_status_115 ?_
    exact z_iret_S hQ rfl hv dX6_status_118
  have hp := ip_f hp c8
  have hv := it_f hv c8
  by_cases c10 : x1 = 7
  · have hp := ip_t hp c10; have hv := it_t hv c10
    refine z_tableIn (tgt := 119) dX6_status_1 7 c10 (by decide) (by decide) rfl (by decide) ?_
    refine z_aload_n dX6_status_119 rfl ?_
    refine z_get (v := .ref ((sh a 10) 0)) hI 0 rfl rfl uin_X6 0 (Nat.le_of_ble_eq_true rfl) tw_f_RX6_10 rfl rfl dX6_status_120 ?_
    refine z_aload_n dX6_status_123 rfl ?_
    refine z_get (v := .ref ((sh a 10) 0)) hI 0 rfl rfl uin_X6 0 (Nat.le_of_ble_eq_true rfl) tw_f_RX6_10 rfl rfl dX6_status_124 ?_
    refine z_get (v := .ref ((sh a 10) 3)) hI 3 rfl rfl uin_X4 2 (Nat.le_of_ble_eq_true rfl) tw_f_RX6_175 rfl rfl dX6_status_127 ?_
    have q9 := hp
    refine z_cvi (c_X4_together_2 G P (sh a 10) R q9) zc_X4_together_2 zv_X4_together_2 tw_m_RX6_313 (zrec_of hI 3 rfl rfl) (fr_all (sub_P hI [3, 4, 5, 6, 7] rfl) hG) (zroom_of rfl) rfl (Nat.le_of_ble_eq_true rfl) dX6_status_130 ?_
    exact z_iret_S hQ rfl hv dX6_status_133
  have hp := ip_f hp c10
  have hv := it_f hv c10
  by_cases c11 : x1 = 8
  · have hp := ip_t hp c11; have hv := it_t hv c11
    refine z_tableIn (tgt := 134) dX6_status_1 8 c11 (by decide) (by decide) rfl (by decide) ?_
    refine z_aload_n dX6_status_134 rfl ?_
    refine z_get (v := .ref ((sh a 10) 0)) hI 0 rfl rfl uin_X6 0 (Nat.le_of_ble_eq_true rfl) tw_f_RX6_10 rfl rfl dX6_status_135 ?_
    refine z_get (v := .int (R.1 10)) hI 3 rfl rfl uin_X4 10 (Nat.le_of_ble_eq_true rfl) tw_f_RX6_299 rfl rfl dX6_status_138 ?_
    exact z_iret_S hQ rfl hv dX6_status_141
  have hp := ip_f hp c11
  have hv := it_f hv c11
  by_cases c12 : x1 = 9
  · have hp := ip_t hp c12; have hv := it_t hv c12
    refine z_tableIn (tgt := 142) dX6_status_1 9 c12 (by decide) (by decide) rfl (by decide) ?_
    refine z_aload_n dX6_status_142 rfl ?_
    refine z_get (v := .ref ((sh a 70) 0)) hI 0 rfl rfl uin_X6 8 (Nat.le_of_ble_eq_true rfl) tw_f_RX6_54 rfl rfl dX6_status_143 ?_
    refine z_get (v := .int (V.1 1)) hI 8 rfl rfl uin_X1 1 (Nat.le_of_ble_eq_true rfl) tw_f_RX6_317 rfl rfl dX6_status_146 ?_
    exact z_iret_S hQ rfl hv dX6_status_149
  have hp := ip_f hp c12
  have hv := it_f hv c12
  refine z_tableOut (tgt := 150) dX6_status_1 (zout10_0 c1 c2 c3 c4 c5 c6 c8 c10 c11 c12) (by decide) ?_
  refine z_iload_n dX6_status_150 rfl ?_
  refine z_bipush (v := 11) dX6_status_151 rfl ?_
  refine z_bipush (v := 17) dX6_status_153 rfl ?_
  refine z_csi (c_X6_within G P x1 11 17 ) zc_X6_within tw_st_yX6_within tw_m_RX6_74 (fr_all (sub_P hI [] rfl) hG) (zroom_of rfl) rfl (Nat.le_of_ble_eq_true rfl) dX6_status_155 ?_
  have hpm := hp
  have J16 : ∀ m15 : Int32, m15 = (if (v_X6_within x1 11 17) = 0 then (-1) else N.2 (x1 - 10).toNatClampNeg) → Z k_X6_status G Γ (rd Γ.2.2.1.1.heap) 0 0 [(0, .ref (a 0)), (1, .int x1)] 174 [.int m15] := by
    intro m15 em15
    rewrite [em15]; clear em15
    exact z_iret_S hQ rfl hv dX6_status_174
  refine z_if_eq (tgt := 173) dX6_status_158 (by decide) (fun c13 => ?_) (fun c13 => ?_)
  · have hp := ip_t hpm c13
    refine z_iconst (v := (-1)) dX6_status_173 rfl ?_
    exact z_lv rfl (J16 _ (if_pos c13).symm)
  · have hp := ip_f hpm c13
    refine z_aload_n dX6_status_161 rfl ?_
    refine z_get (v := .ref (a 2)) hI 0 rfl rfl uin_X6 9 (Nat.le_of_ble_eq_true rfl) tw_f_RX6_58 rfl rfl dX6_status_162 ?_
    refine z_iload_n dX6_status_165 rfl ?_
    refine z_bipush (v := 10) dX6_status_166 rfl ?_
    refine z_isub dX6_status_168 ?_
    have q14 := hp
    refine z_ialdx (x := N.2 (x1 - 10).toNatClampNeg) hI 2 rfl q14 rfl dX6_status_169 ?_
    refine z_goto (tgt := 174) dX6_status_170 (by decide) ?_
    exact z_lv rfl (J16 _ (if_neg c13).symm)
