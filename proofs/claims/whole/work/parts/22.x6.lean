theorem tw_m_RX6_70 : Cond.methodLink RX6 70 yX6_refuse ∈ TS := ts_mem 302 (by decide +kernel) rfl
theorem tw_m_RX6_78 : Cond.methodLink RX6 78 yX5_startRow ∈ TS := ts_mem 309 (by decide +kernel) rfl
theorem tw_code_yX6_row : Cond.code yX6_row cX6_row 5 (some .int) ∈ TS := ts_mem 297 (by decide +kernel) rfl
theorem tw_inst_yX6_row : Cond.instanceMethod yX6_row ∈ TS := ts_mem 295 (by decide +kernel) rfl
theorem tw_s_yX6_row : Cond.selects RX6 yX6_row yX6_row ∈ TS := ts_mem 296 (by decide +kernel) rfl
theorem tw_m_RX6_85 : Cond.methodLink RX6 85 yX5_hasElement ∈ TS := ts_mem 335 (by decide +kernel) rfl
theorem tw_m_RX6_89 : Cond.methodLink RX6 89 yX5_put ∈ TS := ts_mem 339 (by decide +kernel) rfl
theorem tw_code_yX6_set : Cond.code yX6_set cX6_set 7 (some .int) ∈ TS := ts_mem 322 (by decide +kernel) rfl
theorem tw_inst_yX6_set : Cond.instanceMethod yX6_set ∈ TS := ts_mem 320 (by decide +kernel) rfl
theorem tw_s_yX6_set : Cond.selects RX6 yX6_set yX6_set ∈ TS := ts_mem 321 (by decide +kernel) rfl
theorem tw_f_RX6_107 : Cond.fieldLink RX6 107 RX5 "elements" "[J" ∈ TS := ts_mem 161 (by decide +kernel) rfl
theorem tw_m_RX6_111 : Cond.methodLink RX6 111 arraycopyName ∈ TS := ts_mem 352 (by decide +kernel) rfl
theorem tw_native : Cond.native arraycopyName ∈ TS := ts_mem 354 (by decide +kernel) rfl
theorem tw_st_arraycopyName : Cond.static arraycopyName ∈ TS := ts_mem 353 (by decide +kernel) rfl
theorem tw_i_java_lang_System : Cond.initialized RJ10 ∈ TS := ts_mem 76 (by decide +kernel) rfl
theorem tw_f_RX6_100 : Cond.fieldLink RX6 100 RX5 "held" "I" ∈ TS := ts_mem 163 (by decide +kernel) rfl
theorem tw_code_yX6_copy : Cond.code yX6_copy cX6_copy 8 (some .int) ∈ TS := ts_mem 347 (by decide +kernel) rfl
theorem tw_inst_yX6_copy : Cond.instanceMethod yX6_copy ∈ TS := ts_mem 345 (by decide +kernel) rfl
theorem tw_s_yX6_copy : Cond.selects RX6 yX6_copy yX6_copy ∈ TS := ts_mem 346 (by decide +kernel) rfl
theorem tw_m_RX6_117 : Cond.methodLink RX6 117 yX5_longAt ∈ TS := ts_mem 359 (by decide +kernel) rfl
theorem tw_code_yX6_element : Cond.code yX6_element cX6_element 4 (some .long) ∈ TS := ts_mem 358 (by decide +kernel) rfl
theorem tw_inst_yX6_element : Cond.instanceMethod yX6_element ∈ TS := ts_mem 356 (by decide +kernel) rfl
theorem tw_s_yX6_element : Cond.selects RX6 yX6_element yX6_element ∈ TS := ts_mem 357 (by decide +kernel) rfl
theorem tw_m_RX6_124 : Cond.methodLink RX6 124 yX5_hold ∈ TS := ts_mem 375 (by decide +kernel) rfl
theorem tw_code_yX6_show : Cond.code yX6_show cX6_show 4 (some .int) ∈ TS := ts_mem 366 (by decide +kernel) rfl
theorem tw_inst_yX6_show : Cond.instanceMethod yX6_show ∈ TS := ts_mem 364 (by decide +kernel) rfl
theorem tw_s_yX6_show : Cond.selects RX6 yX6_show yX6_show ∈ TS := ts_mem 365 (by decide +kernel) rfl
theorem tw_code_yX6_holds : Cond.code yX6_holds cX6_holds 3 (some .int) ∈ TS := ts_mem 382 (by decide +kernel) rfl
theorem tw_inst_yX6_holds : Cond.instanceMethod yX6_holds ∈ TS := ts_mem 380 (by decide +kernel) rfl
theorem tw_s_yX6_holds : Cond.selects RX6 yX6_holds yX6_holds ∈ TS := ts_mem 381 (by decide +kernel) rfl
theorem tw_m_RX6_128 : Cond.methodLink RX6 128 yX4_at ∈ TS := ts_mem 387 (by decide +kernel) rfl
theorem tw_m_RX6_132 : Cond.methodLink RX6 132 yX0_isOf ∈ TS := ts_mem 388 (by decide +kernel) rfl
theorem tw_f_RX6_137 : Cond.fieldLink RX6 137 RX0 "load" "I" ∈ TS := ts_mem 434 (by decide +kernel) rfl
theorem tw_f_RX6_140 : Cond.fieldLink RX6 140 RX0 "pace" "I" ∈ TS := ts_mem 432 (by decide +kernel) rfl
theorem tw_m_RX6_143 : Cond.methodLink RX6 143 yX0_step ∈ TS := ts_mem 397 (by decide +kernel) rfl
theorem tw_m_RX6_147 : Cond.methodLink RX6 147 yX4_nerveOf ∈ TS := ts_mem 401 (by decide +kernel) rfl
theorem tw_code_yX6_says : Cond.code yX6_says cX6_says 5 (some .int) ∈ TS := ts_mem 386 (by decide +kernel) rfl
theorem tw_inst_yX6_says : Cond.instanceMethod yX6_says ∈ TS := ts_mem 384 (by decide +kernel) rfl
theorem tw_s_yX6_says : Cond.selects RX6 yX6_says yX6_says ∈ TS := ts_mem 385 (by decide +kernel) rfl
theorem tw_f_RX6_169 : Cond.fieldLink RX6 169 RX4 "push" "I" ∈ TS := ts_mem 123 (by decide +kernel) rfl
theorem tw_f_RX6_166 : Cond.fieldLink RX6 166 RX4 "toll" "I" ∈ TS := ts_mem 120 (by decide +kernel) rfl
theorem tw_f_RX6_163 : Cond.fieldLink RX6 163 RX4 "fog" "I" ∈ TS := ts_mem 116 (by decide +kernel) rfl
theorem tw_f_RX6_160 : Cond.fieldLink RX6 160 RX4 "way" "I" ∈ TS := ts_mem 113 (by decide +kernel) rfl
theorem tw_code_yX6_ask : Cond.code yX6_ask cX6_ask 4 (some .int) ∈ TS := ts_mem 449 (by decide +kernel) rfl
theorem tw_inst_yX6_ask : Cond.instanceMethod yX6_ask ∈ TS := ts_mem 447 (by decide +kernel) rfl
theorem tw_s_yX6_ask : Cond.selects RX6 yX6_ask yX6_ask ∈ TS := ts_mem 448 (by decide +kernel) rfl
theorem tw_f_RX6_178 : Cond.fieldLink RX6 178 RX4 "doubt" "[I" ∈ TS := ts_mem 106 (by decide +kernel) rfl
theorem tw_f_RX6_175 : Cond.fieldLink RX6 175 RX4 "purse" "[I" ∈ TS := ts_mem 103 (by decide +kernel) rfl
theorem tw_f_RX6_172 : Cond.fieldLink RX6 172 RX4 "nerve" "[I" ∈ TS := ts_mem 101 (by decide +kernel) rfl
theorem tw_code_yX6_tell : Cond.code yX6_tell cX6_tell 5 (some .int) ∈ TS := ts_mem 453 (by decide +kernel) rfl
theorem tw_inst_yX6_tell : Cond.instanceMethod yX6_tell ∈ TS := ts_mem 451 (by decide +kernel) rfl
theorem tw_s_yX6_tell : Cond.selects RX6 yX6_tell yX6_tell ∈ TS := ts_mem 452 (by decide +kernel) rfl
theorem tw_f_RX6_181 : Cond.fieldLink RX6 181 RX0 "kind" "I" ∈ TS := ts_mem 427 (by decide +kernel) rfl
theorem tw_f_RX6_184 : Cond.fieldLink RX6 184 RX0 "a" "I" ∈ TS := ts_mem 430 (by decide +kernel) rfl
theorem tw_code_yX6_comerOf : Cond.code yX6_comerOf cX6_comerOf 4 (some .int) ∈ TS := ts_mem 457 (by decide +kernel) rfl
theorem tw_inst_yX6_comerOf : Cond.instanceMethod yX6_comerOf ∈ TS := ts_mem 455 (by decide +kernel) rfl
theorem tw_s_yX6_comerOf : Cond.selects RX6 yX6_comerOf yX6_comerOf ∈ TS := ts_mem 456 (by decide +kernel) rfl
theorem tw_f_RX6_62 : Cond.fieldLink RX6 62 RX6 "latestFault" "I" ∈ TS := ts_mem 267 (by decide +kernel) rfl
theorem tw_code_yX6_fault : Cond.code yX6_fault cX6_fault 1 (some .int) ∈ TS := ts_mem 582 (by decide +kernel) rfl
theorem tw_inst_yX6_fault : Cond.instanceMethod yX6_fault ∈ TS := ts_mem 580 (by decide +kernel) rfl
theorem tw_s_yX6_fault : Cond.selects RX6 yX6_fault yX6_fault ∈ TS := ts_mem 581 (by decide +kernel) rfl
theorem tw_m_RX6_200 : Cond.methodLink RX6 200 yX0_looksOn ∈ TS := ts_mem 587 (by decide +kernel) rfl
theorem tw_m_RX6_203 : Cond.methodLink RX6 203 yX0_burden ∈ TS := ts_mem 591 (by decide +kernel) rfl
theorem tw_m_RX6_206 : Cond.methodLink RX6 206 yX0_courage ∈ TS := ts_mem 595 (by decide +kernel) rfl
theorem tw_code_yX6_looks : Cond.code yX6_looks cX6_looks 4 (some .int) ∈ TS := ts_mem 586 (by decide +kernel) rfl
theorem tw_inst_yX6_looks : Cond.instanceMethod yX6_looks ∈ TS := ts_mem 584 (by decide +kernel) rfl
theorem tw_s_yX6_looks : Cond.selects RX6 yX6_looks yX6_looks ∈ TS := ts_mem 585 (by decide +kernel) rfl
theorem tw_code_yX6_slow : Cond.code yX6_slow cX6_slow 3 (some .int) ∈ TS := ts_mem 603 (by decide +kernel) rfl
theorem tw_inst_yX6_slow : Cond.instanceMethod yX6_slow ∈ TS := ts_mem 601 (by decide +kernel) rfl
theorem tw_s_yX6_slow : Cond.selects RX6 yX6_slow yX6_slow ∈ TS := ts_mem 602 (by decide +kernel) rfl
theorem tw_m_RX6_213 : Cond.methodLink RX6 213 yX4_fogsOf ∈ TS := ts_mem 620 (by decide +kernel) rfl
theorem tw_f_RX6_157 : Cond.fieldLink RX6 157 RX4 "count" "I" ∈ TS := ts_mem 110 (by decide +kernel) rfl
theorem tw_code_yX6_brave : Cond.code yX6_brave cX6_brave 4 (some .int) ∈ TS := ts_mem 619 (by decide +kernel) rfl
theorem tw_inst_yX6_brave : Cond.instanceMethod yX6_brave ∈ TS := ts_mem 617 (by decide +kernel) rfl
theorem tw_s_yX6_brave : Cond.selects RX6 yX6_brave yX6_brave ∈ TS := ts_mem 618 (by decide +kernel) rfl
theorem dX6_row_0 : decode cX6_row 0 = .ok (.aload_n 0, 1) := by decide +kernel
theorem dX6_row_1 : decode cX6_row 1 = .ok (.iload_n 1, 1) := by decide +kernel
theorem dX6_row_2 : decode cX6_row 2 = .ok (.invokevirtual 66, 3) := by decide +kernel
theorem dX6_row_5 : decode cX6_row 5 = .ok (.astore 4, 2) := by decide +kernel
theorem dX6_row_7 : decode cX6_row 7 = .ok (.aload 4, 2) := by decide +kernel
theorem dX6_row_9 : decode cX6_row 9 = .ok (.ifnonnull 9, 3) := by decide +kernel
theorem dX6_row_12 : decode cX6_row 12 = .ok (.aload_n 0, 1) := by decide +kernel
theorem dX6_row_13 : decode cX6_row 13 = .ok (.iconst 1, 1) := by decide +kernel
theorem dX6_row_14 : decode cX6_row 14 = .ok (.invokevirtual 70, 3) := by decide +kernel
theorem dX6_row_17 : decode cX6_row 17 = .ok (.ireturn, 1) := by decide +kernel
theorem dX6_row_18 : decode cX6_row 18 = .ok (.iload_n 3, 1) := by decide +kernel
theorem dX6_row_19 : decode cX6_row 19 = .ok (.ifCond .ge 9, 3) := by decide +kernel
theorem dX6_row_22 : decode cX6_row 22 = .ok (.aload_n 0, 1) := by decide +kernel
theorem dX6_row_23 : decode cX6_row 23 = .ok (.iconst 4, 1) := by decide +kernel
theorem dX6_row_24 : decode cX6_row 24 = .ok (.invokevirtual 70, 3) := by decide +kernel
theorem dX6_row_27 : decode cX6_row 27 = .ok (.ireturn, 1) := by decide +kernel
theorem dX6_row_28 : decode cX6_row 28 = .ok (.iload_n 2, 1) := by decide +kernel
theorem dX6_row_29 : decode cX6_row 29 = .ok (.iconst 0, 1) := by decide +kernel
theorem dX6_row_30 : decode cX6_row 30 = .ok (.iconst 3, 1) := by decide +kernel
theorem dX6_row_31 : decode cX6_row 31 = .ok (.invokestatic 74, 3) := by decide +kernel
theorem dX6_row_34 : decode cX6_row 34 = .ok (.ifCond .ne 10, 3) := by decide +kernel
theorem dX6_row_37 : decode cX6_row 37 = .ok (.aload_n 0, 1) := by decide +kernel
theorem dX6_row_38 : decode cX6_row 38 = .ok (.bipush 6, 2) := by decide +kernel
theorem dX6_row_40 : decode cX6_row 40 = .ok (.invokevirtual 70, 3) := by decide +kernel
theorem dX6_row_43 : decode cX6_row 43 = .ok (.ireturn, 1) := by decide +kernel
theorem dX6_row_44 : decode cX6_row 44 = .ok (.iload_n 3, 1) := by decide +kernel
theorem dX6_row_45 : decode cX6_row 45 = .ok (.sipush 160, 3) := by decide +kernel
theorem dX6_row_48 : decode cX6_row 48 = .ok (.if_icmp .le 10, 3) := by decide +kernel
theorem dX6_row_51 : decode cX6_row 51 = .ok (.aload_n 0, 1) := by decide +kernel
theorem dX6_row_52 : decode cX6_row 52 = .ok (.bipush 7, 2) := by decide +kernel
theorem dX6_row_54 : decode cX6_row 54 = .ok (.invokevirtual 70, 3) := by decide +kernel
theorem dX6_row_57 : decode cX6_row 57 = .ok (.ireturn, 1) := by decide +kernel
theorem dX6_row_58 : decode cX6_row 58 = .ok (.aload 4, 2) := by decide +kernel
theorem dX6_row_60 : decode cX6_row 60 = .ok (.iload_n 2, 1) := by decide +kernel
theorem dX6_row_61 : decode cX6_row 61 = .ok (.iload_n 3, 1) := by decide +kernel
theorem dX6_row_62 : decode cX6_row 62 = .ok (.invokevirtual 78, 3) := by decide +kernel
theorem dX6_row_65 : decode cX6_row 65 = .ok (.iconst 1, 1) := by decide +kernel
theorem dX6_row_66 : decode cX6_row 66 = .ok (.ireturn, 1) := by decide +kernel
abbrev k_X6_row : zK := (cX6_row, 5, RX6, (some .int), ({ frames := 2, cells := 0, slots := 0, locals := 40 } : Room))
theorem zc_X6_row : zcal yX6_row k_X6_row.1 k_X6_row.2.1 k_X6_row.2.2.2.1 3 := ⟨tw_code_yX6_row, tw_i_TollForHesitators, ⟨by decide +kernel, by decide +kernel⟩, by decide +kernel⟩
theorem zv_X6_row : Cond.instanceMethod yX6_row ∈ TS ∧ Cond.selects RX6 yX6_row yX6_row ∈ TS := ⟨tw_inst_yX6_row, tw_s_yX6_row⟩
def v_X6_row (N : nT) (F : fT) (x1 : Int32) (x2 : Int32) (x3 : Int32) : Int32 × nT × fT := oc (v_X6_shelfAt N x1) (kk (v_X6_refuse N 1) (fun q4 : Int32 × nT => (q4.1, (q4.2, F)))) (fun r2 : Nat => if 0 ≤ x3 then if (v_X6_within x2 0 3) = 0 then kk (v_X6_refuse N 6) (fun q13 : Int32 × nT => (q13.1, (q13.2, F))) else if x3 ≤ 160 then kk (v_X5_startRow (F r2) x2 x3) (fun q9 : sT => (1, (N, va_up F r2 q9))) else kk (v_X6_refuse N 7) (fun q11 : Int32 × nT => (q11.1, (q11.2, F))) else kk (v_X6_refuse N 4) (fun q15 : Int32 × nT => (q15.1, (q15.2, F))))
def p_X6_row (N : nT) (F : fT) (x1 : Int32) (x2 : Int32) (x3 : Int32) : Prop := p_X6_shelfAt N x1 ∧ (oc (v_X6_shelfAt N x1) (p_X6_refuse N 1) (fun r2 : Nat => if 0 ≤ x3 then if (v_X6_within x2 0 3) = 0 then p_X6_refuse N 6 else if x3 ≤ 160 then p_X5_startRow (F r2) x2 x3 else p_X6_refuse N 7 else p_X6_refuse N 4))
set_option maxHeartbeats 800000 in
theorem c_X6_row {l : Launch} (G : zG) (P : pT) (a : Nat → Nat) (sz : Nat) (N : nT) (F : fT) (x1 : Int32) (x2 : Int32) (x3 : Int32) (hp : p_X6_row N F x1 x2 x3) : Met l yX6_row (.code yX6_row k_X6_row.1 k_X6_row.2.1 k_X6_row.2.2.2.1 :: TS) k_X6_row.2.2.2.2 (Pz G [.ref (a 0), .int x1, .int x2, .int x3] (Fw G (gX G P) (maW G a N ++ faW G a F) sz)) (Qwi G (fun r w => r = (v_X6_row N F x1 x2 x3).1 ∧ w = maW G a ((v_X6_row N F x1 x2 x3).2.1) ++ faW G a ((v_X6_row N F x1 x2 x3).2.2)) (va_A (maW G a N ++ faW G a F) sz)) 0 0 (va_A (maW G a N ++ faW G a F) sz) := by
  refine zmet (K := k_X6_row) (by decide +kernel) rfl rfl (fun Γ hl0 hQ hN hF => ?_)
  refine z_start (gX_ok G P) hF (fun hw => ?_)
  generalize va_A (maW G a N ++ faW G a F) sz = A at hQ hw ⊢
  obtain ⟨res, hv⟩ : ∃ res, v_X6_row N F x1 x2 x3 = res := ⟨_, rfl⟩
  rw [hv] at hQ
  unfold v_X6_row at hv
  unfold p_X6_row at hp
  show Z k_X6_row G Γ _ 0 0 [(0, .ref (a 0)), (1, .int x1), (2, .int x2), (3, .int x3)] 0 []
  refine z_aload_n dX6_row_0 rfl ?_
  refine z_iload_n dX6_row_1 rfl ?_
  obtain ⟨q1, hp⟩ := hp
  refine z_cvq (c_X6_shelfAt G P a N x1 q1) zc_X6_shelfAt zv_X6_shelfAt tw_m_RX6_66 (zrec_of wr_P 0 rfl rfl) (fr_all (sub_P wr_P [0, 1, 2] rfl) (wr_G hw)) (zroom_of rfl) rfl (Nat.le_of_ble_eq_true rfl) dX6_row_2 ?_
  suffices z16 : ∀ r2 : Option Nat, r2 = (v_X6_shelfAt N x1) → (∀ k : Nat, r2 = some k → k < 8) → Z k_X6_row G Γ (wr G A Γ.2.2.1.1.heap (maW G a N ++ faW G a F)) 0 0 [(0, .ref (a 0)), (1, .int x1), (2, .int x2), (3, .int x3)] 5 [va_rf (r2.map (fun k => sh a (30 + 2 * k) 0))] from z16 _ rfl (shelfAt_lt N x1)
  intro r2 hr2 fr2
  have hp := oc_pq hp hr2
  have hv := oc_vq hv hr2
  clear hr2
  rcases r2 with _ | r2
  · have hp := oc_pn hp; have hv := oc_n hv
    refine z_astoreN (lv' := [(4, .null), (0, .ref (a 0)), (1, .int x1), (2, .int x2), (3, .int x3)]) dX6_row_5 (Nat.le_of_ble_eq_true rfl) rfl ?_
    refine z_aloadN dX6_row_7 rfl ?_
    refine z_ifnonnullN dX6_row_9 ?_
    refine z_aload_n dX6_row_12 rfl ?_
    refine z_iconst (v := 1) dX6_row_13 rfl ?_
    have q3 := hp
    refine z_cwviD (ws' := maW G a ((v_X6_refuse N 1).2) ++ faW G a F) hw (fun sz => c_X6_refuse G P a sz N 1 q3) [0, 1, 2] [3, 4, 5, 6, 7, 8, 9, 10, 11, 12, 13, 14, 15, 16, 17, 18] [16, 17, 18, 0, 1, 2, 3, 4, 5, 6, 7, 8, 9, 10, 11, 12, 13, 14, 15] 19 rfl rfl rfl rfl zc_X6_refuse zv_X6_refuse tw_m_RX6_70 (zrec_of wr_P 0 rfl rfl) (zroom_of rfl) rfl (Nat.le_of_ble_eq_true rfl) dX6_row_14 ?_
    suffices z17 : ∀ q4 : Int32 × nT, q4 = (v_X6_refuse N 1) → Z k_X6_row G Γ (wr G A Γ.2.2.1.1.heap (maW G a q4.2 ++ faW G a F)) 0 0 [(4, .null), (0, .ref (a 0)), (1, .int x1), (2, .int x2), (3, .int x3)] 17 [.int q4.1] from z17 _ rfl
    intro q4 hq4
    have hv := kk_vq hv hq4
    clear hq4
    subst hv; exact z_iret_W hQ rfl rfl rfl ⟨rfl, rfl⟩ dX6_row_17
  · have hp := oc_ps hp; have hv := oc_s hv
    have hr2 := fr2 _ rfl; clear fr2
    refine z_astore (lv' := [(4, .ref (sh a (30 + 2 * r2) 0)), (0, .ref (a 0)), (1, .int x1), (2, .int x2), (3, .int x3)]) dX6_row_5 (Nat.le_of_ble_eq_true rfl) rfl ?_
    refine z_aload dX6_row_7 rfl ?_
    refine z_ifnonnull (tgt := 18) dX6_row_9 (by decide) ?_
    refine z_iload_n dX6_row_18 rfl ?_
    refine z_if_ge (tgt := 28) dX6_row_19 (by decide) (fun c5 => ?_) (fun c5 => ?_)
    · have hp := ip_t hp c5; have hv := it_t hv c5
      refine z_iload_n dX6_row_28 rfl ?_
      refine z_iconst (v := 0) dX6_row_29 rfl ?_
      refine z_iconst (v := 3) dX6_row_30 rfl ?_
      refine z_csi (c_X6_within G P x2 0 3 ) zc_X6_within tw_st_yX6_within tw_m_RX6_74 (fr_all (sub_P wr_P [] rfl) (wr_G hw)) (zroom_of rfl) rfl (Nat.le_of_ble_eq_true rfl) dX6_row_31 ?_
      refine z_if_ne (tgt := 44) dX6_row_34 (by decide) (fun c6 => ?_) (fun c6 => ?_)
      · have hp := ip_f hp c6; have hv := it_f hv c6
        refine z_iload_n dX6_row_44 rfl ?_
        refine z_sipush (v := 160) dX6_row_45 rfl ?_
        refine z_icmp_le (tgt := 58) dX6_row_48 (by decide) (fun c7 => ?_) (fun c7 => ?_)
        · have hp := ip_t hp c7; have hv := it_t hv c7
          refine z_aload dX6_row_58 rfl ?_
          refine z_iload_n dX6_row_60 rfl ?_
          refine z_iload_n dX6_row_61 rfl ?_
          refine z_out (X := maW G a N) (F := F) hr2 ?_
          have q8 := hp
          refine z_ctvvD (R0 := pick (maW G a N ++ shW G (sh a (30 + 2 * r2)) (F r2)) [0, 1, 2]) (W1 := maW G a N ++ shW G (sh a (30 + 2 * r2)) ((v_X5_startRow (F r2) x2 x3))) hw (fun sz => c_X5_startRow G P (sh a (30 + 2 * r2)) sz (F r2) x2 x3 q8) [3, 4] [0, 1, 2] [0, 1, 2, 3, 4] 5 (by decide +kernel) rfl rfl rfl rfl rfl zc_X5_startRow zv_X5_startRow tw_m_RX6_78 (zrec_of wr_P 3 rfl rfl) (zroom_of rfl) rfl (Nat.le_of_ble_eq_true rfl) dX6_row_62 ?_
          refine z_in hr2 ?_
          suffices z18 : ∀ q9 : sT, q9 = (v_X5_startRow (F r2) x2 x3) → Z k_X6_row G Γ (wr G A Γ.2.2.1.1.heap (maW G a N ++ faW G a (va_up F r2 q9))) 0 0 [(4, .ref (sh a (30 + 2 * r2) 0)), (0, .ref (a 0)), (1, .int x1), (2, .int x2), (3, .int x3)] 65 [] from z18 _ rfl
          intro q9 hq9
          have hv := kk_vq hv hq9
          clear hq9
          refine z_iconst (v := 1) dX6_row_65 rfl ?_
          subst hv; exact z_iret_W hQ rfl rfl rfl ⟨rfl, rfl⟩ dX6_row_66
        · have hp := ip_f hp c7; have hv := it_f hv c7
          refine z_aload_n dX6_row_51 rfl ?_
          refine z_bipush (v := 7) dX6_row_52 rfl ?_
          have q10 := hp
          refine z_cwviD (ws' := maW G a ((v_X6_refuse N 7).2) ++ faW G a F) hw (fun sz => c_X6_refuse G P a sz N 7 q10) [0, 1, 2] [3, 4, 5, 6, 7, 8, 9, 10, 11, 12, 13, 14, 15, 16, 17, 18] [16, 17, 18, 0, 1, 2, 3, 4, 5, 6, 7, 8, 9, 10, 11, 12, 13, 14, 15] 19 rfl rfl rfl rfl zc_X6_refuse zv_X6_refuse tw_m_RX6_70 (zrec_of wr_P 0 rfl rfl) (zroom_of rfl) rfl (Nat.le_of_ble_eq_true rfl) dX6_row_54 ?_
          suffices z19 : ∀ q11 : Int32 × nT, q11 = (v_X6_refuse N 7) → Z k_X6_row G Γ (wr G A Γ.2.2.1.1.heap (maW G a q11.2 ++ faW G a F)) 0 0 [(4, .ref (sh a (30 + 2 * r2) 0)), (0, .ref (a 0)), (1, .int x1), (2, .int x2), (3, .int x3)] 57 [.int q11.1] from z19 _ rfl
          intro q11 hq11
          have hv := kk_vq hv hq11
          clear hq11
          subst hv; exact z_iret_W hQ rfl rfl rfl ⟨rfl, rfl⟩ dX6_row_57
      · have hp := ip_t hp c6; have hv := it_t hv c6
        refine z_aload_n dX6_row_37 rfl ?_
        refine z_bipush (v := 6) dX6_row_38 rfl ?_
        have q12 := hp
        refine z_cwviD (ws' := maW G a ((v_X6_refuse N 6).2) ++ faW G a F) hw (fun sz => c_X6_refuse G P a sz N 6 q12) [0, 1, 2] [3, 4, 5, 6, 7, 8, 9, 10, 11, 12, 13, 14, 15, 16, 17, 18] [16, 17, 18, 0, 1, 2, 3, 4, 5, 6, 7, 8, 9, 10, 11, 12, 13, 14, 15] 19 rfl rfl rfl rfl zc_X6_refuse zv_X6_refuse tw_m_RX6_70 (zrec_of wr_P 0 rfl rfl) (zroom_of rfl) rfl (Nat.le_of_ble_eq_true rfl) dX6_row_40 ?_
        suffices z20 : ∀ q13 : Int32 × nT, q13 = (v_X6_refuse N 6) → Z k_X6_row G Γ (wr G A Γ.2.2.1.1.heap (maW G a q13.2 ++ faW G a F)) 0 0 [(4, .ref (sh a (30 + 2 * r2) 0)), (0, .ref (a 0)), (1, .int x1), (2, .int x2), (3, .int x3)] 43 [.int q13.1] from z20 _ rfl
        intro q13 hq13
        have hv := kk_vq hv hq13
        clear hq13
        subst hv; exact z_iret_W hQ rfl rfl rfl ⟨rfl, rfl⟩ dX6_row_43
    · have hp := ip_f hp c5; have hv := it_f hv c5
      refine z_aload_n dX6_row_22 rfl ?_
      refine z_iconst (v := 4) dX6_row_23 rfl ?_
      have q14 := hp
      refine z_cwviD (ws' := maW G a ((v_X6_refuse N 4).2) ++ faW G a F) hw (fun sz => c_X6_refuse G P a sz N 4 q14) [0, 1, 2] [3, 4, 5, 6, 7, 8, 9, 10, 11, 12, 13, 14, 15, 16, 17, 18] [16, 17, 18, 0, 1, 2, 3, 4, 5, 6, 7, 8, 9, 10, 11, 12, 13, 14, 15] 19 rfl rfl rfl rfl zc_X6_refuse zv_X6_refuse tw_m_RX6_70 (zrec_of wr_P 0 rfl rfl) (zroom_of rfl) rfl (Nat.le_of_ble_eq_true rfl) dX6_row_24 ?_
      suffices z21 : ∀ q15 : Int32 × nT, q15 = (v_X6_refuse N 4) → Z k_X6_row G Γ (wr G A Γ.2.2.1.1.heap (maW G a q15.2 ++ faW G a F)) 0 0 [(4, .ref (sh a (30 + 2 * r2) 0)), (0, .ref (a 0)), (1, .int x1), (2, .int x2), (3, .int x3)] 27 [.int q15.1] from z21 _ rfl
      intro q15 hq15
      have hv := kk_vq hv hq15
      clear hq15
      subst hv; exact z_iret_W hQ rfl rfl rfl ⟨rfl, rfl⟩ dX6_row_27
theorem dX6_set_0 : decode cX6_set 0 = .ok (.aload_n 0, 1) := by decide +kernel
theorem dX6_set_1 : decode cX6_set 1 = .ok (.iload_n 1, 1) := by decide +kernel
theorem dX6_set_2 : decode cX6_set 2 = .ok (.invokevirtual 82, 3) := by decide +kernel
theorem dX6_set_5 : decode cX6_set 5 = .ok (.istore 5, 2) := by decide +kernel
theorem dX6_set_7 : decode cX6_set 7 = .ok (.iload 5, 2) := by decide +kernel
theorem dX6_set_9 : decode cX6_set 9 = .ok (.ifCond .eq 10, 3) := by decide +kernel
theorem dX6_set_12 : decode cX6_set 12 = .ok (.aload_n 0, 1) := by decide +kernel
theorem dX6_set_13 : decode cX6_set 13 = .ok (.iload 5, 2) := by decide +kernel
theorem dX6_set_15 : decode cX6_set 15 = .ok (.invokevirtual 70, 3) := by decide +kernel
theorem dX6_set_18 : decode cX6_set 18 = .ok (.ireturn, 1) := by decide +kernel
theorem dX6_set_19 : decode cX6_set 19 = .ok (.aload_n 0, 1) := by decide +kernel
theorem dX6_set_20 : decode cX6_set 20 = .ok (.iload_n 1, 1) := by decide +kernel
theorem dX6_set_21 : decode cX6_set 21 = .ok (.invokevirtual 66, 3) := by decide +kernel
theorem dX6_set_24 : decode cX6_set 24 = .ok (.astore 6, 2) := by decide +kernel
theorem dX6_set_26 : decode cX6_set 26 = .ok (.aload 6, 2) := by decide +kernel
theorem dX6_set_28 : decode cX6_set 28 = .ok (.ifnull 12, 3) := by decide +kernel
theorem dX6_set_31 : decode cX6_set 31 = .ok (.aload 6, 2) := by decide +kernel
theorem dX6_set_33 : decode cX6_set 33 = .ok (.iload_n 2, 1) := by decide +kernel
theorem dX6_set_34 : decode cX6_set 34 = .ok (.invokevirtual 85, 3) := by decide +kernel
theorem dX6_set_37 : decode cX6_set 37 = .ok (.ifCond .ne 9, 3) := by decide +kernel
theorem dX6_set_40 : decode cX6_set 40 = .ok (.aload_n 0, 1) := by decide +kernel
theorem dX6_set_41 : decode cX6_set 41 = .ok (.iconst 5, 1) := by decide +kernel
theorem dX6_set_42 : decode cX6_set 42 = .ok (.invokevirtual 70, 3) := by decide +kernel
theorem dX6_set_45 : decode cX6_set 45 = .ok (.ireturn, 1) := by decide +kernel
theorem dX6_set_46 : decode cX6_set 46 = .ok (.aload 6, 2) := by decide +kernel
theorem dX6_set_48 : decode cX6_set 48 = .ok (.iload_n 2, 1) := by decide +kernel
theorem dX6_set_49 : decode cX6_set 49 = .ok (.lload_n 3, 1) := by decide +kernel
theorem dX6_set_50 : decode cX6_set 50 = .ok (.invokevirtual 89, 3) := by decide +kernel
theorem dX6_set_53 : decode cX6_set 53 = .ok (.iconst 1, 1) := by decide +kernel
theorem dX6_set_54 : decode cX6_set 54 = .ok (.ireturn, 1) := by decide +kernel
abbrev k_X6_set : zK := (cX6_set, 7, RX6, (some .int), ({ frames := 2, cells := 0, slots := 0, locals := 44 } : Room))
theorem zc_X6_set : zcal yX6_set k_X6_set.1 k_X6_set.2.1 k_X6_set.2.2.2.1 3 := ⟨tw_code_yX6_set, tw_i_TollForHesitators, ⟨by decide +kernel, by decide +kernel⟩, by decide +kernel⟩
theorem zv_X6_set : Cond.instanceMethod yX6_set ∈ TS ∧ Cond.selects RX6 yX6_set yX6_set ∈ TS := ⟨tw_inst_yX6_set, tw_s_yX6_set⟩
def v_X6_set (N : nT) (F : fT) (x1 : Int32) (x2 : Int32) (x3 : Int64) : Int32 × nT × fT := if (v_X6_rowRefusal N F x1) = 0 then oc (v_X6_shelfAt N x1) (kk (v_X6_refuse N 5) (fun q6 : Int32 × nT => (q6.1, (q6.2, F)))) (fun r4 : Nat => if (v_X5_hasElement (F r4) x2) = 0 then kk (v_X6_refuse N 5) (fun q11 : Int32 × nT => (q11.1, (q11.2, F))) else kk (v_X5_put (F r4) x2 x3) (fun q9 : sT => (1, (N, va_up F r4 q9)))) else kk (v_X6_refuse N (v_X6_rowRefusal N F x1)) (fun q13 : Int32 × nT => (q13.1, (q13.2, F)))
def p_X6_set (N : nT) (F : fT) (x1 : Int32) (x2 : Int32) (x3 : Int64) : Prop := p_X6_rowRefusal N F x1 ∧ (if (v_X6_rowRefusal N F x1) = 0 then p_X6_shelfAt N x1 ∧ (oc (v_X6_shelfAt N x1) (p_X6_refuse N 5) (fun r4 : Nat => if (v_X5_hasElement (F r4) x2) = 0 then p_X6_refuse N 5 else p_X5_put (F r4) x2 x3)) else p_X6_refuse N (v_X6_rowRefusal N F x1))
set_option maxHeartbeats 800000 in
theorem c_X6_set {l : Launch} (G : zG) (P : pT) (a : Nat → Nat) (sz : Nat) (N : nT) (F : fT) (x1 : Int32) (x2 : Int32) (x3 : Int64) (hp : p_X6_set N F x1 x2 x3) : Met l yX6_set (.code yX6_set k_X6_set.1 k_X6_set.2.1 k_X6_set.2.2.2.1 :: TS) k_X6_set.2.2.2.2 (Pz G [.ref (a 0), .int x1, .int x2, .long x3] (Fw G (gX G P) (maW G a N ++ faW G a F) sz)) (Qwi G (fun r w => r = (v_X6_set N F x1 x2 x3).1 ∧ w = maW G a ((v_X6_set N F x1 x2 x3).2.1) ++ faW G a ((v_X6_set N F x1 x2 x3).2.2)) (va_A (maW G a N ++ faW G a F) sz)) 0 0 (va_A (maW G a N ++ faW G a F) sz) := by
  refine zmet (K := k_X6_set) (by decide +kernel) rfl rfl (fun Γ hl0 hQ hN hF => ?_)
  refine z_start (gX_ok G P) hF (fun hw => ?_)
  generalize va_A (maW G a N ++ faW G a F) sz = A at hQ hw ⊢
  obtain ⟨res, hv⟩ : ∃ res, v_X6_set N F x1 x2 x3 = res := ⟨_, rfl⟩
  rw [hv] at hQ
  unfold v_X6_set at hv
  unfold p_X6_set at hp
  show Z k_X6_set G Γ _ 0 0 [(0, .ref (a 0)), (1, .int x1), (2, .int x2), (3, .long x3)] 0 []
  refine z_aload_n dX6_set_0 rfl ?_
  refine z_iload_n dX6_set_1 rfl ?_
  obtain ⟨q1, hp⟩ := hp
  refine z_cvi (c_X6_rowRefusal G P a N F x1 q1) zc_X6_rowRefusal zv_X6_rowRefusal tw_m_RX6_82 (zrec_of wr_P 0 rfl rfl) (fr_all wr_P (wr_G hw)) (zroom_of rfl) rfl (Nat.le_of_ble_eq_true rfl) dX6_set_2 ?_
  refine z_istore (lv' := [(5, .int (v_X6_rowRefusal N F x1)), (0, .ref (a 0)), (1, .int x1), (2, .int x2), (3, .long x3)]) dX6_set_5 (Nat.le_of_ble_eq_true rfl) rfl ?_
  refine z_iload dX6_set_7 rfl ?_
  refine z_if_eq (tgt := 19) dX6_set_9 (by decide) (fun c2 => ?_) (fun c2 => ?_)
  · have hp := ip_t hp c2; have hv := it_t hv c2
    refine z_aload_n dX6_set_19 rfl ?_
    refine z_iload_n dX6_set_20 rfl ?_
    obtain ⟨q3, hp⟩ := hp
    refine z_cvq (c_X6_shelfAt G P a N x1 q3) zc_X6_shelfAt zv_X6_shelfAt tw_m_RX6_66 (zrec_of wr_P 0 rfl rfl) (fr_all (sub_P wr_P [0, 1, 2] rfl) (wr_G hw)) (zroom_of rfl) rfl (Nat.le_of_ble_eq_true rfl) dX6_set_21 ?_
    suffices z14 : ∀ r4 : Option Nat, r4 = (v_X6_shelfAt N x1) → (∀ k : Nat, r4 = some k → k < 8) → Z k_X6_set G Γ (wr G A Γ.2.2.1.1.heap (maW G a N ++ faW G a F)) 0 0 [(5, .int (v_X6_rowRefusal N F x1)), (0, .ref (a 0)), (1, .int x1), (2, .int x2), (3, .long x3)] 24 [va_rf (r4.map (fun k => sh a (30 + 2 * k) 0))] from z14 _ rfl (shelfAt_lt N x1)
    intro r4 hr4 fr4
    have hp := oc_pq hp hr4
    have hv := oc_vq hv hr4
    clear hr4
    rcases r4 with _ | r4
    · have hp := oc_pn hp; have hv := oc_n hv
      refine z_astoreN (lv' := [(6, .null), (5, .int (v_X6_rowRefusal N F x1)), (0, .ref (a 0)), (1, .int x1), (2, .int x2), (3, .long x3)]) dX6_set_24 (Nat.le_of_ble_eq_true rfl) rfl ?_
      refine z_aloadN dX6_set_26 rfl ?_
      refine z_ifnullN (tgt := 40) dX6_set_28 (by decide) ?_
      refine z_aload_n dX6_set_40 rfl ?_
      refine z_iconst (v := 5) dX6_set_41 rfl ?_
      have q5 := hp
      refine z_cwviD (ws' := maW G a ((v_X6_refuse N 5).2) ++ faW G a F) hw (fun sz => c_X6_refuse G P a sz N 5 q5) [0, 1, 2] [3, 4, 5, 6, 7, 8, 9, 10, 11, 12, 13, 14, 15, 16, 17, 18] [16, 17, 18, 0, 1, 2, 3, 4, 5, 6, 7, 8, 9, 10, 11, 12, 13, 14, 15] 19 rfl rfl rfl rfl zc_X6_refuse zv_X6_refuse tw_m_RX6_70 (zrec_of wr_P 0 rfl rfl) (zroom_of rfl) rfl (Nat.le_of_ble_eq_true rfl) dX6_set_42 ?_
      suffices z15 : ∀ q6 : Int32 × nT, q6 = (v_X6_refuse N 5) → Z k_X6_set G Γ (wr G A Γ.2.2.1.1.heap (maW G a q6.2 ++ faW G a F)) 0 0 [(6, .null), (5, .int (v_X6_rowRefusal N F x1)), (0, .ref (a 0)), (1, .int x1), (2, .int x2), (3, .long x3)] 45 [.int q6.1] from z15 _ rfl
      intro q6 hq6
      have hv := kk_vq hv hq6
      clear hq6
      subst hv; exact z_iret_W hQ rfl rfl rfl ⟨rfl, rfl⟩ dX6_set_45
    · have hp := oc_ps hp; have hv := oc_s hv
      have hr4 := fr4 _ rfl; clear fr4
      refine z_astore (lv' := [(6, .ref (sh a (30 + 2 * r4) 0)), (5, .int (v_X6_rowRefusal N F x1)), (0, .ref (a 0)), (1, .int x1), (2, .int x2), (3, .long x3)]) dX6_set_24 (Nat.le_of_ble_eq_true rfl) rfl ?_
      refine z_aload dX6_set_26 rfl ?_
      refine z_ifnull dX6_set_28 ?_
      refine z_aload dX6_set_31 rfl ?_
      refine z_iload_n dX6_set_33 rfl ?_
      refine z_cvi (c_X5_hasElement G P (sh a (30 + 2 * r4)) (F r4) x2 ) zc_X5_hasElement zv_X5_hasElement tw_m_RX6_85 (zrec_of (fam_P (a := a) hr4 (sub_P wr_P [3, 4, 5, 6, 7, 8, 9, 10, 11, 12, 13, 14, 15, 16, 17, 18] rfl)) 0 rfl rfl) (fr_all (fam_P (a := a) hr4 (sub_P wr_P [3, 4, 5, 6, 7, 8, 9, 10, 11, 12, 13, 14, 15, 16, 17, 18] rfl)) (wr_G hw)) (zroom_of rfl) rfl (Nat.le_of_ble_eq_true rfl) dX6_set_34 ?_
      refine z_if_ne (tgt := 46) dX6_set_37 (by decide) (fun c7 => ?_) (fun c7 => ?_)
      · have hp := ip_f hp c7; have hv := it_f hv c7
        refine z_aload dX6_set_46 rfl ?_
        refine z_iload_n dX6_set_48 rfl ?_
        refine z_lload_n dX6_set_49 rfl ?_
        refine z_out (X := maW G a N) (F := F) hr4 ?_
        have q8 := hp
        refine z_ctvvD (R0 := pick (maW G a N ++ shW G (sh a (30 + 2 * r4)) (F r4)) [0, 1, 2]) (W1 := maW G a N ++ shW G (sh a (30 + 2 * r4)) ((v_X5_put (F r4) x2 x3))) hw (fun sz => c_X5_put G P (sh a (30 + 2 * r4)) sz (F r4) x2 x3 q8) [3, 4] [0, 1, 2] [0, 1, 2, 3, 4] 5 (by decide +kernel) rfl rfl rfl rfl rfl zc_X5_put zv_X5_put tw_m_RX6_89 (zrec_of wr_P 3 rfl rfl) (zroom_of rfl) rfl (Nat.le_of_ble_eq_true rfl) dX6_set_50 ?_
        refine z_in hr4 ?_
        suffices z16 : ∀ q9 : sT, q9 = (v_X5_put (F r4) x2 x3) → Z k_X6_set G Γ (wr G A Γ.2.2.1.1.heap (maW G a N ++ faW G a (va_up F r4 q9))) 0 0 [(6, .ref (sh a (30 + 2 * r4) 0)), (5, .int (v_X6_rowRefusal N F x1)), (0, .ref (a 0)), (1, .int x1), (2, .int x2), (3, .long x3)] 53 [] from z16 _ rfl
        intro q9 hq9
        have hv := kk_vq hv hq9
        clear hq9
        refine z_iconst (v := 1) dX6_set_53 rfl ?_
        subst hv; exact z_iret_W hQ rfl rfl rfl ⟨rfl, rfl⟩ dX6_set_54
      · have hp := ip_t hp c7; have hv := it_t hv c7
        refine z_aload_n dX6_set_40 rfl ?_
        refine z_iconst (v := 5) dX6_set_41 rfl ?_
        have q10 := hp
        refine z_cwviD (ws' := maW G a ((v_X6_refuse N 5).2) ++ faW G a F) hw (fun sz => c_X6_refuse G P a sz N 5 q10) [0, 1, 2] [3, 4, 5, 6, 7, 8, 9, 10, 11, 12, 13, 14, 15, 16, 17, 18] [16, 17, 18, 0, 1, 2, 3, 4, 5, 6, 7, 8, 9, 10, 11, 12, 13, 14, 15] 19 rfl rfl rfl rfl zc_X6_refuse zv_X6_refuse tw_m_RX6_70 (zrec_of wr_P 0 rfl rfl) (zroom_of rfl) rfl (Nat.le_of_ble_eq_true rfl) dX6_set_42 ?_
        suffices z17 : ∀ q11 : Int32 × nT, q11 = (v_X6_refuse N 5) → Z k_X6_set G Γ (wr G A Γ.2.2.1.1.heap (maW G a q11.2 ++ faW G a F)) 0 0 [(6, .ref (sh a (30 + 2 * r4) 0)), (5, .int (v_X6_rowRefusal N F x1)), (0, .ref (a 0)), (1, .int x1), (2, .int x2), (3, .long x3)] 45 [.int q11.1] from z17 _ rfl
        intro q11 hq11
        have hv := kk_vq hv hq11
        clear hq11
        subst hv; exact z_iret_W hQ rfl rfl rfl ⟨rfl, rfl⟩ dX6_set_45
  · have hp := ip_f hp c2; have hv := it_f hv c2
    refine z_aload_n dX6_set_12 rfl ?_
    refine z_iload dX6_set_13 rfl ?_
    have q12 := hp
    refine z_cwviD (ws' := maW G a ((v_X6_refuse N (v_X6_rowRefusal N F x1)).2) ++ faW G a F) hw (fun sz => c_X6_refuse G P a sz N (v_X6_rowRefusal N F x1) q12) [0, 1, 2] [3, 4, 5, 6, 7, 8, 9, 10, 11, 12, 13, 14, 15, 16, 17, 18] [16, 17, 18, 0, 1, 2, 3, 4, 5, 6, 7, 8, 9, 10, 11, 12, 13, 14, 15] 19 rfl rfl rfl rfl zc_X6_refuse zv_X6_refuse tw_m_RX6_70 (zrec_of wr_P 0 rfl rfl) (zroom_of rfl) rfl (Nat.le_of_ble_eq_true rfl) dX6_set_15 ?_
    suffices z18 : ∀ q13 : Int32 × nT, q13 = (v_X6_refuse N (v_X6_rowRefusal N F x1)) → Z k_X6_set G Γ (wr G A Γ.2.2.1.1.heap (maW G a q13.2 ++ faW G a F)) 0 0 [(5, .int (v_X6_rowRefusal N F x1)), (0, .ref (a 0)), (1, .int x1), (2, .int x2), (3, .long x3)] 18 [.int q13.1] from z18 _ rfl
    intro q13 hq13
    have hv := kk_vq hv hq13
    clear hq13
    subst hv; exact z_iret_W hQ rfl rfl rfl ⟨rfl, rfl⟩ dX6_set_18
theorem dX6_copy_0 : decode cX6_copy 0 = .ok (.aload_n 0, 1) := by decide +kernel
theorem dX6_copy_1 : decode cX6_copy 1 = .ok (.iload_n 1, 1) := by decide +kernel
theorem dX6_copy_2 : decode cX6_copy 2 = .ok (.invokevirtual 66, 3) := by decide +kernel
theorem dX6_copy_5 : decode cX6_copy 5 = .ok (.astore 6, 2) := by decide +kernel
theorem dX6_copy_7 : decode cX6_copy 7 = .ok (.aload_n 0, 1) := by decide +kernel
theorem dX6_copy_8 : decode cX6_copy 8 = .ok (.iload_n 2, 1) := by decide +kernel
theorem dX6_copy_9 : decode cX6_copy 9 = .ok (.invokevirtual 66, 3) := by decide +kernel
theorem dX6_copy_12 : decode cX6_copy 12 = .ok (.astore 7, 2) := by decide +kernel
theorem dX6_copy_14 : decode cX6_copy 14 = .ok (.aload 6, 2) := by decide +kernel
theorem dX6_copy_16 : decode cX6_copy 16 = .ok (.ifnull 8, 3) := by decide +kernel
theorem dX6_copy_19 : decode cX6_copy 19 = .ok (.aload 7, 2) := by decide +kernel
theorem dX6_copy_21 : decode cX6_copy 21 = .ok (.ifnonnull 9, 3) := by decide +kernel
theorem dX6_copy_24 : decode cX6_copy 24 = .ok (.aload_n 0, 1) := by decide +kernel
theorem dX6_copy_25 : decode cX6_copy 25 = .ok (.iconst 1, 1) := by decide +kernel
theorem dX6_copy_26 : decode cX6_copy 26 = .ok (.invokevirtual 70, 3) := by decide +kernel
theorem dX6_copy_29 : decode cX6_copy 29 = .ok (.ireturn, 1) := by decide +kernel
theorem dX6_copy_30 : decode cX6_copy 30 = .ok (.aload 6, 2) := by decide +kernel
theorem dX6_copy_32 : decode cX6_copy 32 = .ok (.invokevirtual 93, 3) := by decide +kernel
theorem dX6_copy_35 : decode cX6_copy 35 = .ok (.ifCond .ne 40, 3) := by decide +kernel
theorem dX6_copy_38 : decode cX6_copy 38 = .ok (.aload 7, 2) := by decide +kernel
theorem dX6_copy_40 : decode cX6_copy 40 = .ok (.invokevirtual 93, 3) := by decide +kernel
theorem dX6_copy_43 : decode cX6_copy 43 = .ok (.ifCond .ne 32, 3) := by decide +kernel
theorem dX6_copy_46 : decode cX6_copy 46 = .ok (.aload 6, 2) := by decide +kernel
theorem dX6_copy_48 : decode cX6_copy 48 = .ok (.invokevirtual 97, 3) := by decide +kernel
theorem dX6_copy_51 : decode cX6_copy 51 = .ok (.ifCond .eq 30, 3) := by decide +kernel
theorem dX6_copy_54 : decode cX6_copy 54 = .ok (.aload 7, 2) := by decide +kernel
theorem dX6_copy_56 : decode cX6_copy 56 = .ok (.invokevirtual 97, 3) := by decide +kernel
theorem dX6_copy_59 : decode cX6_copy 59 = .ok (.ifCond .eq 22, 3) := by decide +kernel
theorem dX6_copy_62 : decode cX6_copy 62 = .ok (.aload 6, 2) := by decide +kernel
theorem dX6_copy_64 : decode cX6_copy 64 = .ok (.getfield 100, 3) := by decide +kernel
theorem dX6_copy_67 : decode cX6_copy 67 = .ok (.aload 7, 2) := by decide +kernel
theorem dX6_copy_69 : decode cX6_copy 69 = .ok (.getfield 100, 3) := by decide +kernel
theorem dX6_copy_72 : decode cX6_copy 72 = .ok (.if_icmp .eq 9, 3) := by decide +kernel
theorem dX6_copy_75 : decode cX6_copy 75 = .ok (.aload_n 0, 1) := by decide +kernel
theorem dX6_copy_76 : decode cX6_copy 76 = .ok (.iconst 2, 1) := by decide +kernel
theorem dX6_copy_77 : decode cX6_copy 77 = .ok (.invokevirtual 70, 3) := by decide +kernel
theorem dX6_copy_80 : decode cX6_copy 80 = .ok (.ireturn, 1) := by decide +kernel
theorem dX6_copy_81 : decode cX6_copy 81 = .ok (.aload 6, 2) := by decide +kernel
theorem dX6_copy_83 : decode cX6_copy 83 = .ok (.invokevirtual 97, 3) := by decide +kernel
theorem dX6_copy_86 : decode cX6_copy 86 = .ok (.ifCond .eq 11, 3) := by decide +kernel
theorem dX6_copy_89 : decode cX6_copy 89 = .ok (.aload 7, 2) := by decide +kernel
theorem dX6_copy_91 : decode cX6_copy 91 = .ok (.invokevirtual 97, 3) := by decide +kernel
theorem dX6_copy_94 : decode cX6_copy 94 = .ok (.ifCond .ne 9, 3) := by decide +kernel
theorem dX6_copy_97 : decode cX6_copy 97 = .ok (.aload_n 0, 1) := by decide +kernel
theorem dX6_copy_98 : decode cX6_copy 98 = .ok (.iconst 3, 1) := by decide +kernel
theorem dX6_copy_99 : decode cX6_copy 99 = .ok (.invokevirtual 70, 3) := by decide +kernel
theorem dX6_copy_102 : decode cX6_copy 102 = .ok (.ireturn, 1) := by decide +kernel
theorem dX6_copy_103 : decode cX6_copy 103 = .ok (.iload 5, 2) := by decide +kernel
theorem dX6_copy_105 : decode cX6_copy 105 = .ok (.ifCond .ge 9, 3) := by decide +kernel
theorem dX6_copy_108 : decode cX6_copy 108 = .ok (.aload_n 0, 1) := by decide +kernel
theorem dX6_copy_109 : decode cX6_copy 109 = .ok (.iconst 4, 1) := by decide +kernel
theorem dX6_copy_110 : decode cX6_copy 110 = .ok (.invokevirtual 70, 3) := by decide +kernel
theorem dX6_copy_113 : decode cX6_copy 113 = .ok (.ireturn, 1) := by decide +kernel
theorem dX6_copy_114 : decode cX6_copy 114 = .ok (.aload 6, 2) := by decide +kernel
theorem dX6_copy_116 : decode cX6_copy 116 = .ok (.iload_n 3, 1) := by decide +kernel
theorem dX6_copy_117 : decode cX6_copy 117 = .ok (.iload 5, 2) := by decide +kernel
theorem dX6_copy_119 : decode cX6_copy 119 = .ok (.i2l, 1) := by decide +kernel
theorem dX6_copy_120 : decode cX6_copy 120 = .ok (.invokevirtual 103, 3) := by decide +kernel
theorem dX6_copy_123 : decode cX6_copy 123 = .ok (.ifCond .eq 16, 3) := by decide +kernel
theorem dX6_copy_126 : decode cX6_copy 126 = .ok (.aload 7, 2) := by decide +kernel
theorem dX6_copy_128 : decode cX6_copy 128 = .ok (.iload 4, 2) := by decide +kernel
theorem dX6_copy_130 : decode cX6_copy 130 = .ok (.iload 5, 2) := by decide +kernel
theorem dX6_copy_132 : decode cX6_copy 132 = .ok (.i2l, 1) := by decide +kernel
theorem dX6_copy_133 : decode cX6_copy 133 = .ok (.invokevirtual 103, 3) := by decide +kernel
theorem dX6_copy_136 : decode cX6_copy 136 = .ok (.ifCond .ne 9, 3) := by decide +kernel
theorem dX6_copy_139 : decode cX6_copy 139 = .ok (.aload_n 0, 1) := by decide +kernel
theorem dX6_copy_140 : decode cX6_copy 140 = .ok (.iconst 5, 1) := by decide +kernel
theorem dX6_copy_141 : decode cX6_copy 141 = .ok (.invokevirtual 70, 3) := by decide +kernel
theorem dX6_copy_144 : decode cX6_copy 144 = .ok (.ireturn, 1) := by decide +kernel
theorem dX6_copy_145 : decode cX6_copy 145 = .ok (.aload 6, 2) := by decide +kernel
theorem dX6_copy_147 : decode cX6_copy 147 = .ok (.getfield 107, 3) := by decide +kernel
theorem dX6_copy_150 : decode cX6_copy 150 = .ok (.iload_n 3, 1) := by decide +kernel
theorem dX6_copy_151 : decode cX6_copy 151 = .ok (.aload 7, 2) := by decide +kernel
theorem dX6_copy_153 : decode cX6_copy 153 = .ok (.getfield 107, 3) := by decide +kernel
theorem dX6_copy_156 : decode cX6_copy 156 = .ok (.iload 4, 2) := by decide +kernel
theorem dX6_copy_158 : decode cX6_copy 158 = .ok (.iload 5, 2) := by decide +kernel
theorem dX6_copy_160 : decode cX6_copy 160 = .ok (.invokestatic 111, 3) := by decide +kernel
theorem dX6_copy_163 : decode cX6_copy 163 = .ok (.iconst 1, 1) := by decide +kernel
theorem dX6_copy_164 : decode cX6_copy 164 = .ok (.ireturn, 1) := by decide +kernel
abbrev k_X6_copy : zK := (cX6_copy, 8, RX6, (some .int), ({ frames := 1, cells := 0, slots := 0, locals := 64 } : Room))
theorem zc_X6_copy : zcal yX6_copy k_X6_copy.1 k_X6_copy.2.1 k_X6_copy.2.2.2.1 5 := ⟨tw_code_yX6_copy, tw_i_TollForHesitators, ⟨by decide +kernel, by decide +kernel⟩, by decide +kernel⟩
theorem zv_X6_copy : Cond.instanceMethod yX6_copy ∈ TS ∧ Cond.selects RX6 yX6_copy yX6_copy ∈ TS := ⟨tw_inst_yX6_copy, tw_s_yX6_copy⟩
def v_X6_copy (N : nT) (F : fT) (x1 : Int32) (x2 : Int32) (x3 : Int32) (x4 : Int32) (x5 : Int32) : Int32 × nT × fT := oc (v_X6_shelfAt N x1) (oc (v_X6_shelfAt N x2) (kk (v_X6_refuse N 1) (fun q6 : Int32 × nT => (q6.1, (q6.2, F)))) (fun r4 : Nat => kk (v_X6_refuse N 1) (fun q8 : Int32 × nT => (q8.1, (q8.2, F))))) (fun r2 : Nat => oc (v_X6_shelfAt N x2) (kk (v_X6_refuse N 1) (fun q12 : Int32 × nT => (q12.1, (q12.2, F)))) (fun r10 : Nat => if (v_X5_isComer (F r2)) = 0 then if (v_X5_isComer (F r10)) = 0 then if (v_X5_isRow (F r2)) = 0 then if (v_X5_isRow (F r2)) = 0 then kk (v_X6_refuse N 3) (fun q22 : Int32 × nT => (q22.1, (q22.2, F))) else if (v_X5_isRow (F r10)) = 0 then kk (v_X6_refuse N 3) (fun q39 : Int32 × nT => (q39.1, (q39.2, F))) else if 0 ≤ x5 then if (v_X5_spans (F r2) x3 x5.toInt64) = 0 then kk (v_X6_refuse N 5) (fun q27 : Int32 × nT => (q27.1, (q27.2, F))) else if (v_X5_spans (F r10) x4 x5.toInt64) = 0 then kk (v_X6_refuse N 5) (fun q35 : Int32 × nT => (q35.1, (q35.2, F))) else (1, (N, va_up F r10 (ssa (F r10) (va_cpy (F r2).2 (F r10).2 x3.toNatClampNeg x4.toNatClampNeg x5.toNatClampNeg)))) else kk (v_X6_refuse N 4) (fun q37 : Int32 × nT => (q37.1, (q37.2, F))) else if (v_X5_isRow (F r10)) = 0 then if (v_X5_isRow (F r2)) = 0 then kk (v_X6_refuse N 3) (fun q43 : Int32 × nT => (q43.1, (q43.2, F))) else if (v_X5_isRow (F r10)) = 0 then kk (v_X6_refuse N 3) (fun q60 : Int32 × nT => (q60.1, (q60.2, F))) else if 0 ≤ x5 then if (v_X5_spans (F r2) x3 x5.toInt64) = 0 then kk (v_X6_refuse N 5) (fun q48 : Int32 × nT => (q48.1, (q48.2, F))) else if (v_X5_spans (F r10) x4 x5.toInt64) = 0 then kk (v_X6_refuse N 5) (fun q56 : Int32 × nT => (q56.1, (q56.2, F))) else (1, (N, va_up F r10 (ssa (F r10) (va_cpy (F r2).2 (F r10).2 x3.toNatClampNeg x4.toNatClampNeg x5.toNatClampNeg)))) else kk (v_X6_refuse N 4) (fun q58 : Int32 × nT => (q58.1, (q58.2, F))) else if ((F r2).1 1) = ((F r10).1 1) then if (v_X5_isRow (F r2)) = 0 then kk (v_X6_refuse N 3) (fun q64 : Int32 × nT => (q64.1, (q64.2, F))) else if (v_X5_isRow (F r10)) = 0 then kk (v_X6_refuse N 3) (fun q81 : Int32 × nT => (q81.1, (q81.2, F))) else if 0 ≤ x5 then if (v_X5_spans (F r2) x3 x5.toInt64) = 0 then kk (v_X6_refuse N 5) (fun q69 : Int32 × nT => (q69.1, (q69.2, F))) else if (v_X5_spans (F r10) x4 x5.toInt64) = 0 then kk (v_X6_refuse N 5) (fun q77 : Int32 × nT => (q77.1, (q77.2, F))) else (1, (N, va_up F r10 (ssa (F r10) (va_cpy (F r2).2 (F r10).2 x3.toNatClampNeg x4.toNatClampNeg x5.toNatClampNeg)))) else kk (v_X6_refuse N 4) (fun q79 : Int32 × nT => (q79.1, (q79.2, F))) else kk (v_X6_refuse N 2) (fun q83 : Int32 × nT => (q83.1, (q83.2, F))) else kk (v_X6_refuse N 2) (fun q18 : Int32 × nT => (q18.1, (q18.2, F))) else kk (v_X6_refuse N 2) (fun q15 : Int32 × nT => (q15.1, (q15.2, F)))))
def p_X6_copy (N : nT) (F : fT) (x1 : Int32) (x2 : Int32) (x3 : Int32) (x4 : Int32) (x5 : Int32) : Prop := p_X6_shelfAt N x1 ∧ (oc (v_X6_shelfAt N x1) (p_X6_shelfAt N x2 ∧ (oc (v_X6_shelfAt N x2) (p_X6_refuse N 1) (fun r4 : Nat => p_X6_refuse N 1))) (fun r2 : Nat => p_X6_shelfAt N x2 ∧ (oc (v_X6_shelfAt N x2) (p_X6_refuse N 1) (fun r10 : Nat => if (v_X5_isComer (F r2)) = 0 then if (v_X5_isComer (F r10)) = 0 then if (v_X5_isRow (F r2)) = 0 then if (v_X5_isRow (F r2)) = 0 then p_X6_refuse N 3 else if (v_X5_isRow (F r10)) = 0 then p_X6_refuse N 3 else if 0 ≤ x5 then if (v_X5_spans (F r2) x3 x5.toInt64) = 0 then p_X6_refuse N 5 else if (v_X5_spans (F r10) x4 x5.toInt64) = 0 then p_X6_refuse N 5 else (¬ x3 < 0) ∧ ((¬ x4 < 0) ∧ ((¬ x5 < 0) ∧ ((x3.toNatClampNeg + x5.toNatClampNeg ≤ 160) ∧ (x4.toNatClampNeg + x5.toNatClampNeg ≤ 160)))) else p_X6_refuse N 4 else if (v_X5_isRow (F r10)) = 0 then if (v_X5_isRow (F r2)) = 0 then p_X6_refuse N 3 else if (v_X5_isRow (F r10)) = 0 then p_X6_refuse N 3 else if 0 ≤ x5 then if (v_X5_spans (F r2) x3 x5.toInt64) = 0 then p_X6_refuse N 5 else if (v_X5_spans (F r10) x4 x5.toInt64) = 0 then p_X6_refuse N 5 else (¬ x3 < 0) ∧ ((¬ x4 < 0) ∧ ((¬ x5 < 0) ∧ ((x3.toNatClampNeg + x5.toNatClampNeg ≤ 160) ∧ (x4.toNatClampNeg + x5.toNatClampNeg ≤ 160)))) else p_X6_refuse N 4 else if ((F r2).1 1) = ((F r10).1 1) then if (v_X5_isRow (F r2)) = 0 then p_X6_refuse N 3 else if (v_X5_isRow (F r10)) = 0 then p_X6_refuse N 3 else if 0 ≤ x5 then if (v_X5_spans (F r2) x3 x5.toInt64) = 0 then p_X6_refuse N 5 else if (v_X5_spans (F r10) x4 x5.toInt64) = 0 then p_X6_refuse N 5 else (¬ x3 < 0) ∧ ((¬ x4 < 0) ∧ ((¬ x5 < 0) ∧ ((x3.toNatClampNeg + x5.toNatClampNeg ≤ 160) ∧ (x4.toNatClampNeg + x5.toNatClampNeg ≤ 160)))) else p_X6_refuse N 4 else p_X6_refuse N 2 else p_X6_refuse N 2 else p_X6_refuse N 2))))
set_option maxHeartbeats 800000 in
theorem c_X6_copy {l : Launch} (G : zG) (P : pT) (a : Nat → Nat) (sz : Nat) (N : nT) (F : fT) (x1 : Int32) (x2 : Int32) (x3 : Int32) (x4 : Int32) (x5 : Int32) (hp : p_X6_copy N F x1 x2 x3 x4 x5) : Met l yX6_copy (.code yX6_copy k_X6_copy.1 k_X6_copy.2.1 k_X6_copy.2.2.2.1 :: TS) k_X6_copy.2.2.2.2 (Pz G [.ref (a 0), .int x1, .int x2, .int x3, .int x4, .int x5] (Fw G (gX G P) (maW G a N ++ faW G a F) sz)) (Qwi G (fun r w => r = (v_X6_copy N F x1 x2 x3 x4 x5).1 ∧ w = maW G a ((v_X6_copy N F x1 x2 x3 x4 x5).2.1) ++ faW G a ((v_X6_copy N F x1 x2 x3 x4 x5).2.2)) (va_A (maW G a N ++ faW G a F) sz)) 0 0 (va_A (maW G a N ++ faW G a F) sz) := by
  refine zmet (K := k_X6_copy) (by decide +kernel) rfl rfl (fun Γ hl0 hQ hN hF => ?_)
  refine z_start (gX_ok G P) hF (fun hw => ?_)
  generalize va_A (maW G a N ++ faW G a F) sz = A at hQ hw ⊢
  obtain ⟨res, hv⟩ : ∃ res, v_X6_copy N F x1 x2 x3 x4 x5 = res := ⟨_, rfl⟩
  rw [hv] at hQ
  unfold v_X6_copy at hv
  unfold p_X6_copy at hp
  show Z k_X6_copy G Γ _ 0 0 [(0, .ref (a 0)), (1, .int x1), (2, .int x2), (3, .int x3), (4, .int x4), (5, .int x5)] 0 []
  refine z_aload_n dX6_copy_0 rfl ?_
  refine z_iload_n dX6_copy_1 rfl ?_
  obtain ⟨q1, hp⟩ := hp
  refine z_cvq (c_X6_shelfAt G P a N x1 q1) zc_X6_shelfAt zv_X6_shelfAt tw_m_RX6_66 (zrec_of wr_P 0 rfl rfl) (fr_all (sub_P wr_P [0, 1, 2] rfl) (wr_G hw)) (zroom_of rfl) rfl (Nat.le_of_ble_eq_true rfl) dX6_copy_2 ?_
  suffices z84 : ∀ r2 : Option Nat, r2 = (v_X6_shelfAt N x1) → (∀ k : Nat, r2 = some k → k < 8) → Z k_X6_copy G Γ (wr G A Γ.2.2.1.1.heap (maW G a N ++ faW G a F)) 0 0 [(0, .ref (a 0)), (1, .int x1), (2, .int x2), (3, .int x3), (4, .int x4), (5, .int x5)] 5 [va_rf (r2.map (fun k => sh a (30 + 2 * k) 0))] from z84 _ rfl (shelfAt_lt N x1)
  intro r2 hr2 fr2
  have hp := oc_pq hp hr2
  have hv := oc_vq hv hr2
  clear hr2
  rcases r2 with _ | r2
  · have hp := oc_pn hp; have hv := oc_n hv
    refine z_astoreN (lv' := [(6, .null), (0, .ref (a 0)), (1, .int x1), (2, .int x2), (3, .int x3), (4, .int x4), (5, .int x5)]) dX6_copy_5 (Nat.le_of_ble_eq_true rfl) rfl ?_
    refine z_aload_n dX6_copy_7 rfl ?_
    refine z_iload_n dX6_copy_8 rfl ?_
    obtain ⟨q3, hp⟩ := hp
    refine z_cvq (c_X6_shelfAt G P a N x2 q3) zc_X6_shelfAt zv_X6_shelfAt tw_m_RX6_66 (zrec_of wr_P 0 rfl rfl) (fr_all (sub_P wr_P [0, 1, 2] rfl) (wr_G hw)) (zroom_of rfl) rfl (Nat.le_of_ble_eq_true rfl) dX6_copy_9 ?_
    suffices z85 : ∀ r4 : Option Nat, r4 = (v_X6_shelfAt N x2) → (∀ k : Nat, r4 = some k → k < 8) → Z k_X6_copy G Γ (wr G A Γ.2.2.1.1.heap (maW G a N ++ faW G a F)) 0 0 [(6, .null), (0, .ref (a 0)), (1, .int x1), (2, .int x2), (3, .int x3), (4, .int x4), (5, .int x5)] 12 [va_rf (r4.map (fun k => sh a (30 + 2 * k) 0))] from z85 _ rfl (shelfAt_lt N x2)
    intro r4 hr4 fr4
    have hp := oc_pq hp hr4
    have hv := oc_vq hv hr4
    clear hr4
    rcases r4 with _ | r4
    · have hp := oc_pn hp; have hv := oc_n hv
      refine z_astoreN (lv' := [(7, .null), (6, .null), (0, .ref (a 0)), (1, .int x1), (2, .int x2), (3, .int x3), (4, .int x4), (5, .int x5)]) dX6_copy_12 (Nat.le_of_ble_eq_true rfl) rfl ?_
      refine z_aloadN dX6_copy_14 rfl ?_
      refine z_ifnullN (tgt := 24) dX6_copy_16 (by decide) ?_
      refine z_aload_n dX6_copy_24 rfl ?_
      refine z_iconst (v := 1) dX6_copy_25 rfl ?_
      have q5 := hp
      refine z_cwviD (ws' := maW G a ((v_X6_refuse N 1).2) ++ faW G a F) hw (fun sz => c_X6_refuse G P a sz N 1 q5) [0, 1, 2] [3, 4, 5, 6, 7, 8, 9, 10, 11, 12, 13, 14, 15, 16, 17, 18] [16, 17, 18, 0, 1, 2, 3, 4, 5, 6, 7, 8, 9, 10, 11, 12, 13, 14, 15] 19 rfl rfl rfl rfl zc_X6_refuse zv_X6_refuse tw_m_RX6_70 (zrec_of wr_P 0 rfl rfl) (zroom_of rfl) rfl (Nat.le_of_ble_eq_true rfl) dX6_copy_26 ?_
      suffices z86 : ∀ q6 : Int32 × nT, q6 = (v_X6_refuse N 1) → Z k_X6_copy G Γ (wr G A Γ.2.2.1.1.heap (maW G a q6.2 ++ faW G a F)) 0 0 [(7, .null), (6, .null), (0, .ref (a 0)), (1, .int x1), (2, .int x2), (3, .int x3), (4, .int x4), (5, .int x5)] 29 [.int q6.1] from z86 _ rfl
      intro q6 hq6
      have hv := kk_vq hv hq6
      clear hq6
      subst hv; exact z_iret_W hQ rfl rfl rfl ⟨rfl, rfl⟩ dX6_copy_29
    · have hp := oc_ps hp; have hv := oc_s hv
      have hr4 := fr4 _ rfl; clear fr4
      refine z_astore (lv' := [(7, .ref (sh a (30 + 2 * r4) 0)), (6, .null), (0, .ref (a 0)), (1, .int x1), (2, .int x2), (3, .int x3), (4, .int x4), (5, .int x5)]) dX6_copy_12 (Nat.le_of_ble_eq_true rfl) rfl ?_
      refine z_aloadN dX6_copy_14 rfl ?_
      refine z_ifnullN (tgt := 24) dX6_copy_16 (by decide) ?_
      refine z_aload_n dX6_copy_24 rfl ?_
      refine z_iconst (v := 1) dX6_copy_25 rfl ?_
      have q7 := hp
      refine z_cwviD (ws' := maW G a ((v_X6_refuse N 1).2) ++ faW G a F) hw (fun sz => c_X6_refuse G P a sz N 1 q7) [0, 1, 2] [3, 4, 5, 6, 7, 8, 9, 10, 11, 12, 13, 14, 15, 16, 17, 18] [16, 17, 18, 0, 1, 2, 3, 4, 5, 6, 7, 8, 9, 10, 11, 12, 13, 14, 15] 19 rfl rfl rfl rfl zc_X6_refuse zv_X6_refuse tw_m_RX6_70 (zrec_of wr_P 0 rfl rfl) (zroom_of rfl) rfl (Nat.le_of_ble_eq_true rfl) dX6_copy_26 ?_
      suffices z87 : ∀ q8 : Int32 × nT, q8 = (v_X6_refuse N 1) → Z k_X6_copy G Γ (wr G A Γ.2.2.1.1.heap (maW G a q8.2 ++ faW G a F)) 0 0 [(7, .ref (sh a (30 + 2 * r4) 0)), (6, .null), (0, .ref (a 0)), (1, .int x1), (2, .int x2), (3, .int x3), (4, .int x4), (5, .int x5)] 29 [.int q8.1] from z87 _ rfl
      intro q8 hq8
      have hv := kk_vq hv hq8
      clear hq8
      subst hv; exact z_iret_W hQ rfl rfl rfl ⟨rfl, rfl⟩ dX6_copy_29
  · have hp := oc_ps hp; have hv := oc_s hv
    have hr2 := fr2 _ rfl; clear fr2
    refine z_astore (lv' := [(6, .ref (sh a (30 + 2 * r2) 0)), (0, .ref (a 0)), (1, .int x1), (2, .int x2), (3, .int x3), (4, .int x4), (5, .int x5)]) dX6_copy_5 (Nat.le_of_ble_eq_true rfl) rfl ?_
    refine z_aload_n dX6_copy_7 rfl ?_
    refine z_iload_n dX6_copy_8 rfl ?_
    obtain ⟨q9, hp⟩ := hp
    refine z_cvq (c_X6_shelfAt G P a N x2 q9) zc_X6_shelfAt zv_X6_shelfAt tw_m_RX6_66 (zrec_of wr_P 0 rfl rfl) (fr_all (sub_P wr_P [0, 1, 2] rfl) (wr_G hw)) (zroom_of rfl) rfl (Nat.le_of_ble_eq_true rfl) dX6_copy_9 ?_
    suffices z88 : ∀ r10 : Option Nat, r10 = (v_X6_shelfAt N x2) → (∀ k : Nat, r10 = some k → k < 8) → Z k_X6_copy G Γ (wr G A Γ.2.2.1.1.heap (maW G a N ++ faW G a F)) 0 0 [(6, .ref (sh a (30 + 2 * r2) 0)), (0, .ref (a 0)), (1, .int x1), (2, .int x2), (3, .int x3), (4, .int x4), (5, .int x5)] 12 [va_rf (r10.map (fun k => sh a (30 + 2 * k) 0))] from z88 _ rfl (shelfAt_lt N x2)
    intro r10 hr10 fr10
    have hp := oc_pq hp hr10
    have hv := oc_vq hv hr10
    clear hr10
    rcases r10 with _ | r10
    · have hp := oc_pn hp; have hv := oc_n hv
      refine z_astoreN (lv' := [(7, .null), (6, .ref (sh a (30 + 2 * r2) 0)), (0, .ref (a 0)), (1, .int x1), (2, .int x2), (3, .int x3), (4, .int x4), (5, .int x5)]) dX6_copy_12 (Nat.le_of_ble_eq_true rfl) rfl ?_
      refine z_aload dX6_copy_14 rfl ?_
      refine z_ifnull dX6_copy_16 ?_
      refine z_aloadN dX6_copy_19 rfl ?_
      refine z_ifnonnullN dX6_copy_21 ?_
      refine z_aload_n dX6_copy_24 rfl ?_
      refine z_iconst (v := 1) dX6_copy_25 rfl ?_
      have q11 := hp
      refine z_cwviD (ws' := maW G a ((v_X6_refuse N 1).2) ++ faW G a F) hw (fun sz => c_X6_refuse G P a sz N 1 q11) [0, 1, 2] [3, 4, 5, 6, 7, 8, 9, 10, 11, 12, 13, 14, 15, 16, 17, 18] [16, 17, 18, 0, 1, 2, 3, 4, 5, 6, 7, 8, 9, 10, 11, 12, 13, 14, 15] 19 rfl rfl rfl rfl zc_X6_refuse zv_X6_refuse tw_m_RX6_70 (zrec_of wr_P 0 rfl rfl) (zroom_of rfl) rfl (Nat.le_of_ble_eq_true rfl) dX6_copy_26 ?_
      suffices z89 : ∀ q12 : Int32 × nT, q12 = (v_X6_refuse N 1) → Z k_X6_copy G Γ (wr G A Γ.2.2.1.1.heap (maW G a q12.2 ++ faW G a F)) 0 0 [(7, .null), (6, .ref (sh a (30 + 2 * r2) 0)), (0, .ref (a 0)), (1, .int x1), (2, .int x2), (3, .int x3), (4, .int x4), (5, .int x5)] 29 [.int q12.1] from z89 _ rfl
      intro q12 hq12
      have hv := kk_vq hv hq12
      clear hq12
      subst hv; exact z_iret_W hQ rfl rfl rfl ⟨rfl, rfl⟩ dX6_copy_29
    · have hp := oc_ps hp; have hv := oc_s hv
      have hr10 := fr10 _ rfl; clear fr10
      refine z_astore (lv' := [(7, .ref (sh a (30 + 2 * r10) 0)), (6, .ref (sh a (30 + 2 * r2) 0)), (0, .ref (a 0)), (1, .int x1), (2, .int x2), (3, .int x3), (4, .int x4), (5, .int x5)]) dX6_copy_12 (Nat.le_of_ble_eq_true rfl) rfl ?_
      refine z_aload dX6_copy_14 rfl ?_
      refine z_ifnull dX6_copy_16 ?_
      refine z_aload dX6_copy_19 rfl ?_
      refine z_ifnonnull (tgt := 30) dX6_copy_21 (by decide) ?_
      refine z_aload dX6_copy_30 rfl ?_
      refine z_cvi (c_X5_isComer G P (sh a (30 + 2 * r2)) (F r2) ) zc_X5_isComer zv_X5_isComer tw_m_RX6_93 (zrec_of (fam_P (a := a) hr2 (sub_P wr_P [3, 4, 5, 6, 7, 8, 9, 10, 11, 12, 13, 14, 15, 16, 17, 18] rfl)) 0 rfl rfl) (fr_all (fam_P (a := a) hr2 (sub_P wr_P [3, 4, 5, 6, 7, 8, 9, 10, 11, 12, 13, 14, 15, 16, 17, 18] rfl)) (wr_G hw)) (zroom_of rfl) rfl (Nat.le_of_ble_eq_true rfl) dX6_copy_32 ?_
      refine z_if_ne (tgt := 75) dX6_copy_35 (by decide) (fun c13 => ?_) (fun c13 => ?_)
      · have hp := ip_f hp c13; have hv := it_f hv c13
        refine z_aload_n dX6_copy_75 rfl ?_
        refine z_iconst (v := 2) dX6_copy_76 rfl ?_
        have q14 := hp
        refine z_cwviD (ws' := maW G a ((v_X6_refuse N 2).2) ++ faW G a F) hw (fun sz => c_X6_refuse G P a sz N 2 q14) [0, 1, 2] [3, 4, 5, 6, 7, 8, 9, 10, 11, 12, 13, 14, 15, 16, 17, 18] [16, 17, 18, 0, 1, 2, 3, 4, 5, 6, 7, 8, 9, 10, 11, 12, 13, 14, 15] 19 rfl rfl rfl rfl zc_X6_refuse zv_X6_refuse tw_m_RX6_70 (zrec_of wr_P 0 rfl rfl) (zroom_of rfl) rfl (Nat.le_of_ble_eq_true rfl) dX6_copy_77 ?_
        suffices z90 : ∀ q15 : Int32 × nT, q15 = (v_X6_refuse N 2) → Z k_X6_copy G Γ (wr G A Γ.2.2.1.1.heap (maW G a q15.2 ++ faW G a F)) 0 0 [(7, .ref (sh a (30 + 2 * r10) 0)), (6, .ref (sh a (30 + 2 * r2) 0)), (0, .ref (a 0)), (1, .int x1), (2, .int x2), (3, .int x3), (4, .int x4), (5, .int x5)] 80 [.int q15.1] from z90 _ rfl
        intro q15 hq15
        have hv := kk_vq hv hq15
        clear hq15
        subst hv; exact z_iret_W hQ rfl rfl rfl ⟨rfl, rfl⟩ dX6_copy_80
      · have hp := ip_t hp c13; have hv := it_t hv c13
        refine z_aload dX6_copy_38 rfl ?_
        refine z_cvi (c_X5_isComer G P (sh a (30 + 2 * r10)) (F r10) ) zc_X5_isComer zv_X5_isComer tw_m_RX6_93 (zrec_of (fam_P (a := a) hr10 (sub_P wr_P [3, 4, 5, 6, 7, 8, 9, 10, 11, 12, 13, 14, 15, 16, 17, 18] rfl)) 0 rfl rfl) (fr_all (fam_P (a := a) hr10 (sub_P wr_P [3, 4, 5, 6, 7, 8, 9, 10, 11, 12, 13, 14, 15, 16, 17, 18] rfl)) (wr_G hw)) (zroom_of rfl) rfl (Nat.le_of_ble_eq_true rfl) dX6_copy_40 ?_
        refine z_if_ne (tgt := 75) dX6_copy_43 (by decide) (fun c16 => ?_) (fun c16 => ?_)
        · have hp := ip_f hp c16; have hv := it_f hv c16
          refine z_aload_n dX6_copy_75 rfl ?_
          refine z_iconst (v := 2) dX6_copy_76 rfl ?_
          have q17 := hp
          refine z_cwviD (ws' := maW G a ((v_X6_refuse N 2).2) ++ faW G a F) hw (fun sz => c_X6_refuse G P a sz N 2 q17) [0, 1, 2] [3, 4, 5, 6, 7, 8, 9, 10, 11, 12, 13, 14, 15, 16, 17, 18] [16, 17, 18, 0, 1, 2, 3, 4, 5, 6, 7, 8, 9, 10, 11, 12, 13, 14, 15] 19 rfl rfl rfl rfl zc_X6_refuse zv_X6_refuse tw_m_RX6_70 (zrec_of wr_P 0 rfl rfl) (zroom_of rfl) rfl (Nat.le_of_ble_eq_true rfl) dX6_copy_77 ?_
          suffices z91 : ∀ q18 : Int32 × nT, q18 = (v_X6_refuse N 2) → Z k_X6_copy G Γ (wr G A Γ.2.2.1.1.heap (maW G a q18.2 ++ faW G a F)) 0 0 [(7, .ref (sh a (30 + 2 * r10) 0)), (6, .ref (sh a (30 + 2 * r2) 0)), (0, .ref (a 0)), (1, .int x1), (2, .int x2), (3, .int x3), (4, .int x4), (5, .int x5)] 80 [.int q18.1] from z91 _ rfl
          intro q18 hq18
          have hv := kk_vq hv hq18
          clear hq18
          subst hv; exact z_iret_W hQ rfl rfl rfl ⟨rfl, rfl⟩ dX6_copy_80
        · have hp := ip_t hp c16; have hv := it_t hv c16
          refine z_aload dX6_copy_46 rfl ?_
          refine z_cvi (c_X5_isRow G P (sh a (30 + 2 * r2)) (F r2) ) zc_X5_isRow zv_X5_isRow tw_m_RX6_97 (zrec_of (fam_P (a := a) hr2 (sub_P wr_P [3, 4, 5, 6, 7, 8, 9, 10, 11, 12, 13, 14, 15, 16, 17, 18] rfl)) 0 rfl rfl) (fr_all (fam_P (a := a) hr2 (sub_P wr_P [3, 4, 5, 6, 7, 8, 9, 10, 11, 12, 13, 14, 15, 16, 17, 18] rfl)) (wr_G hw)) (zroom_of rfl) rfl (Nat.le_of_ble_eq_true rfl) dX6_copy_48 ?_
          refine z_if_eq (tgt := 81) dX6_copy_51 (by decide) (fun c19 => ?_) (fun c19 => ?_)
          · have hp := ip_t hp c19; have hv := it_t hv c19
            refine z_aload dX6_copy_81 rfl ?_
            refine z_cvi (c_X5_isRow G P (sh a (30 + 2 * r2)) (F r2) ) zc_X5_isRow zv_X5_isRow tw_m_RX6_97 (zrec_of (fam_P (a := a) hr2 (sub_P wr_P [3, 4, 5, 6, 7, 8, 9, 10, 11, 12, 13, 14, 15, 16, 17, 18] rfl)) 0 rfl rfl) (fr_all (fam_P (a := a) hr2 (sub_P wr_P [3, 4, 5, 6, 7, 8, 9, 10, 11, 12, 13, 14, 15, 16, 17, 18] rfl)) (wr_G hw)) (zroom_of rfl) rfl (Nat.le_of_ble_eq_true rfl) dX6_copy_83 ?_
            refine z_if_eq (tgt := 97) dX6_copy_86 (by decide) (fun c20 => ?_) (fun c20 => ?_)
            · have hp := ip_t hp c20; have hv := it_t hv c20
              refine z_aload_n dX6_copy_97 rfl ?_
              refine z_iconst (v := 3) dX6_copy_98 rfl ?_
              have q21 := hp
              refine z_cwviD (ws' := maW G a ((v_X6_refuse N 3).2) ++ faW G a F) hw (fun sz => c_X6_refuse G P a sz N 3 q21) [0, 1, 2] [3, 4, 5, 6, 7, 8, 9, 10, 11, 12, 13, 14, 15, 16, 17, 18] [16, 17, 18, 0, 1, 2, 3, 4, 5, 6, 7, 8, 9, 10, 11, 12, 13, 14, 15] 19 rfl rfl rfl rfl zc_X6_refuse zv_X6_refuse tw_m_RX6_70 (zrec_of wr_P 0 rfl rfl) (zroom_of rfl) rfl (Nat.le_of_ble_eq_true rfl) dX6_copy_99 ?_
              suffices z92 : ∀ q22 : Int32 × nT, q22 = (v_X6_refuse N 3) → Z k_X6_copy G Γ (wr G A Γ.2.2.1.1.heap (maW G a q22.2 ++ faW G a F)) 0 0 [(7, .ref (sh a (30 + 2 * r10) 0)), (6, .ref (sh a (30 + 2 * r2) 0)), (0, .ref (a 0)), (1, .int x1), (2, .int x2), (3, .int x3), (4, .int x4), (5, .int x5)] 102 [.int q22.1] from z92 _ rfl
              intro q22 hq22
              have hv := kk_vq hv hq22
              clear hq22
              subst hv; exact z_iret_W hQ rfl rfl rfl ⟨rfl, rfl⟩ dX6_copy_102
            · have hp := ip_f hp c20; have hv := it_f hv c20
              refine z_aload dX6_copy_89 rfl ?_
              refine z_cvi (c_X5_isRow G P (sh a (30 + 2 * r10)) (F r10) ) zc_X5_isRow zv_X5_isRow tw_m_RX6_97 (zrec_of (fam_P (a := a) hr10 (sub_P wr_P [3, 4, 5, 6, 7, 8, 9, 10, 11, 12, 13, 14, 15, 16, 17, 18] rfl)) 0 rfl rfl) (fr_all (fam_P (a := a) hr10 (sub_P wr_P [3, 4, 5, 6, 7, 8, 9, 10, 11, 12, 13, 14, 15, 16, 17, 18] rfl)) (wr_G hw)) (zroom_of rfl) rfl (Nat.le_of_ble_eq_true rfl) dX6_copy_91 ?_
              refine z_if_ne (tgt := 103) dX6_copy_94 (by decide) (fun c23 => ?_) (fun c23 => ?_)
              · have hp := ip_f hp c23; have hv := it_f hv c23
                refine z_iload dX6_copy_103 rfl ?_
                refine z_if_ge (tgt := 114) dX6_copy_105 (by decide) (fun c24 => ?_) (fun c24 => ?_)
                · have hp := ip_t hp c24; have hv := it_t hv c24
                  refine z_aload dX6_copy_114 rfl ?_
                  refine z_iload_n dX6_copy_116 rfl ?_
                  refine z_iload dX6_copy_117 rfl ?_
                  refine z_i2l dX6_copy_119 ?_
                  refine z_cvi (c_X5_spans G P (sh a (30 + 2 * r2)) (F r2) x3 x5.toInt64 ) zc_X5_spans zv_X5_spans tw_m_RX6_103 (zrec_of (fam_P (a := a) hr2 (sub_P wr_P [3, 4, 5, 6, 7, 8, 9, 10, 11, 12, 13, 14, 15, 16, 17, 18] rfl)) 0 rfl rfl) (fr_all (fam_P (a := a) hr2 (sub_P wr_P [3, 4, 5, 6, 7, 8, 9, 10, 11, 12, 13, 14, 15, 16, 17, 18] rfl)) (wr_G hw)) (zroom_of rfl) rfl (Nat.le_of_ble_eq_true rfl) dX6_copy_120 ?_
                  refine z_if_eq (tgt := 139) dX6_copy_123 (by decide) (fun c25 => ?_) (fun c25 => ?_)
                  · have hp := ip_t hp c25; have hv := it_t hv c25
                    refine z_aload_n dX6_copy_139 rfl ?_
                    refine z_iconst (v := 5) dX6_copy_140 rfl ?_
                    have q26 := hp
                    refine z_cwviD (ws' := maW G a ((v_X6_refuse N 5).2) ++ faW G a F) hw (fun sz => c_X6_refuse G P a sz N 5 q26) [0, 1, 2] [3, 4, 5, 6, 7, 8, 9, 10, 11, 12, 13, 14, 15, 16, 17, 18] [16, 17, 18, 0, 1, 2, 3, 4, 5, 6, 7, 8, 9, 10, 11, 12, 13, 14, 15] 19 rfl rfl rfl rfl zc_X6_refuse zv_X6_refuse tw_m_RX6_70 (zrec_of wr_P 0 rfl rfl) (zroom_of rfl) rfl (Nat.le_of_ble_eq_true rfl) dX6_copy_141 ?_
                    suffices z93 : ∀ q27 : Int32 × nT, q27 = (v_X6_refuse N 5) → Z k_X6_copy G Γ (wr G A Γ.2.2.1.1.heap (maW G a q27.2 ++ faW G a F)) 0 0 [(7, .ref (sh a (30 + 2 * r10) 0)), (6, .ref (sh a (30 + 2 * r2) 0)), (0, .ref (a 0)), (1, .int x1), (2, .int x2), (3, .int x3), (4, .int x4), (5, .int x5)] 144 [.int q27.1] from z93 _ rfl
                    intro q27 hq27
                    have hv := kk_vq hv hq27
                    clear hq27
                    subst hv; exact z_iret_W hQ rfl rfl rfl ⟨rfl, rfl⟩ dX6_copy_144
                  · have hp := ip_f hp c25; have hv := it_f hv c25
                    refine z_aload dX6_copy_126 rfl ?_
                    refine z_iload dX6_copy_128 rfl ?_
                    refine z_iload dX6_copy_130 rfl ?_
                    refine z_i2l dX6_copy_132 ?_
                    refine z_cvi (c_X5_spans G P (sh a (30 + 2 * r10)) (F r10) x4 x5.toInt64 ) zc_X5_spans zv_X5_spans tw_m_RX6_103 (zrec_of (fam_P (a := a) hr10 (sub_P wr_P [3, 4, 5, 6, 7, 8, 9, 10, 11, 12, 13, 14, 15, 16, 17, 18] rfl)) 0 rfl rfl) (fr_all (fam_P (a := a) hr10 (sub_P wr_P [3, 4, 5, 6, 7, 8, 9, 10, 11, 12, 13, 14, 15, 16, 17, 18] rfl)) (wr_G hw)) (zroom_of rfl) rfl (Nat.le_of_ble_eq_true rfl) dX6_copy_133 ?_
                    refine z_if_ne (tgt := 145) dX6_copy_136 (by decide) (fun c28 => ?_) (fun c28 => ?_)
                    · have hp := ip_f hp c28; have hv := it_f hv c28
                      refine z_aload dX6_copy_145 rfl ?_
                      refine z_get (v := .ref ((sh a (30 + 2 * r2)) 1)) (fam_P (a := a) hr2 (sub_P wr_P [3, 4, 5, 6, 7, 8, 9, 10, 11, 12, 13, 14, 15, 16, 17, 18] rfl)) 0 rfl rfl uin_X5 0 (Nat.le_of_ble_eq_true rfl) tw_f_RX6_107 rfl rfl dX6_copy_147 ?_
                      refine z_iload_n dX6_copy_150 rfl ?_
                      refine z_aload dX6_copy_151 rfl ?_
                      refine z_get (v := .ref ((sh a (30 + 2 * r10)) 1)) (fam_P (a := a) hr10 (sub_P wr_P [3, 4, 5, 6, 7, 8, 9, 10, 11, 12, 13, 14, 15, 16, 17, 18] rfl)) 0 rfl rfl uin_X5 0 (Nat.le_of_ble_eq_true rfl) tw_f_RX6_107 rfl rfl dX6_copy_153 ?_
                      refine z_iload dX6_copy_156 rfl ?_
                      refine z_iload dX6_copy_158 rfl ?_
                      obtain ⟨q29, hp⟩ := hp
                      skip
                      obtain ⟨q30, hp⟩ := hp
                      skip
                      obtain ⟨q31, hp⟩ := hp
                      skip
                      obtain ⟨q32, hp⟩ := hp
                      skip
                      have q33 := hp
                      skip
                      refine z_copyl (F := va_cpy (F r2).2 (F r10).2 x3.toNatClampNeg x4.toNatClampNeg x5.toNatClampNeg) tw_m_RX6_111 tw_native tw_st_arraycopyName tw_i_java_lang_System _ _ (fam_at hr2 (maW G a N)) (fam_at hr10 (maW G a N)) q29 q30 q31 q32 q33 rfl (fam_set hr10 (maW G a N) _) ⟨Nat.le_of_ble_eq_true rfl, by decide⟩ dX6_copy_160 ?_
                      refine z_iconst (v := 1) dX6_copy_163 rfl ?_
                      subst hv; exact z_iret_W hQ rfl rfl rfl ⟨rfl, rfl⟩ dX6_copy_164
                    · have hp := ip_t hp c28; have hv := it_t hv c28
                      refine z_aload_n dX6_copy_139 rfl ?_
                      refine z_iconst (v := 5) dX6_copy_140 rfl ?_
                      have q34 := hp
                      refine z_cwviD (ws' := maW G a ((v_X6_refuse N 5).2) ++ faW G a F) hw (fun sz => c_X6_refuse G P a sz N 5 q34) [0, 1, 2] [3, 4, 5, 6, 7, 8, 9, 10, 11, 12, 13, 14, 15, 16, 17, 18] [16, 17, 18, 0, 1, 2, 3, 4, 5, 6, 7, 8, 9, 10, 11, 12, 13, 14, 15] 19 rfl rfl rfl rfl zc_X6_refuse zv_X6_refuse tw_m_RX6_70 (zrec_of wr_P 0 rfl rfl) (zroom_of rfl) rfl (Nat.le_of_ble_eq_true rfl) dX6_copy_141 ?_
                      suffices z94 : ∀ q35 : Int32 × nT, q35 = (v_X6_refuse N 5) → Z k_X6_copy G Γ (wr G A Γ.2.2.1.1.heap (maW G a q35.2 ++ faW G a F)) 0 0 [(7, .ref (sh a (30 + 2 * r10) 0)), (6, .ref (sh a (30 + 2 * r2) 0)), (0, .ref (a 0)), (1, .int x1), (2, .int x2), (3, .int x3), (4, .int x4), (5, .int x5)] 144 [.int q35.1] from z94 _ rfl
                      intro q35 hq35
                      have hv := kk_vq hv hq35
                      clear hq35
                      subst hv; exact z_iret_W hQ rfl rfl rfl ⟨rfl, rfl⟩ dX6_copy_144
                · have hp := ip_f hp c24; have hv := it_f hv c24
                  refine z_aload_n dX6_copy_108 rfl ?_
                  refine z_iconst (v := 4) dX6_copy_109 rfl ?_
                  have q36 := hp
                  refine z_cwviD (ws' := maW G a ((v_X6_refuse N 4).2) ++ faW G a F) hw (fun sz => c_X6_refuse G P a sz N 4 q36) [0, 1, 2] [3, 4, 5, 6, 7, 8, 9, 10, 11, 12, 13, 14, 15, 16, 17, 18] [16, 17, 18, 0, 1, 2, 3, 4, 5, 6, 7, 8, 9, 10, 11, 12, 13, 14, 15] 19 rfl rfl rfl rfl zc_X6_refuse zv_X6_refuse tw_m_RX6_70 (zrec_of wr_P 0 rfl rfl) (zroom_of rfl) rfl (Nat.le_of_ble_eq_true rfl) dX6_copy_110 ?_
                  suffices z95 : ∀ q37 : Int32 × nT, q37 = (v_X6_refuse N 4) → Z k_X6_copy G Γ (wr G A Γ.2.2.1.1.heap (maW G a q37.2 ++ faW G a F)) 0 0 [(7, .ref (sh a (30 + 2 * r10) 0)), (6, .ref (sh a (30 + 2 * r2) 0)), (0, .ref (a 0)), (1, .int x1), (2, .int x2), (3, .int x3), (4, .int x4), (5, .int x5)] 113 [.int q37.1] from z95 _ rfl
                  intro q37 hq37
                  have hv := kk_vq hv hq37
                  clear hq37
                  subst hv; exact z_iret_W hQ rfl rfl rfl ⟨rfl, rfl⟩ dX6_copy_113
              · have hp := ip_t hp c23; have hv := it_t hv c23
                refine z_aload_n dX6_copy_97 rfl ?_
                refine z_iconst (v := 3) dX6_copy_98 rfl ?_
                have q38 := hp
                refine z_cwviD (ws' := maW G a ((v_X6_refuse N 3).2) ++ faW G a F) hw (fun sz => c_X6_refuse G P a sz N 3 q38) [0, 1, 2] [3, 4, 5, 6, 7, 8, 9, 10, 11, 12, 13, 14, 15, 16, 17, 18] [16, 17, 18, 0, 1, 2, 3, 4, 5, 6, 7, 8, 9, 10, 11, 12, 13, 14, 15] 19 rfl rfl rfl rfl zc_X6_refuse zv_X6_refuse tw_m_RX6_70 (zrec_of wr_P 0 rfl rfl) (zroom_of rfl) rfl (Nat.le_of_ble_eq_true rfl) dX6_copy_99 ?_
                suffices z96 : ∀ q39 : Int32 × nT, q39 = (v_X6_refuse N 3) → Z k_X6_copy G Γ (wr G A Γ.2.2.1.1.heap (maW G a q39.2 ++ faW G a F)) 0 0 [(7, .ref (sh a (30 + 2 * r10) 0)), (6, .ref (sh a (30 + 2 * r2) 0)), (0, .ref (a 0)), (1, .int x1), (2, .int x2), (3, .int x3), (4, .int x4), (5, .int x5)] 102 [.int q39.1] from z96 _ rfl
                intro q39 hq39
                have hv := kk_vq hv hq39
                clear hq39
                subst hv; exact z_iret_W hQ rfl rfl rfl ⟨rfl, rfl⟩ dX6_copy_102
          · have hp := ip_f hp c19; have hv := it_f hv c19
            refine z_aload dX6_copy_54 rfl ?_
            refine z_cvi (c_X5_isRow G P (sh a (30 + 2 * r10)) (F r10) ) zc_X5_isRow zv_X5_isRow tw_m_RX6_97 (zrec_of (fam_P (a := a) hr10 (sub_P wr_P [3, 4, 5, 6, 7, 8, 9, 10, 11, 12, 13, 14, 15, 16, 17, 18] rfl)) 0 rfl rfl) (fr_all (fam_P (a := a) hr10 (sub_P wr_P [3, 4, 5, 6, 7, 8, 9, 10, 11, 12, 13, 14, 15, 16, 17, 18] rfl)) (wr_G hw)) (zroom_of rfl) rfl (Nat.le_of_ble_eq_true rfl) dX6_copy_56 ?_
            refine z_if_eq (tgt := 81) dX6_copy_59 (by decide) (fun c40 => ?_) (fun c40 => ?_)
            · have hp := ip_t hp c40; have hv := it_t hv c40
              refine z_aload dX6_copy_81 rfl ?_
              refine z_cvi (c_X5_isRow G P (sh a (30 + 2 * r2)) (F r2) ) zc_X5_isRow zv_X5_isRow tw_m_RX6_97 (zrec_of (fam_P (a := a) hr2 (sub_P wr_P [3, 4, 5, 6, 7, 8, 9, 10, 11, 12, 13, 14, 15, 16, 17, 18] rfl)) 0 rfl rfl) (fr_all (fam_P (a := a) hr2 (sub_P wr_P [3, 4, 5, 6, 7, 8, 9, 10, 11, 12, 13, 14, 15, 16, 17, 18] rfl)) (wr_G hw)) (zroom_of rfl) rfl (Nat.le_of_ble_eq_true rfl) dX6_copy_83 ?_
              refine z_if_eq (tgt := 97) dX6_copy_86 (by decide) (fun c41 => ?_) (fun c41 => ?_)
              · have hp := ip_t hp c41; have hv := it_t hv c41
                refine z_aload_n dX6_copy_97 rfl ?_
                refine z_iconst (v := 3) dX6_copy_98 rfl ?_
                have q42 := hp
                refine z_cwviD (ws' := maW G a ((v_X6_refuse N 3).2) ++ faW G a F) hw (fun sz => c_X6_refuse G P a sz N 3 q42) [0, 1, 2] [3, 4, 5, 6, 7, 8, 9, 10, 11, 12, 13, 14, 15, 16, 17, 18] [16, 17, 18, 0, 1, 2, 3, 4, 5, 6, 7, 8, 9, 10, 11, 12, 13, 14, 15] 19 rfl rfl rfl rfl zc_X6_refuse zv_X6_refuse tw_m_RX6_70 (zrec_of wr_P 0 rfl rfl) (zroom_of rfl) rfl (Nat.le_of_ble_eq_true rfl) dX6_copy_99 ?_
                suffices z97 : ∀ q43 : Int32 × nT, q43 = (v_X6_refuse N 3) → Z k_X6_copy G Γ (wr G A Γ.2.2.1.1.heap (maW G a q43.2 ++ faW G a F)) 0 0 [(7, .ref (sh a (30 + 2 * r10) 0)), (6, .ref (sh a (30 + 2 * r2) 0)), (0, .ref (a 0)), (1, .int x1), (2, .int x2), (3, .int x3), (4, .int x4), (5, .int x5)] 102 [.int q43.1] from z97 _ rfl
                intro q43 hq43
                have hv := kk_vq hv hq43
                clear hq43
                subst hv; exact z_iret_W hQ rfl rfl rfl ⟨rfl, rfl⟩ dX6_copy_102
              · have hp := ip_f hp c41; have hv := it_f hv c41
                refine z_aload dX6_copy_89 rfl ?_
                refine z_cvi (c_X5_isRow G P (sh a (30 + 2 * r10)) (F r10) ) zc_X5_isRow zv_X5_isRow tw_m_RX6_97 (zrec_of (fam_P (a := a) hr10 (sub_P wr_P [3, 4, 5, 6, 7, 8, 9, 10, 11, 12, 13, 14, 15, 16, 17, 18] rfl)) 0 rfl rfl) (fr_all (fam_P (a := a) hr10 (sub_P wr_P [3, 4, 5, 6, 7, 8, 9, 10, 11, 12, 13, 14, 15, 16, 17, 18] rfl)) (wr_G hw)) (zroom_of rfl) rfl (Nat.le_of_ble_eq_true rfl) dX6_copy_91 ?_
                refine z_if_ne (tgt := 103) dX6_copy_94 (by decide) (fun c44 => ?_) (fun c44 => ?_)
                · have hp := ip_f hp c44; have hv := it_f hv c44
                  refine z_iload dX6_copy_103 rfl ?_
                  refine z_if_ge (tgt := 114) dX6_copy_105 (by decide) (fun c45 => ?_) (fun c45 => ?_)
                  · have hp := ip_t hp c45; have hv := it_t hv c45
                    refine z_aload dX6_copy_114 rfl ?_
                    refine z_iload_n dX6_copy_116 rfl ?_
                    refine z_iload dX6_copy_117 rfl ?_
                    refine z_i2l dX6_copy_119 ?_
                    refine z_cvi (c_X5_spans G P (sh a (30 + 2 * r2)) (F r2) x3 x5.toInt64 ) zc_X5_spans zv_X5_spans tw_m_RX6_103 (zrec_of (fam_P (a := a) hr2 (sub_P wr_P [3, 4, 5, 6, 7, 8, 9, 10, 11, 12, 13, 14, 15, 16, 17, 18] rfl)) 0 rfl rfl) (fr_all (fam_P (a := a) hr2 (sub_P wr_P [3, 4, 5, 6, 7, 8, 9, 10, 11, 12, 13, 14, 15, 16, 17, 18] rfl)) (wr_G hw)) (zroom_of rfl) rfl (Nat.le_of_ble_eq_true rfl) dX6_copy_120 ?_
                    refine z_if_eq (tgt := 139) dX6_copy_123 (by decide) (fun c46 => ?_) (fun c46 => ?_)
                    · have hp := ip_t hp c46; have hv := it_t hv c46
                      refine z_aload_n dX6_copy_139 rfl ?_
                      refine z_iconst (v := 5) dX6_copy_140 rfl ?_
                      have q47 := hp
                      refine z_cwviD (ws' := maW G a ((v_X6_refuse N 5).2) ++ faW G a F) hw (fun sz => c_X6_refuse G P a sz N 5 q47) [0, 1, 2] [3, 4, 5, 6, 7, 8, 9, 10, 11, 12, 13, 14, 15, 16, 17, 18] [16, 17, 18, 0, 1, 2, 3, 4, 5, 6, 7, 8, 9, 10, 11, 12, 13, 14, 15] 19 rfl rfl rfl rfl zc_X6_refuse zv_X6_refuse tw_m_RX6_70 (zrec_of wr_P 0 rfl rfl) (zroom_of rfl) rfl (Nat.le_of_ble_eq_true rfl) dX6_copy_141 ?_
                      suffices z98 : ∀ q48 : Int32 × nT, q48 = (v_X6_refuse N 5) → Z k_X6_copy G Γ (wr G A Γ.2.2.1.1.heap (maW G a q48.2 ++ faW G a F)) 0 0 [(7, .ref (sh a (30 + 2 * r10) 0)), (6, .ref (sh a (30 + 2 * r2) 0)), (0, .ref (a 0)), (1, .int x1), (2, .int x2), (3, .int x3), (4, .int x4), (5, .int x5)] 144 [.int q48.1] from z98 _ rfl
                      intro q48 hq48
                      have hv := kk_vq hv hq48
                      clear hq48
                      subst hv; exact z_iret_W hQ rfl rfl rfl ⟨rfl, rfl⟩ dX6_copy_144
                    · have hp := ip_f hp c46; have hv := it_f hv c46
                      refine z_aload dX6_copy_126 rfl ?_
                      refine z_iload dX6_copy_128 rfl ?_
                      refine z_iload dX6_copy_130 rfl ?_
                      refine z_i2l dX6_copy_132 ?_
                      refine z_cvi (c_X5_spans G P (sh a (30 + 2 * r10)) (F r10) x4 x5.toInt64 ) zc_X5_spans zv_X5_spans tw_m_RX6_103 (zrec_of (fam_P (a := a) hr10 (sub_P wr_P [3, 4, 5, 6, 7, 8, 9, 10, 11, 12, 13, 14, 15, 16, 17, 18] rfl)) 0 rfl rfl) (fr_all (fam_P (a := a) hr10 (sub_P wr_P [3, 4, 5, 6, 7, 8, 9, 10, 11, 12, 13, 14, 15, 16, 17, 18] rfl)) (wr_G hw)) (zroom_of rfl) rfl (Nat.le_of_ble_eq_true rfl) dX6_copy_133 ?_
                      refine z_if_ne (tgt := 145) dX6_copy_136 (by decide) (fun c49 => ?_) (fun c49 => ?_)
                      · have hp := ip_f hp c49; have hv := it_f hv c49
                        refine z_aload dX6_copy_145 rfl ?_
                        refine z_get (v := .ref ((sh a (30 + 2 * r2)) 1)) (fam_P (a := a) hr2 (sub_P wr_P [3, 4, 5, 6, 7, 8, 9, 10, 11, 12, 13, 14, 15, 16, 17, 18] rfl)) 0 rfl rfl uin_X5 0 (Nat.le_of_ble_eq_true rfl) tw_f_RX6_107 rfl rfl dX6_copy_147 ?_
                        refine z_iload_n dX6_copy_150 rfl ?_
                        refine z_aload dX6_copy_151 rfl ?_
                        refine z_get (v := .ref ((sh a (30 + 2 * r10)) 1)) (fam_P (a := a) hr10 (sub_P wr_P [3, 4, 5, 6, 7, 8, 9, 10, 11, 12, 13, 14, 15, 16, 17, 18] rfl)) 0 rfl rfl uin_X5 0 (Nat.le_of_ble_eq_true rfl) tw_f_RX6_107 rfl rfl dX6_copy_153 ?_
                        refine z_iload dX6_copy_156 rfl ?_
                        refine z_iload dX6_copy_158 rfl ?_
                        obtain ⟨q50, hp⟩ := hp
                        skip
                        obtain ⟨q51, hp⟩ := hp
                        skip
                        obtain ⟨q52, hp⟩ := hp
                        skip
                        obtain ⟨q53, hp⟩ := hp
                        skip
                        have q54 := hp
                        skip
                        refine z_copyl (F := va_cpy (F r2).2 (F r10).2 x3.toNatClampNeg x4.toNatClampNeg x5.toNatClampNeg) tw_m_RX6_111 tw_native tw_st_arraycopyName tw_i_java_lang_System _ _ (fam_at hr2 (maW G a N)) (fam_at hr10 (maW G a N)) q50 q51 q52 q53 q54 rfl (fam_set hr10 (maW G a N) _) ⟨Nat.le_of_ble_eq_true rfl, by decide⟩ dX6_copy_160 ?_
                        refine z_iconst (v := 1) dX6_copy_163 rfl ?_
                        subst hv; exact z_iret_W hQ rfl rfl rfl ⟨rfl, rfl⟩ dX6_copy_164
                      · have hp := ip_t hp c49; have hv := it_t hv c49
                        refine z_aload_n dX6_copy_139 rfl ?_
                        refine z_iconst (v := 5) dX6_copy_140 rfl ?_
                        have q55 := hp
                        refine z_cwviD (ws' := maW G a ((v_X6_refuse N 5).2) ++ faW G a F) hw (fun sz => c_X6_refuse G P a sz N 5 q55) [0, 1, 2] [3, 4, 5, 6, 7, 8, 9, 10, 11, 12, 13, 14, 15, 16, 17, 18] [16, 17, 18, 0, 1, 2, 3, 4, 5, 6, 7, 8, 9, 10, 11, 12, 13, 14, 15] 19 rfl rfl rfl rfl zc_X6_refuse zv_X6_refuse tw_m_RX6_70 (zrec_of wr_P 0 rfl rfl) (zroom_of rfl) rfl (Nat.le_of_ble_eq_true rfl) dX6_copy_141 ?_
                        suffices z99 : ∀ q56 : Int32 × nT, q56 = (v_X6_refuse N 5) → Z k_X6_copy G Γ (wr G A Γ.2.2.1.1.heap (maW G a q56.2 ++ faW G a F)) 0 0 [(7, .ref (sh a (30 + 2 * r10) 0)), (6, .ref (sh a (30 + 2 * r2) 0)), (0, .ref (a 0)), (1, .int x1), (2, .int x2), (3, .int x3), (4, .int x4), (5, .int x5)] 144 [.int q56.1] from z99 _ rfl
                        intro q56 hq56
                        have hv := kk_vq hv hq56
                        clear hq56
                        subst hv; exact z_iret_W hQ rfl rfl rfl ⟨rfl, rfl⟩ dX6_copy_144
                  · have hp := ip_f hp c45; have hv := it_f hv c45
                    refine z_aload_n dX6_copy_108 rfl ?_
                    refine z_iconst (v := 4) dX6_copy_109 rfl ?_
                    have q57 := hp
                    refine z_cwviD (ws' := maW G a ((v_X6_refuse N 4).2) ++ faW G a F) hw (fun sz => c_X6_refuse G P a sz N 4 q57) [0, 1, 2] [3, 4, 5, 6, 7, 8, 9, 10, 11, 12, 13, 14, 15, 16, 17, 18] [16, 17, 18, 0, 1, 2, 3, 4, 5, 6, 7, 8, 9, 10, 11, 12, 13, 14, 15] 19 rfl rfl rfl rfl zc_X6_refuse zv_X6_refuse tw_m_RX6_70 (zrec_of wr_P 0 rfl rfl) (zroom_of rfl) rfl (Nat.le_of_ble_eq_true rfl) dX6_copy_110 ?_
                    suffices z100 : ∀ q58 : Int32 × nT, q58 = (v_X6_refuse N 4) → Z k_X6_copy G Γ (wr G A Γ.2.2.1.1.heap (maW G a q58.2 ++ faW G a F)) 0 0 [(7, .ref (sh a (30 + 2 * r10) 0)), (6, .ref (sh a (30 + 2 * r2) 0)), (0, .ref (a 0)), (1, .int x1), (2, .int x2), (3, .int x3), (4, .int x4), (5, .int x5)] 113 [.int q58.1] from z100 _ rfl
                    intro q58 hq58
                    have hv := kk_vq hv hq58
                    clear hq58
                    subst hv; exact z_iret_W hQ rfl rfl rfl ⟨rfl, rfl⟩ dX6_copy_113
                · have hp := ip_t hp c44; have hv := it_t hv c44
                  refine z_aload_n dX6_copy_97 rfl ?_
                  refine z_iconst (v := 3) dX6_copy_98 rfl ?_
                  have q59 := hp
                  refine z_cwviD (ws' := maW G a ((v_X6_refuse N 3).2) ++ faW G a F) hw (fun sz => c_X6_refuse G P a sz N 3 q59) [0, 1, 2] [3, 4, 5, 6, 7, 8, 9, 10, 11, 12, 13, 14, 15, 16, 17, 18] [16, 17, 18, 0, 1, 2, 3, 4, 5, 6, 7, 8, 9, 10, 11, 12, 13, 14, 15] 19 rfl rfl rfl rfl zc_X6_refuse zv_X6_refuse tw_m_RX6_70 (zrec_of wr_P 0 rfl rfl) (zroom_of rfl) rfl (Nat.le_of_ble_eq_true rfl) dX6_copy_99 ?_
                  suffices z101 : ∀ q60 : Int32 × nT, q60 = (v_X6_refuse N 3) → Z k_X6_copy G Γ (wr G A Γ.2.2.1.1.heap (maW G a q60.2 ++ faW G a F)) 0 0 [(7, .ref (sh a (30 + 2 * r10) 0)), (6, .ref (sh a (30 + 2 * r2) 0)), (0, .ref (a 0)), (1, .int x1), (2, .int x2), (3, .int x3), (4, .int x4), (5, .int x5)] 102 [.int q60.1] from z101 _ rfl
                  intro q60 hq60
                  have hv := kk_vq hv hq60
                  clear hq60
                  subst hv; exact z_iret_W hQ rfl rfl rfl ⟨rfl, rfl⟩ dX6_copy_102
            · have hp := ip_f hp c40; have hv := it_f hv c40
              refine z_aload dX6_copy_62 rfl ?_
              refine z_get (v := .int ((F r2).1 1)) (fam_P (a := a) hr2 (sub_P wr_P [3, 4, 5, 6, 7, 8, 9, 10, 11, 12, 13, 14, 15, 16, 17, 18] rfl)) 0 rfl rfl uin_X5 1 (Nat.le_of_ble_eq_true rfl) tw_f_RX6_100 rfl rfl dX6_copy_64 ?_
              refine z_aload dX6_copy_67 rfl ?_
              refine z_get (v := .int ((F r10).1 1)) (fam_P (a := a) hr10 (sub_P wr_P [3, 4, 5, 6, 7, 8, 9, 10, 11, 12, 13, 14, 15, 16, 17, 18] rfl)) 0 rfl rfl uin_X5 1 (Nat.le_of_ble_eq_true rfl) tw_f_RX6_100 rfl rfl dX6_copy_69 ?_
              refine z_icmp_eq (tgt := 81) dX6_copy_72 (by decide) (fun c61 => ?_) (fun c61 => ?_)
              · have hp := ip_t hp c61; have hv := it_t hv c61
                refine z_aload dX6_copy_81 rfl ?_
                refine z_cvi (c_X5_isRow G P (sh a (30 + 2 * r2)) (F r2) ) zc_X5_isRow zv_X5_isRow tw_m_RX6_97 (zrec_of (fam_P (a := a) hr2 (sub_P wr_P [3, 4, 5, 6, 7, 8, 9, 10, 11, 12, 13, 14, 15, 16, 17, 18] rfl)) 0 rfl rfl) (fr_all (fam_P (a := a) hr2 (sub_P wr_P [3, 4, 5, 6, 7, 8, 9, 10, 11, 12, 13, 14, 15, 16, 17, 18] rfl)) (wr_G hw)) (zroom_of rfl) rfl (Nat.le_of_ble_eq_true rfl) dX6_copy_83 ?_
                refine z_if_eq (tgt := 97) dX6_copy_86 (by decide) (fun c62 => ?_) (fun c62 => ?_)
                · have hp := ip_t hp c62; have hv := it_t hv c62
                  refine z_aload_n dX6_copy_97 rfl ?_
                  refine z_iconst (v := 3) dX6_copy_98 rfl ?_
                  have q63 := hp
                  refine z_cwviD (ws' := maW G a ((v_X6_refuse N 3).2) ++ faW G a F) hw (fun sz => c_X6_refuse G P a sz N 3 q63) [0, 1, 2] [3, 4, 5, 6, 7, 8, 9, 10, 11, 12, 13, 14, 15, 16, 17, 18] [16, 17, 18, 0, 1, 2, 3, 4, 5, 6, 7, 8, 9, 10, 11, 12, 13, 14, 15] 19 rfl rfl rfl rfl zc_X6_refuse zv_X6_refuse tw_m_RX6_70 (zrec_of wr_P 0 rfl rfl) (zroom_of rfl) rfl (Nat.le_of_ble_eq_true rfl) dX6_copy_99 ?_
                  suffices z102 : ∀ q64 : Int32 × nT, q64 = (v_X6_refuse N 3) → Z k_X6_copy G Γ (wr G A Γ.2.2.1.1.heap (maW G a q64.2 ++ faW G a F)) 0 0 [(7, .ref (sh a (30 + 2 * r10) 0)), (6, .ref (sh a (30 + 2 * r2) 0)), (0, .ref (a 0)), (1, .int x1), (2, .int x2), (3, .int x3), (4, .int x4), (5, .int x5)] 102 [.int q64.1] from z102 _ rfl
                  intro q64 hq64
                  have hv := kk_vq hv hq64
                  clear hq64
                  subst hv; exact z_iret_W hQ rfl rfl rfl ⟨rfl, rfl⟩ dX6_copy_102
                · have hp := ip_f hp c62; have hv := it_f hv c62
                  refine z_aload dX6_copy_89 rfl ?_
                  refine z_cvi (c_X5_isRow G P (sh a (30 + 2 * r10)) (F r10) ) zc_X5_isRow zv_X5_isRow tw_m_RX6_97 (zrec_of (fam_P (a := a) hr10 (sub_P wr_P [3, 4, 5, 6, 7, 8, 9, 10, 11, 12, 13, 14, 15, 16, 17, 18] rfl)) 0 rfl rfl) (fr_all (fam_P (a := a) hr10 (sub_P wr_P [3, 4, 5, 6, 7, 8, 9, 10, 11, 12, 13, 14, 15, 16, 17, 18] rfl)) (wr_G hw)) (zroom_of rfl) rfl (Nat.le_of_ble_eq_true rfl) dX6_copy_91 ?_
                  refine z_if_ne (tgt := 103) dX6_copy_94 (by decide) (fun c65 => ?_) (fun c65 => ?_)
                  · have hp := ip_f hp c65; have hv := it_f hv c65
                    refine z_iload dX6_copy_103 rfl ?_
                    refine z_if_ge (tgt := 114) dX6_copy_105 (by decide) (fun c66 => ?_) (fun c66 => ?_)
                    · have hp := ip_t hp c66; have hv := it_t hv c66
                      refine z_aload dX6_copy_114 rfl ?_
                      refine z_iload_n dX6_copy_116 rfl ?_
                      refine z_iload dX6_copy_117 rfl ?_
                      refine z_i2l dX6_copy_119 ?_
                      refine z_cvi (c_X5_spans G P (sh a (30 + 2 * r2)) (F r2) x3 x5.toInt64 ) zc_X5_spans zv_X5_spans tw_m_RX6_103 (zrec_of (fam_P (a := a) hr2 (sub_P wr_P [3, 4, 5, 6, 7, 8, 9, 10, 11, 12, 13, 14, 15, 16, 17, 18] rfl)) 0 rfl rfl) (fr_all (fam_P (a := a) hr2 (sub_P wr_P [3, 4, 5, 6, 7, 8, 9, 10, 11, 12, 13, 14, 15, 16, 17, 18] rfl)) (wr_G hw)) (zroom_of rfl) rfl (Nat.le_of_ble_eq_true rfl) dX6_copy_120 ?_
                      refine z_if_eq (tgt := 139) dX6_copy_123 (by decide) (fun c67 => ?_) (fun c67 => ?_)
                      · have hp := ip_t hp c67; have hv := it_t hv c67
                        refine z_aload_n dX6_copy_139 rfl ?_
                        refine z_iconst (v := 5) dX6_copy_140 rfl ?_
                        have q68 := hp
                        refine z_cwviD (ws' := maW G a ((v_X6_refuse N 5).2) ++ faW G a F) hw (fun sz => c_X6_refuse G P a sz N 5 q68) [0, 1, 2] [3, 4, 5, 6, 7, 8, 9, 10, 11, 12, 13, 14, 15, 16, 17, 18] [16, 17, 18, 0, 1, 2, 3, 4, 5, 6, 7, 8, 9, 10, 11, 12, 13, 14, 15] 19 rfl rfl rfl rfl zc_X6_refuse zv_X6_refuse tw_m_RX6_70 (zrec_of wr_P 0 rfl rfl) (zroom_of rfl) rfl (Nat.le_of_ble_eq_true rfl) dX6_copy_141 ?_
                        suffices z103 : ∀ q69 : Int32 × nT, q69 = (v_X6_refuse N 5) → Z k_X6_copy G Γ (wr G A Γ.2.2.1.1.heap (maW G a q69.2 ++ faW G a F)) 0 0 [(7, .ref (sh a (30 + 2 * r10) 0)), (6, .ref (sh a (30 + 2 * r2) 0)), (0, .ref (a 0)), (1, .int x1), (2, .int x2), (3, .int x3), (4, .int x4), (5, .int x5)] 144 [.int q69.1] from z103 _ rfl
                        intro q69 hq69
                        have hv := kk_vq hv hq69
                        clear hq69
                        subst hv; exact z_iret_W hQ rfl rfl rfl ⟨rfl, rfl⟩ dX6_copy_144
                      · have hp := ip_f hp c67; have hv := it_f hv c67
                        refine z_aload dX6_copy_126 rfl ?_
                        refine z_iload dX6_copy_128 rfl ?_
                        refine z_iload dX6_copy_130 rfl ?_
                        refine z_i2l dX6_copy_132 ?_
                        refine z_cvi (c_X5_spans G P (sh a (30 + 2 * r10)) (F r10) x4 x5.toInt64 ) zc_X5_spans zv_X5_spans tw_m_RX6_103 (zrec_of (fam_P (a := a) hr10 (sub_P wr_P [3, 4, 5, 6, 7, 8, 9, 10, 11, 12, 13, 14, 15, 16, 17, 18] rfl)) 0 rfl rfl) (fr_all (fam_P (a := a) hr10 (sub_P wr_P [3, 4, 5, 6, 7, 8, 9, 10, 11, 12, 13, 14, 15, 16, 17, 18] rfl)) (wr_G hw)) (zroom_of rfl) rfl (Nat.le_of_ble_eq_true rfl) dX6_copy_133 ?_
                        refine z_if_ne (tgt := 145) dX6_copy_136 (by decide) (fun c70 => ?_) (fun c70 => ?_)
                        · have hp := ip_f hp c70; have hv := it_f hv c70
                          refine z_aload dX6_copy_145 rfl ?_
                          refine z_get (v := .ref ((sh a (30 + 2 * r2)) 1)) (fam_P (a := a) hr2 (sub_P wr_P [3, 4, 5, 6, 7, 8, 9, 10, 11, 12, 13, 14, 15, 16, 17, 18] rfl)) 0 rfl rfl uin_X5 0 (Nat.le_of_ble_eq_true rfl) tw_f_RX6_107 rfl rfl dX6_copy_147 ?_
                          refine z_iload_n dX6_copy_150 rfl ?_
                          refine z_aload dX6_copy_151 rfl ?_
                          refine z_get (v := .ref ((sh a (30 + 2 * r10)) 1)) (fam_P (a := a) hr10 (sub_P wr_P [3, 4, 5, 6, 7, 8, 9, 10, 11, 12, 13, 14, 15, 16, 17, 18] rfl)) 0 rfl rfl uin_X5 0 (Nat.le_of_ble_eq_true rfl) tw_f_RX6_107 rfl rfl dX6_copy_153 ?_
                          refine z_iload dX6_copy_156 rfl ?_
                          refine z_iload dX6_copy_158 rfl ?_
                          obtain ⟨q71, hp⟩ := hp
                          skip
                          obtain ⟨q72, hp⟩ := hp
                          skip
                          obtain ⟨q73, hp⟩ := hp
                          skip
                          obtain ⟨q74, hp⟩ := hp
                          skip
                          have q75 := hp
                          skip
                          refine z_copyl (F := va_cpy (F r2).2 (F r10).2 x3.toNatClampNeg x4.toNatClampNeg x5.toNatClampNeg) tw_m_RX6_111 tw_native tw_st_arraycopyName tw_i_java_lang_System _ _ (fam_at hr2 (maW G a N)) (fam_at hr10 (maW G a N)) q71 q72 q73 q74 q75 rfl (fam_set hr10 (maW G a N) _) ⟨Nat.le_of_ble_eq_true rfl, by decide⟩ dX6_copy_160 ?_
                          refine z_iconst (v := 1) dX6_copy_163 rfl ?_
                          subst hv; exact z_iret_W hQ rfl rfl rfl ⟨rfl, rfl⟩ dX6_copy_164
                        · have hp := ip_t hp c70; have hv := it_t hv c70
                          refine z_aload_n dX6_copy_139 rfl ?_
                          refine z_iconst (v := 5) dX6_copy_140 rfl ?_
                          have q76 := hp
                          refine z_cwviD (ws' := maW G a ((v_X6_refuse N 5).2) ++ faW G a F) hw (fun sz => c_X6_refuse G P a sz N 5 q76) [0, 1, 2] [3, 4, 5, 6, 7, 8, 9, 10, 11, 12, 13, 14, 15, 16, 17, 18] [16, 17, 18, 0, 1, 2, 3, 4, 5, 6, 7, 8, 9, 10, 11, 12, 13, 14, 15] 19 rfl rfl rfl rfl zc_X6_refuse zv_X6_refuse tw_m_RX6_70 (zrec_of wr_P 0 rfl rfl) (zroom_of rfl) rfl (Nat.le_of_ble_eq_true rfl) dX6_copy_141 ?_
                          suffices z104 : ∀ q77 : Int32 × nT, q77 = (v_X6_refuse N 5) → Z k_X6_copy G Γ (wr G A Γ.2.2.1.1.heap (maW G a q77.2 ++ faW G a F)) 0 0 [(7, .ref (sh a (30 + 2 * r10) 0)), (6, .ref (sh a (30 + 2 * r2) 0)), (0, .ref (a 0)), (1, .int x1), (2, .int x2), (3, .int x3), (4, .int x4), (5, .int x5)] 144 [.int q77.1] from z104 _ rfl
                          intro q77 hq77
                          have hv := kk_vq hv hq77
                          clear hq77
                          subst hv; exact z_iret_W hQ rfl rfl rfl ⟨rfl, rfl⟩ dX6_copy_144
                    · have hp := ip_f hp c66; have hv := it_f hv c66
                      refine z_aload_n dX6_copy_108 rfl ?_
                      refine z_iconst (v := 4) dX6_copy_109 rfl ?_
                      have q78 := hp
                      refine z_cwviD (ws' := maW G a ((v_X6_refuse N 4).2) ++ faW G a F) hw (fun sz => c_X6_refuse G P a sz N 4 q78) [0, 1, 2] [3, 4, 5, 6, 7, 8, 9, 10, 11, 12, 13, 14, 15, 16, 17, 18] [16, 17, 18, 0, 1, 2, 3, 4, 5, 6, 7, 8, 9, 10, 11, 12, 13, 14, 15] 19 rfl rfl rfl rfl zc_X6_refuse zv_X6_refuse tw_m_RX6_70 (zrec_of wr_P 0 rfl rfl) (zroom_of rfl) rfl (Nat.le_of_ble_eq_true rfl) dX6_copy_110 ?_
                      suffices z105 : ∀ q79 : Int32 × nT, q79 = (v_X6_refuse N 4) → Z k_X6_copy G Γ (wr G A Γ.2.2.1.1.heap (maW G a q79.2 ++ faW G a F)) 0 0 [(7, .ref (sh a (30 + 2 * r10) 0)), (6, .ref (sh a (30 + 2 * r2) 0)), (0, .ref (a 0)), (1, .int x1), (2, .int x2), (3, .int x3), (4, .int x4), (5, .int x5)] 113 [.int q79.1] from z105 _ rfl
                      intro q79 hq79
                      have hv := kk_vq hv hq79
                      clear hq79
                      subst hv; exact z_iret_W hQ rfl rfl rfl ⟨rfl, rfl⟩ dX6_copy_113
                  · have hp := ip_t hp c65; have hv := it_t hv c65
                    refine z_aload_n dX6_copy_97 rfl ?_
                    refine z_iconst (v := 3) dX6_copy_98 rfl ?_
                    have q80 := hp
                    refine z_cwviD (ws' := maW G a ((v_X6_refuse N 3).2) ++ faW G a F) hw (fun sz => c_X6_refuse G P a sz N 3 q80) [0, 1, 2] [3, 4, 5, 6, 7, 8, 9, 10, 11, 12, 13, 14, 15, 16, 17, 18] [16, 17, 18, 0, 1, 2, 3, 4, 5, 6, 7, 8, 9, 10, 11, 12, 13, 14, 15] 19 rfl rfl rfl rfl zc_X6_refuse zv_X6_refuse tw_m_RX6_70 (zrec_of wr_P 0 rfl rfl) (zroom_of rfl) rfl (Nat.le_of_ble_eq_true rfl) dX6_copy_99 ?_
                    suffices z106 : ∀ q81 : Int32 × nT, q81 = (v_X6_refuse N 3) → Z k_X6_copy G Γ (wr G A Γ.2.2.1.1.heap (maW G a q81.2 ++ faW G a F)) 0 0 [(7, .ref (sh a (30 + 2 * r10) 0)), (6, .ref (sh a (30 + 2 * r2) 0)), (0, .ref (a 0)), (1, .int x1), (2, .int x2), (3, .int x3), (4, .int x4), (5, .int x5)] 102 [.int q81.1] from z106 _ rfl
                    intro q81 hq81
                    have hv := kk_vq hv hq81
                    clear hq81
                    subst hv; exact z_iret_W hQ rfl rfl rfl ⟨rfl, rfl⟩ dX6_copy_102
              · have hp := ip_f hp c61; have hv := it_f hv c61
                refine z_aload_n dX6_copy_75 rfl ?_
                refine z_iconst (v := 2) dX6_copy_76 rfl ?_
                have q82 := hp
                refine z_cwviD (ws' := maW G a ((v_X6_refuse N 2).2) ++ faW G a F) hw (fun sz => c_X6_refuse G P a sz N 2 q82) [0, 1, 2] [3, 4, 5, 6, 7, 8, 9, 10, 11, 12, 13, 14, 15, 16, 17, 18] [16, 17, 18, 0, 1, 2, 3, 4, 5, 6, 7, 8, 9, 10, 11, 12, 13, 14, 15] 19 rfl rfl rfl rfl zc_X6_refuse zv_X6_refuse tw_m_RX6_70 (zrec_of wr_P 0 rfl rfl) (zroom_of rfl) rfl (Nat.le_of_ble_eq_true rfl) dX6_copy_77 ?_
                suffices z107 : ∀ q83 : Int32 × nT, q83 = (v_X6_refuse N 2) → Z k_X6_copy G Γ (wr G A Γ.2.2.1.1.heap (maW G a q83.2 ++ faW G a F)) 0 0 [(7, .ref (sh a (30 + 2 * r10) 0)), (6, .ref (sh a (30 + 2 * r2) 0)), (0, .ref (a 0)), (1, .int x1), (2, .int x2), (3, .int x3), (4, .int x4), (5, .int x5)] 80 [.int q83.1] from z107 _ rfl
                intro q83 hq83
                have hv := kk_vq hv hq83
                clear hq83
                subst hv; exact z_iret_W hQ rfl rfl rfl ⟨rfl, rfl⟩ dX6_copy_80
theorem dX6_element_0 : decode cX6_element 0 = .ok (.aload_n 0, 1) := by decide +kernel
theorem dX6_element_1 : decode cX6_element 1 = .ok (.iload_n 1, 1) := by decide +kernel
theorem dX6_element_2 : decode cX6_element 2 = .ok (.invokevirtual 66, 3) := by decide +kernel
theorem dX6_element_5 : decode cX6_element 5 = .ok (.astore_n 3, 1) := by decide +kernel
theorem dX6_element_6 : decode cX6_element 6 = .ok (.aload_n 3, 1) := by decide +kernel
theorem dX6_element_7 : decode cX6_element 7 = .ok (.ifnonnull 7, 3) := by decide +kernel
theorem dX6_element_10 : decode cX6_element 10 = .ok (.lconst 0, 1) := by decide +kernel
theorem dX6_element_11 : decode cX6_element 11 = .ok (.goto 8, 3) := by decide +kernel
theorem dX6_element_14 : decode cX6_element 14 = .ok (.aload_n 3, 1) := by decide +kernel
theorem dX6_element_15 : decode cX6_element 15 = .ok (.iload_n 2, 1) := by decide +kernel
theorem dX6_element_16 : decode cX6_element 16 = .ok (.invokevirtual 117, 3) := by decide +kernel
theorem dX6_element_19 : decode cX6_element 19 = .ok (.lreturn, 1) := by decide +kernel
abbrev k_X6_element : zK := (cX6_element, 4, RX6, (some .long), ({ frames := 1, cells := 0, slots := 0, locals := 21 } : Room))
theorem zc_X6_element : zcal yX6_element k_X6_element.1 k_X6_element.2.1 k_X6_element.2.2.2.1 2 := ⟨tw_code_yX6_element, tw_i_TollForHesitators, ⟨by decide +kernel, by decide +kernel⟩, by decide +kernel⟩
theorem zv_X6_element : Cond.instanceMethod yX6_element ∈ TS ∧ Cond.selects RX6 yX6_element yX6_element ∈ TS := ⟨tw_inst_yX6_element, tw_s_yX6_element⟩
def v_X6_element (N : nT) (F : fT) (x1 : Int32) (x2 : Int32) : Int64 := oc (v_X6_shelfAt N x1) (0) (fun r2 : Nat => (v_X5_longAt (F r2) x2))
def p_X6_element (N : nT) (F : fT) (x1 : Int32) (x2 : Int32) : Prop := p_X6_shelfAt N x1 ∧ (oc (v_X6_shelfAt N x1) (True) (fun r2 : Nat => p_X5_longAt (F r2) x2))
set_option maxHeartbeats 800000 in
theorem c_X6_element {l : Launch} (G : zG) (P : pT) (a : Nat → Nat) (N : nT) (F : fT) (x1 : Int32) (x2 : Int32) (hp : p_X6_element N F x1 x2) : Met l yX6_element (.code yX6_element k_X6_element.1 k_X6_element.2.1 k_X6_element.2.2.2.1 :: TS) k_X6_element.2.2.2.2 (Pz G [.ref (a 0), .int x1, .int x2] (Fr G P (maW G a N ++ faW G a F))) (vp_Sl (fun r => r = v_X6_element N F x1 x2)) 0 0 (fun _ => False) := by
  refine zmet (K := k_X6_element) (by decide +kernel) rfl rfl (fun Γ hl0 hQ hN hF => ?_)
  have hI := rd_P (G := G) hF.1
  have hG := rd_F hF.2
  obtain ⟨res, hv⟩ : ∃ res, v_X6_element N F x1 x2 = res := ⟨_, rfl⟩
  rw [hv] at hQ
  unfold v_X6_element at hv
  unfold p_X6_element at hp
  show Z k_X6_element G Γ _ 0 0 [(0, .ref (a 0)), (1, .int x1), (2, .int x2)] 0 []
  refine z_aload_n dX6_element_0 rfl ?_
  refine z_iload_n dX6_element_1 rfl ?_
  obtain ⟨q1, hp⟩ := hp
  refine z_cvq (c_X6_shelfAt G P a N x1 q1) zc_X6_shelfAt zv_X6_shelfAt tw_m_RX6_66 (zrec_of hI 0 rfl rfl) (fr_all (sub_P hI [0, 1, 2] rfl) hG) (zroom_of rfl) rfl (Nat.le_of_ble_eq_true rfl) dX6_element_2 ?_
  suffices z4 : ∀ r2 : Option Nat, r2 = (v_X6_shelfAt N x1) → (∀ k : Nat, r2 = some k → k < 8) → Z k_X6_element G Γ (rd Γ.2.2.1.1.heap) 0 0 [(0, .ref (a 0)), (1, .int x1), (2, .int x2)] 5 [va_rf (r2.map (fun k => sh a (30 + 2 * k) 0))] from z4 _ rfl (shelfAt_lt N x1)
  intro r2 hr2 fr2
  have hp := oc_pq hp hr2
  have hv := oc_vq hv hr2
  clear hr2
  rcases r2 with _ | r2
  · have hp := oc_pn hp; have hv := oc_n hv
    refine z_astore_nN (lv' := [(3, .null), (0, .ref (a 0)), (1, .int x1), (2, .int x2)]) dX6_element_5 (Nat.le_of_ble_eq_true rfl) rfl ?_
    refine z_aload_nN dX6_element_6 rfl ?_
    refine z_ifnonnullN dX6_element_7 ?_
    refine z_lconst (v := 0) dX6_element_10 rfl ?_
    refine z_goto (tgt := 19) dX6_element_11 (by decide) ?_
    exact z_lret_S hQ rfl hv dX6_element_19
  · have hp := oc_ps hp; have hv := oc_s hv
    have hr2 := fr2 _ rfl; clear fr2
    refine z_astore_n (lv' := [(3, .ref (sh a (30 + 2 * r2) 0)), (0, .ref (a 0)), (1, .int x1), (2, .int x2)]) dX6_element_5 (Nat.le_of_ble_eq_true rfl) rfl ?_
    refine z_aload_n dX6_element_6 rfl ?_
    refine z_ifnonnull (tgt := 14) dX6_element_7 (by decide) ?_
    refine z_aload_n dX6_element_14 rfl ?_
    refine z_iload_n dX6_element_15 rfl ?_
    have q3 := hp
    refine z_cvl (c_X5_longAt G P (sh a (30 + 2 * r2)) (F r2) x2 q3) zc_X5_longAt zv_X5_longAt tw_m_RX6_117 (zrec_of (fam_P (a := a) hr2 (sub_P hI [3, 4, 5, 6, 7, 8, 9, 10, 11, 12, 13, 14, 15, 16, 17, 18] rfl)) 0 rfl rfl) (fr_all (fam_P (a := a) hr2 (sub_P hI [3, 4, 5, 6, 7, 8, 9, 10, 11, 12, 13, 14, 15, 16, 17, 18] rfl)) hG) (zroom_of rfl) rfl (Nat.le_of_ble_eq_true rfl) dX6_element_16 ?_
    exact z_lret_S hQ rfl hv dX6_element_19
theorem dX6_show_0 : decode cX6_show 0 = .ok (.aload_n 0, 1) := by decide +kernel
theorem dX6_show_1 : decode cX6_show 1 = .ok (.iload_n 1, 1) := by decide +kernel
theorem dX6_show_2 : decode cX6_show 2 = .ok (.invokevirtual 66, 3) := by decide +kernel
theorem dX6_show_5 : decode cX6_show 5 = .ok (.astore_n 3, 1) := by decide +kernel
theorem dX6_show_6 : decode cX6_show 6 = .ok (.aload_n 3, 1) := by decide +kernel
theorem dX6_show_7 : decode cX6_show 7 = .ok (.ifnull 19, 3) := by decide +kernel
theorem dX6_show_10 : decode cX6_show 10 = .ok (.iload_n 2, 1) := by decide +kernel
theorem dX6_show_11 : decode cX6_show 11 = .ok (.iconst (-1), 1) := by decide +kernel
theorem dX6_show_12 : decode cX6_show 12 = .ok (.if_icmp .eq 20, 3) := by decide +kernel
theorem dX6_show_15 : decode cX6_show 15 = .ok (.aload_n 0, 1) := by decide +kernel
theorem dX6_show_16 : decode cX6_show 16 = .ok (.getfield 10, 3) := by decide +kernel
theorem dX6_show_19 : decode cX6_show 19 = .ok (.iload_n 2, 1) := by decide +kernel
theorem dX6_show_20 : decode cX6_show 20 = .ok (.invokevirtual 121, 3) := by decide +kernel
theorem dX6_show_23 : decode cX6_show 23 = .ok (.ifCond .ne 9, 3) := by decide +kernel
theorem dX6_show_26 : decode cX6_show 26 = .ok (.aload_n 0, 1) := by decide +kernel
theorem dX6_show_27 : decode cX6_show 27 = .ok (.iconst 1, 1) := by decide +kernel
theorem dX6_show_28 : decode cX6_show 28 = .ok (.invokevirtual 70, 3) := by decide +kernel
theorem dX6_show_31 : decode cX6_show 31 = .ok (.ireturn, 1) := by decide +kernel
theorem dX6_show_32 : decode cX6_show 32 = .ok (.aload_n 3, 1) := by decide +kernel
theorem dX6_show_33 : decode cX6_show 33 = .ok (.iload_n 2, 1) := by decide +kernel
theorem dX6_show_34 : decode cX6_show 34 = .ok (.invokevirtual 124, 3) := by decide +kernel
theorem dX6_show_37 : decode cX6_show 37 = .ok (.iload_n 2, 1) := by decide +kernel
theorem dX6_show_38 : decode cX6_show 38 = .ok (.iconst (-1), 1) := by decide +kernel
theorem dX6_show_39 : decode cX6_show 39 = .ok (.if_icmp .ne 7, 3) := by decide +kernel
theorem dX6_show_42 : decode cX6_show 42 = .ok (.iconst 0, 1) := by decide +kernel
theorem dX6_show_43 : decode cX6_show 43 = .ok (.goto 4, 3) := by decide +kernel
theorem dX6_show_46 : decode cX6_show 46 = .ok (.iconst 1, 1) := by decide +kernel
theorem dX6_show_47 : decode cX6_show 47 = .ok (.ireturn, 1) := by decide +kernel
abbrev k_X6_show : zK := (cX6_show, 4, RX6, (some .int), ({ frames := 2, cells := 0, slots := 0, locals := 42 } : Room))
theorem zc_X6_show : zcal yX6_show k_X6_show.1 k_X6_show.2.1 k_X6_show.2.2.2.1 2 := ⟨tw_code_yX6_show, tw_i_TollForHesitators, ⟨by decide +kernel, by decide +kernel⟩, by decide +kernel⟩
theorem zv_X6_show : Cond.instanceMethod yX6_show ∈ TS ∧ Cond.selects RX6 yX6_show yX6_show ∈ TS := ⟨tw_inst_yX6_show, tw_s_yX6_show⟩
def v_X6_show (N : nT) (R : rT) (F : fT) (x1 : Int32) (x2 : Int32) : Int32 × nT × fT := oc (v_X6_shelfAt N x1) (kk (v_X6_refuse N 1) (fun q4 : Int32 × nT => (q4.1, (q4.2, F)))) (fun r2 : Nat => if x2 = (-1) then kk (v_X5_hold (F r2) x2) (fun q6 : sT => ((if x2 = (-1) then (0 : Int32) else 1), (N, va_up F r2 q6))) else if (v_X4_has R x2) = 0 then kk (v_X6_refuse N 1) (fun q15 : Int32 × nT => (q15.1, (q15.2, F))) else kk (v_X5_hold (F r2) x2) (fun q11 : sT => ((if x2 = (-1) then (0 : Int32) else 1), (N, va_up F r2 q11))))
def p_X6_show (N : nT) (R : rT) (F : fT) (x1 : Int32) (x2 : Int32) : Prop := p_X6_shelfAt N x1 ∧ (oc (v_X6_shelfAt N x1) (p_X6_refuse N 1) (fun r2 : Nat => if x2 = (-1) then True else p_X4_has R x2 ∧ (if (v_X4_has R x2) = 0 then p_X6_refuse N 1 else True)))
set_option maxHeartbeats 800000 in
theorem c_X6_show {l : Launch} (G : zG) (P : pT) (a : Nat → Nat) (sz : Nat) (N : nT) (R : rT) (F : fT) (x1 : Int32) (x2 : Int32) (hp : p_X6_show N R F x1 x2) : Met l yX6_show (.code yX6_show k_X6_show.1 k_X6_show.2.1 k_X6_show.2.2.2.1 :: TS) k_X6_show.2.2.2.2 (Pz G [.ref (a 0), .int x1, .int x2] (Fw G (gX G P) (maW G a N ++ rdW G (sh a 10) R ++ faW G a F) sz)) (Qwi G (fun r w => r = (v_X6_show N R F x1 x2).1 ∧ w = maW G a ((v_X6_show N R F x1 x2).2.1) ++ rdW G (sh a 10) R ++ faW G a ((v_X6_show N R F x1 x2).2.2)) (va_A (maW G a N ++ rdW G (sh a 10) R ++ faW G a F) sz)) 0 0 (va_A (maW G a N ++ rdW G (sh a 10) R ++ faW G a F) sz) := by
  refine zmet (K := k_X6_show) (by decide +kernel) rfl rfl (fun Γ hl0 hQ hN hF => ?_)
  refine z_start (gX_ok G P) hF (fun hw => ?_)
  generalize va_A (maW G a N ++ rdW G (sh a 10) R ++ faW G a F) sz = A at hQ hw ⊢
  obtain ⟨res, hv⟩ : ∃ res, v_X6_show N R F x1 x2 = res := ⟨_, rfl⟩
  rw [hv] at hQ
  unfold v_X6_show at hv
  unfold p_X6_show at hp
  show Z k_X6_show G Γ _ 0 0 [(0, .ref (a 0)), (1, .int x1), (2, .int x2)] 0 []
  refine z_aload_n dX6_show_0 rfl ?_
  refine z_iload_n dX6_show_1 rfl ?_
  obtain ⟨q1, hp⟩ := hp
  refine z_cvq (c_X6_shelfAt G P a N x1 q1) zc_X6_shelfAt zv_X6_shelfAt tw_m_RX6_66 (zrec_of wr_P 0 rfl rfl) (fr_all (sub_P wr_P [0, 1, 2] rfl) (wr_G hw)) (zroom_of rfl) rfl (Nat.le_of_ble_eq_true rfl) dX6_show_2 ?_
  suffices z16 : ∀ r2 : Option Nat, r2 = (v_X6_shelfAt N x1) → (∀ k : Nat, r2 = some k → k < 8) → Z k_X6_show G Γ (wr G A Γ.2.2.1.1.heap (maW G a N ++ rdW G (sh a 10) R ++ faW G a F)) 0 0 [(0, .ref (a 0)), (1, .int x1), (2, .int x2)] 5 [va_rf (r2.map (fun k => sh a (30 + 2 * k) 0))] from z16 _ rfl (shelfAt_lt N x1)
  intro r2 hr2 fr2
  have hp := oc_pq hp hr2
  have hv := oc_vq hv hr2
  clear hr2
  rcases r2 with _ | r2
  · have hp := oc_pn hp; have hv := oc_n hv
    refine z_astore_nN (lv' := [(3, .null), (0, .ref (a 0)), (1, .int x1), (2, .int x2)]) dX6_show_5 (Nat.le_of_ble_eq_true rfl) rfl ?_
    refine z_aload_nN dX6_show_6 rfl ?_
    refine z_ifnullN (tgt := 26) dX6_show_7 (by decide) ?_
    refine z_aload_n dX6_show_26 rfl ?_
    refine z_iconst (v := 1) dX6_show_27 rfl ?_
    have q3 := hp
    refine z_cwviD (ws' := maW G a ((v_X6_refuse N 1).2) ++ rdW G (sh a 10) R ++ faW G a F) hw (fun sz => c_X6_refuse G P a sz N 1 q3) [0, 1, 2] [3, 4, 5, 6, 7, 8, 9, 10, 11, 12, 13, 14, 15, 16, 17, 18, 19, 20, 21, 22, 23] [21, 22, 23, 0, 1, 2, 3, 4, 5, 6, 7, 8, 9, 10, 11, 12, 13, 14, 15, 16, 17, 18, 19, 20] 24 rfl rfl rfl rfl zc_X6_refuse zv_X6_refuse tw_m_RX6_70 (zrec_of wr_P 0 rfl rfl) (zroom_of rfl) rfl (Nat.le_of_ble_eq_true rfl) dX6_show_28 ?_
    suffices z17 : ∀ q4 : Int32 × nT, q4 = (v_X6_refuse N 1) → Z k_X6_show G Γ (wr G A Γ.2.2.1.1.heap (maW G a q4.2 ++ rdW G (sh a 10) R ++ faW G a F)) 0 0 [(3, .null), (0, .ref (a 0)), (1, .int x1), (2, .int x2)] 31 [.int q4.1] from z17 _ rfl
    intro q4 hq4
    have hv := kk_vq hv hq4
    clear hq4
    subst hv; exact z_iret_W hQ rfl rfl rfl ⟨rfl, rfl⟩ dX6_show_31
  · have hp := oc_ps hp; have hv := oc_s hv
    have hr2 := fr2 _ rfl; clear fr2
    refine z_astore_n (lv' := [(3, .ref (sh a (30 + 2 * r2) 0)), (0, .ref (a 0)), (1, .int x1), (2, .int x2)]) dX6_show_5 (Nat.le_of_ble_eq_true rfl) rfl ?_
    refine z_aload_n dX6_show_6 rfl ?_
    refine z_ifnull dX6_show_7 ?_
    refine z_iload_n dX6_show_10 rfl ?_
    refine z_iconst (v := (-1)) dX6_show_11 rfl ?_
    refine z_icmp_eq (tgt := 32) dX6_show_12 (by decide) (fun c5 => ?_) (fun c5 => ?_)
    · have hp := ip_t hp c5; have hv := it_t hv c5
      refine z_aload_n dX6_show_32 rfl ?_
      refine z_iload_n dX6_show_33 rfl ?_
      refine z_out (X := maW G a N ++ rdW G (sh a 10) R) (F := F) hr2 ?_
      refine z_ctvvD (R0 := pick (maW G a N ++ rdW G (sh a 10) R ++ shW G (sh a (30 + 2 * r2)) (F r2)) [0, 1, 2, 3, 4, 5, 6, 7]) (W1 := maW G a N ++ rdW G (sh a 10) R ++ shW G (sh a (30 + 2 * r2)) ((v_X5_hold (F r2) x2))) hw (fun sz => c_X5_hold G P (sh a (30 + 2 * r2)) sz (F r2) x2 ) [8, 9] [0, 1, 2, 3, 4, 5, 6, 7] [0, 1, 2, 3, 4, 5, 6, 7, 8, 9] 10 (by decide +kernel) rfl rfl rfl rfl rfl zc_X5_hold zv_X5_hold tw_m_RX6_124 (zrec_of wr_P 8 rfl rfl) (zroom_of rfl) rfl (Nat.le_of_ble_eq_true rfl) dX6_show_34 ?_
      refine z_in hr2 ?_
      suffices z18 : ∀ q6 : sT, q6 = (v_X5_hold (F r2) x2) → Z k_X6_show G Γ (wr G A Γ.2.2.1.1.heap (maW G a N ++ rdW G (sh a 10) R ++ faW G a (va_up F r2 q6))) 0 0 [(3, .ref (sh a (30 + 2 * r2) 0)), (0, .ref (a 0)), (1, .int x1), (2, .int x2)] 37 [] from z18 _ rfl
      intro q6 hq6
      have hv := kk_vq hv hq6
      clear hq6
      refine z_iload_n dX6_show_37 rfl ?_
      refine z_iconst (v := (-1)) dX6_show_38 rfl ?_
      have J19 : ∀ m8 : Int32, m8 = (if x2 = (-1) then (0 : Int32) else 1) → Z k_X6_show G Γ (wr G A Γ.2.2.1.1.heap (maW G a N ++ rdW G (sh a 10) R ++ faW G a (va_up F r2 q6))) 0 0 [(3, .ref (sh a (30 + 2 * r2) 0)), (0, .ref (a 0)), (1, .int x1), (2, .int x2)] 47 [.int m8] := by
        intro m8 em8
        rewrite [em8]; clear em8
        subst hv; exact z_iret_W hQ rfl rfl rfl ⟨rfl, rfl⟩ dX6_show_47
      refine z_icmp_ne (tgt := 46) dX6_show_39 (by decide) (fun c7 => ?_) (fun c7 => ?_)
      · skip
        refine z_iconst (v := 1) dX6_show_46 rfl ?_
        exact z_lv rfl (J19 _ (if_neg c7).symm)
      · skip
        refine z_iconst (v := 0) dX6_show_42 rfl ?_
        refine z_goto (tgt := 47) dX6_show_43 (by decide) ?_
        exact z_lv rfl (J19 _ (if_pos c7).symm)
    · have hp := ip_f hp c5; have hv := it_f hv c5
      refine z_aload_n dX6_show_15 rfl ?_
      refine z_get (v := .ref ((sh a 10) 0)) wr_P 0 rfl rfl uin_X6 0 (Nat.le_of_ble_eq_true rfl) tw_f_RX6_10 rfl rfl dX6_show_16 ?_
      refine z_iload_n dX6_show_19 rfl ?_
      obtain ⟨q9, hp⟩ := hp
      refine z_cvi (c_X4_has G P (sh a 10) R x2 q9) zc_X4_has zv_X4_has tw_m_RX6_121 (zrec_of wr_P 3 rfl rfl) (fr_all (sub_P wr_P [3, 4, 5, 6, 7] rfl) (wr_G hw)) (zroom_of rfl) rfl (Nat.le_of_ble_eq_true rfl) dX6_show_20 ?_
      refine z_if_ne (tgt := 32) dX6_show_23 (by decide) (fun c10 => ?_) (fun c10 => ?_)
      · have hp := ip_f hp c10; have hv := it_f hv c10
        refine z_aload_n dX6_show_32 rfl ?_
        refine z_iload_n dX6_show_33 rfl ?_
        refine z_out (X := maW G a N ++ rdW G (sh a 10) R) (F := F) hr2 ?_
        refine z_ctvvD (R0 := pick (maW G a N ++ rdW G (sh a 10) R ++ shW G (sh a (30 + 2 * r2)) (F r2)) [0, 1, 2, 3, 4, 5, 6, 7]) (W1 := maW G a N ++ rdW G (sh a 10) R ++ shW G (sh a (30 + 2 * r2)) ((v_X5_hold (F r2) x2))) hw (fun sz => c_X5_hold G P (sh a (30 + 2 * r2)) sz (F r2) x2 ) [8, 9] [0, 1, 2, 3, 4, 5, 6, 7] [0, 1, 2, 3, 4, 5, 6, 7, 8, 9] 10 (by decide +kernel) rfl rfl rfl rfl rfl zc_X5_hold zv_X5_hold tw_m_RX6_124 (zrec_of wr_P 8 rfl rfl) (zroom_of rfl) rfl (Nat.le_of_ble_eq_true rfl) dX6_show_34 ?_
        refine z_in hr2 ?_
        suffices z20 : ∀ q11 : sT, q11 = (v_X5_hold (F r2) x2) → Z k_X6_show G Γ (wr G A Γ.2.2.1.1.heap (maW G a N ++ rdW G (sh a 10) R ++ faW G a (va_up F r2 q11))) 0 0 [(3, .ref (sh a (30 + 2 * r2) 0)), (0, .ref (a 0)), (1, .int x1), (2, .int x2)] 37 [] from z20 _ rfl
        intro q11 hq11
        have hv := kk_vq hv hq11
        clear hq11
        refine z_iload_n dX6_show_37 rfl ?_
        refine z_iconst (v := (-1)) dX6_show_38 rfl ?_
        have J21 : ∀ m13 : Int32, m13 = (if x2 = (-1) then (0 : Int32) else 1) → Z k_X6_show G Γ (wr G A Γ.2.2.1.1.heap (maW G a N ++ rdW G (sh a 10) R ++ faW G a (va_up F r2 q11))) 0 0 [(3, .ref (sh a (30 + 2 * r2) 0)), (0, .ref (a 0)), (1, .int x1), (2, .int x2)] 47 [.int m13] := by
          intro m13 em13
          rewrite [em13]; clear em13
          subst hv; exact z_iret_W hQ rfl rfl rfl ⟨rfl, rfl⟩ dX6_show_47
        refine z_icmp_ne (tgt := 46) dX6_show_39 (by decide) (fun c12 => ?_) (fun c12 => ?_)
        · skip
          refine z_iconst (v := 1) dX6_show_46 rfl ?_
          exact z_lv rfl (J21 _ (if_neg c12).symm)
        · skip
          refine z_iconst (v := 0) dX6_show_42 rfl ?_
          refine z_goto (tgt := 47) dX6_show_43 (by decide) ?_
          exact z_lv rfl (J21 _ (if_pos c12).symm)
      · have hp := ip_t hp c10; have hv := it_t hv c10
        refine z_aload_n dX6_show_26 rfl ?_
        refine z_iconst (v := 1) dX6_show_27 rfl ?_
        have q14 := hp
        refine z_cwviD (ws' := maW G a ((v_X6_refuse N 1).2) ++ rdW G (sh a 10) R ++ faW G a F) hw (fun sz => c_X6_refuse G P a sz N 1 q14) [0, 1, 2] [3, 4, 5, 6, 7, 8, 9, 10, 11, 12, 13, 14, 15, 16, 17, 18, 19, 20, 21, 22, 23] [21, 22, 23, 0, 1, 2, 3, 4, 5, 6, 7, 8, 9, 10, 11, 12, 13, 14, 15, 16, 17, 18, 19, 20] 24 rfl rfl rfl rfl zc_X6_refuse zv_X6_refuse tw_m_RX6_70 (zrec_of wr_P 0 rfl rfl) (zroom_of rfl) rfl (Nat.le_of_ble_eq_true rfl) dX6_show_28 ?_
        suffices z22 : ∀ q15 : Int32 × nT, q15 = (v_X6_refuse N 1) → Z k_X6_show G Γ (wr G A Γ.2.2.1.1.heap (maW G a q15.2 ++ rdW G (sh a 10) R ++ faW G a F)) 0 0 [(3, .ref (sh a (30 + 2 * r2) 0)), (0, .ref (a 0)), (1, .int x1), (2, .int x2)] 31 [.int q15.1] from z22 _ rfl
        intro q15 hq15
        have hv := kk_vq hv hq15
        clear hq15
        subst hv; exact z_iret_W hQ rfl rfl rfl ⟨rfl, rfl⟩ dX6_show_31
theorem dX6_holds_0 : decode cX6_holds 0 = .ok (.aload_n 0, 1) := by decide +kernel
theorem dX6_holds_1 : decode cX6_holds 1 = .ok (.iload_n 1, 1) := by decide +kernel
theorem dX6_holds_2 : decode cX6_holds 2 = .ok (.invokevirtual 66, 3) := by decide +kernel
theorem dX6_holds_5 : decode cX6_holds 5 = .ok (.astore_n 2, 1) := by decide +kernel
theorem dX6_holds_6 : decode cX6_holds 6 = .ok (.aload_n 2, 1) := by decide +kernel
theorem dX6_holds_7 : decode cX6_holds 7 = .ok (.ifnonnull 7, 3) := by decide +kernel
theorem dX6_holds_10 : decode cX6_holds 10 = .ok (.iconst (-1), 1) := by decide +kernel
theorem dX6_holds_11 : decode cX6_holds 11 = .ok (.goto 7, 3) := by decide +kernel
theorem dX6_holds_14 : decode cX6_holds 14 = .ok (.aload_n 2, 1) := by decide +kernel
theorem dX6_holds_15 : decode cX6_holds 15 = .ok (.getfield 100, 3) := by decide +kernel
theorem dX6_holds_18 : decode cX6_holds 18 = .ok (.ireturn, 1) := by decide +kernel
abbrev k_X6_holds : zK := (cX6_holds, 3, RX6, (some .int), ({ frames := 1, cells := 0, slots := 0, locals := 21 } : Room))
theorem zc_X6_holds : zcal yX6_holds k_X6_holds.1 k_X6_holds.2.1 k_X6_holds.2.2.2.1 1 := ⟨tw_code_yX6_holds, tw_i_TollForHesitators, ⟨by decide +kernel, by decide +kernel⟩, by decide +kernel⟩
theorem zv_X6_holds : Cond.instanceMethod yX6_holds ∈ TS ∧ Cond.selects RX6 yX6_holds yX6_holds ∈ TS := ⟨tw_inst_yX6_holds, tw_s_yX6_holds⟩
def v_X6_holds (N : nT) (F : fT) (x1 : Int32) : Int32 := oc (v_X6_shelfAt N x1) ((-1)) (fun r2 : Nat => (F r2).1 1)
def p_X6_holds (N : nT) (F : fT) (x1 : Int32) : Prop := p_X6_shelfAt N x1
set_option maxHeartbeats 800000 in
theorem c_X6_holds {l : Launch} (G : zG) (P : pT) (a : Nat → Nat) (N : nT) (F : fT) (x1 : Int32) (hp : p_X6_holds N F x1) : Met l yX6_holds (.code yX6_holds k_X6_holds.1 k_X6_holds.2.1 k_X6_holds.2.2.2.1 :: TS) k_X6_holds.2.2.2.2 (Pz G [.ref (a 0), .int x1] (Fr G P (maW G a N ++ faW G a F))) (vp_Si (fun r => r = v_X6_holds N F x1)) 0 0 (fun _ => False) := by
  refine zmet (K := k_X6_holds) (by decide +kernel) rfl rfl (fun Γ hl0 hQ hN hF => ?_)
  have hI := rd_P (G := G) hF.1
  have hG := rd_F hF.2
  obtain ⟨res, hv⟩ : ∃ res, v_X6_holds N F x1 = res := ⟨_, rfl⟩
  rw [hv] at hQ
  unfold v_X6_holds at hv
  unfold p_X6_holds at hp
  show Z k_X6_holds G Γ _ 0 0 [(0, .ref (a 0)), (1, .int x1)] 0 []
  refine z_aload_n dX6_holds_0 rfl ?_
  refine z_iload_n dX6_holds_1 rfl ?_
  have q1 := hp
  refine z_cvq (c_X6_shelfAt G P a N x1 q1) zc_X6_shelfAt zv_X6_shelfAt tw_m_RX6_66 (zrec_of hI 0 rfl rfl) (fr_all (sub_P hI [0, 1, 2] rfl) hG) (zroom_of rfl) rfl (Nat.le_of_ble_eq_true rfl) dX6_holds_2 ?_
  suffices z3 : ∀ r2 : Option Nat, r2 = (v_X6_shelfAt N x1) → (∀ k : Nat, r2 = some k → k < 8) → Z k_X6_holds G Γ (rd Γ.2.2.1.1.heap) 0 0 [(0, .ref (a 0)), (1, .int x1)] 5 [va_rf (r2.map (fun k => sh a (30 + 2 * k) 0))] from z3 _ rfl (shelfAt_lt N x1)
  intro r2 hr2 fr2
  have hv := oc_vq hv hr2
  clear hr2
  rcases r2 with _ | r2
  · have hv := oc_n hv
    refine z_astore_nN (lv' := [(2, .null), (0, .ref (a 0)), (1, .int x1)]) dX6_holds_5 (Nat.le_of_ble_eq_true rfl) rfl ?_
    refine z_aload_nN dX6_holds_6 rfl ?_
    refine z_ifnonnullN dX6_holds_7 ?_
    refine z_iconst (v := (-1)) dX6_holds_10 rfl ?_
    refine z_goto (tgt := 18) dX6_holds_11 (by decide) ?_
    exact z_iret_S hQ rfl hv dX6_holds_18
  · have hv := oc_s hv
    have hr2 := fr2 _ rfl; clear fr2
    refine z_astore_n (lv' := [(2, .ref (sh a (30 + 2 * r2) 0)), (0, .ref (a 0)), (1, .int x1)]) dX6_holds_5 (Nat.le_of_ble_eq_true rfl) rfl ?_
    refine z_aload_n dX6_holds_6 rfl ?_
    refine z_ifnonnull (tgt := 14) dX6_holds_7 (by decide) ?_
    refine z_aload_n dX6_holds_14 rfl ?_
    refine z_get (v := .int ((F r2).1 1)) (fam_P (a := a) hr2 (sub_P hI [3, 4, 5, 6, 7, 8, 9, 10, 11, 12, 13, 14, 15, 16, 17, 18] rfl)) 0 rfl rfl uin_X5 1 (Nat.le_of_ble_eq_true rfl) tw_f_RX6_100 rfl rfl dX6_holds_15 ?_
    exact z_iret_S hQ rfl hv dX6_holds_18
theorem dX6_says_0 : decode cX6_says 0 = .ok (.aload_n 0, 1) := by decide +kernel
theorem dX6_says_1 : decode cX6_says 1 = .ok (.iload_n 1, 1) := by decide +kernel
theorem dX6_says_2 : decode cX6_says 2 = .ok (.invokevirtual 66, 3) := by decide +kernel
theorem dX6_says_5 : decode cX6_says 5 = .ok (.astore_n 3, 1) := by decide +kernel
theorem dX6_says_6 : decode cX6_says 6 = .ok (.aload_n 3, 1) := by decide +kernel
theorem dX6_says_7 : decode cX6_says 7 = .ok (.ifnull 13, 3) := by decide +kernel
theorem dX6_says_10 : decode cX6_says 10 = .ok (.iload_n 2, 1) := by decide +kernel
theorem dX6_says_11 : decode cX6_says 11 = .ok (.iconst 0, 1) := by decide +kernel
theorem dX6_says_12 : decode cX6_says 12 = .ok (.bipush 6, 2) := by decide +kernel
theorem dX6_says_14 : decode cX6_says 14 = .ok (.invokestatic 74, 3) := by decide +kernel
theorem dX6_says_17 : decode cX6_says 17 = .ok (.ifCond .ne 9, 3) := by decide +kernel
theorem dX6_says_20 : decode cX6_says 20 = .ok (.aload_n 0, 1) := by decide +kernel
theorem dX6_says_21 : decode cX6_says 21 = .ok (.iconst 1, 1) := by decide +kernel
theorem dX6_says_22 : decode cX6_says 22 = .ok (.invokevirtual 70, 3) := by decide +kernel
theorem dX6_says_25 : decode cX6_says 25 = .ok (.ireturn, 1) := by decide +kernel
theorem dX6_says_26 : decode cX6_says 26 = .ok (.aload_n 3, 1) := by decide +kernel
theorem dX6_says_27 : decode cX6_says 27 = .ok (.invokevirtual 97, 3) := by decide +kernel
theorem dX6_says_30 : decode cX6_says 30 = .ok (.ifCond .eq 9, 3) := by decide +kernel
theorem dX6_says_33 : decode cX6_says 33 = .ok (.aload_n 0, 1) := by decide +kernel
theorem dX6_says_34 : decode cX6_says 34 = .ok (.iconst 2, 1) := by decide +kernel
theorem dX6_says_35 : decode cX6_says 35 = .ok (.invokevirtual 70, 3) := by decide +kernel
theorem dX6_says_38 : decode cX6_says 38 = .ok (.ireturn, 1) := by decide +kernel
theorem dX6_says_39 : decode cX6_says 39 = .ok (.aload_n 0, 1) := by decide +kernel
theorem dX6_says_40 : decode cX6_says 40 = .ok (.getfield 10, 3) := by decide +kernel
theorem dX6_says_43 : decode cX6_says 43 = .ok (.aload_n 3, 1) := by decide +kernel
theorem dX6_says_44 : decode cX6_says 44 = .ok (.getfield 100, 3) := by decide +kernel
theorem dX6_says_47 : decode cX6_says 47 = .ok (.invokevirtual 128, 3) := by decide +kernel
theorem dX6_says_50 : decode cX6_says 50 = .ok (.astore 4, 2) := by decide +kernel
theorem dX6_says_52 : decode cX6_says 52 = .ok (.aload 4, 2) := by decide +kernel
theorem dX6_says_54 : decode cX6_says 54 = .ok (.ifnonnull 9, 3) := by decide +kernel
theorem dX6_says_57 : decode cX6_says 57 = .ok (.aload_n 0, 1) := by decide +kernel
theorem dX6_says_58 : decode cX6_says 58 = .ok (.iconst 3, 1) := by decide +kernel
theorem dX6_says_59 : decode cX6_says 59 = .ok (.invokevirtual 70, 3) := by decide +kernel
theorem dX6_says_62 : decode cX6_says 62 = .ok (.ireturn, 1) := by decide +kernel
theorem dX6_says_63 : decode cX6_says 63 = .ok (.aload 4, 2) := by decide +kernel
theorem dX6_says_65 : decode cX6_says 65 = .ok (.iload_n 2, 1) := by decide +kernel
theorem dX6_says_66 : decode cX6_says 66 = .ok (.invokevirtual 132, 3) := by decide +kernel
theorem dX6_says_69 : decode cX6_says 69 = .ok (.ifCond .ne 9, 3) := by decide +kernel
theorem dX6_says_72 : decode cX6_says 72 = .ok (.aload_n 0, 1) := by decide +kernel
theorem dX6_says_73 : decode cX6_says 73 = .ok (.iconst 2, 1) := by decide +kernel
theorem dX6_says_74 : decode cX6_says 74 = .ok (.invokevirtual 70, 3) := by decide +kernel
theorem dX6_says_77 : decode cX6_says 77 = .ok (.ireturn, 1) := by decide +kernel
theorem dX6_says_78 : decode cX6_says 78 = .ok (.iload_n 2, 1) := by decide +kernel
theorem dX6_says_79 : decode cX6_says 79 = .ok (.tableswitch 55 1 6 #[37, 43, 43, 49, 49, 37], 37) := by decide +kernel
theorem dX6_says_116 : decode cX6_says 116 = .ok (.aload 4, 2) := by decide +kernel
theorem dX6_says_118 : decode cX6_says 118 = .ok (.getfield 137, 3) := by decide +kernel
theorem dX6_says_121 : decode cX6_says 121 = .ok (.ireturn, 1) := by decide +kernel
theorem dX6_says_122 : decode cX6_says 122 = .ok (.aload 4, 2) := by decide +kernel
theorem dX6_says_124 : decode cX6_says 124 = .ok (.getfield 140, 3) := by decide +kernel
theorem dX6_says_127 : decode cX6_says 127 = .ok (.ireturn, 1) := by decide +kernel
theorem dX6_says_128 : decode cX6_says 128 = .ok (.aload 4, 2) := by decide +kernel
theorem dX6_says_130 : decode cX6_says 130 = .ok (.invokevirtual 143, 3) := by decide +kernel
theorem dX6_says_133 : decode cX6_says 133 = .ok (.ireturn, 1) := by decide +kernel
theorem dX6_says_134 : decode cX6_says 134 = .ok (.aload_n 0, 1) := by decide +kernel
theorem dX6_says_135 : decode cX6_says 135 = .ok (.getfield 10, 3) := by decide +kernel
theorem dX6_says_138 : decode cX6_says 138 = .ok (.aload_n 3, 1) := by decide +kernel
theorem dX6_says_139 : decode cX6_says 139 = .ok (.getfield 100, 3) := by decide +kernel
theorem dX6_says_142 : decode cX6_says 142 = .ok (.invokevirtual 147, 3) := by decide +kernel
theorem dX6_says_145 : decode cX6_says 145 = .ok (.ireturn, 1) := by decide +kernel
abbrev k_X6_says : zK := (cX6_says, 5, RX6, (some .int), ({ frames := 3, cells := 0, slots := 0, locals := 63 } : Room))
theorem zc_X6_says : zcal yX6_says k_X6_says.1 k_X6_says.2.1 k_X6_says.2.2.2.1 2 := ⟨tw_code_yX6_says, tw_i_TollForHesitators, ⟨by decide +kernel, by decide +kernel⟩, by decide +kernel⟩
theorem zv_X6_says : Cond.instanceMethod yX6_says ∈ TS ∧ Cond.selects RX6 yX6_says yX6_says ∈ TS := ⟨tw_inst_yX6_says, tw_s_yX6_says⟩
def v_X6_says (P : pT) (N : nT) (R : rT) (F : fT) (x1 : Int32) (x2 : Int32) : Int32 × nT := oc (v_X6_shelfAt N x1) (kk (v_X6_refuse N 1) (fun q4 : Int32 × nT => (q4.1, q4.2))) (fun r2 : Nat => if (v_X6_within x2 0 6) = 0 then kk (v_X6_refuse N 1) (fun q32 : Int32 × nT => (q32.1, q32.2)) else if (v_X5_isRow (F r2)) = 0 then oc (v_X4_at R ((F r2).1 1)) (kk (v_X6_refuse N 3) (fun q10 : Int32 × nT => (q10.1, q10.2))) (fun r8 : Nat => if (v_X0_isOf (P.2 r8) x2) = 0 then kk (v_X6_refuse N 2) (fun q28 : Int32 × nT => (q28.1, q28.2)) else if x2 = 1 then (P.2 r8 4, N) else if x2 = 2 then (P.2 r8 3, N) else if x2 = 3 then (P.2 r8 3, N) else if x2 = 4 then ((v_X0_step (P.2 r8)), N) else if x2 = 5 then ((v_X0_step (P.2 r8)), N) else if x2 = 6 then (P.2 r8 4, N) else ((v_X4_nerveOf R ((F r2).1 1)), N)) else kk (v_X6_refuse N 2) (fun q30 : Int32 × nT => (q30.1, q30.2)))
def p_X6_says (P : pT) (N : nT) (R : rT) (F : fT) (x1 : Int32) (x2 : Int32) : Prop := p_X6_shelfAt N x1 ∧ (oc (v_X6_shelfAt N x1) (p_X6_refuse N 1) (fun r2 : Nat => if (v_X6_within x2 0 6) = 0 then p_X6_refuse N 1 else if (v_X5_isRow (F r2)) = 0 then (p_X4_at R ((F r2).1 1)) ∧ (oc (v_X4_at R ((F r2).1 1)) (p_X6_refuse N 3) (fun r8 : Nat => (r8 ∈ P.1) ∧ ((p_X0_isOf (P.2 r8) x2) ∧ (if (v_X0_isOf (P.2 r8) x2) = 0 then p_X6_refuse N 2 else if x2 = 1 then r8 ∈ P.1 else if x2 = 2 then r8 ∈ P.1 else if x2 = 3 then r8 ∈ P.1 else if x2 = 4 then r8 ∈ P.1 else if x2 = 5 then r8 ∈ P.1 else if x2 = 6 then r8 ∈ P.1 else p_X4_nerveOf R ((F r2).1 1))))) else p_X6_refuse N 2))
set_option maxHeartbeats 800000 in
theorem c_X6_says {l : Launch} (G : zG) (P : pT) (a : Nat → Nat) (sz : Nat) (N : nT) (R : rT) (F : fT) (x1 : Int32) (x2 : Int32) (hp : p_X6_says P N R F x1 x2) : Met l yX6_says (.code yX6_says k_X6_says.1 k_X6_says.2.1 k_X6_says.2.2.2.1 :: TS) k_X6_says.2.2.2.2 (Pz G [.ref (a 0), .int x1, .int x2] (Fw G (gX G P) (maW G a N ++ rdW G (sh a 10) R ++ faW G a F) sz)) (Qwi G (fun r w => r = (v_X6_says P N R F x1 x2).1 ∧ w = maW G a ((v_X6_says P N R F x1 x2).2) ++ rdW G (sh a 10) R ++ faW G a F) (va_A (maW G a N ++ rdW G (sh a 10) R ++ faW G a F) sz)) 0 0 (va_A (maW G a N ++ rdW G (sh a 10) R ++ faW G a F) sz) := by
  refine zmet (K := k_X6_says) (by decide +kernel) rfl rfl (fun Γ hl0 hQ hN hF => ?_)
  refine z_start (gX_ok G P) hF (fun hw => ?_)
  generalize va_A (maW G a N ++ rdW G (sh a 10) R ++ faW G a F) sz = A at hQ hw ⊢
  obtain ⟨res, hv⟩ : ∃ res, v_X6_says P N R F x1 x2 = res := ⟨_, rfl⟩
  rw [hv] at hQ
  unfold v_X6_says at hv
  unfold p_X6_says at hp
  show Z k_X6_says G Γ _ 0 0 [(0, .ref (a 0)), (1, .int x1), (2, .int x2)] 0 []
  refine z_aload_n dX6_says_0 rfl ?_
  refine z_iload_n dX6_says_1 rfl ?_
  obtain ⟨q1, hp⟩ := hp
  refine z_cvq (c_X6_shelfAt G P a N x1 q1) zc_X6_shelfAt zv_X6_shelfAt tw_m_RX6_66 (zrec_of wr_P 0 rfl rfl) (fr_all (sub_P wr_P [0, 1, 2] rfl) (wr_G hw)) (zroom_of rfl) rfl (Nat.le_of_ble_eq_true rfl) dX6_says_2 ?_
  suffices z33 : ∀ r2 : Option Nat, r2 = (v_X6_shelfAt N x1) → (∀ k : Nat, r2 = some k → k < 8) → Z k_X6_says G Γ (wr G A Γ.2.2.1.1.heap (maW G a N ++ rdW G (sh a 10) R ++ faW G a F)) 0 0 [(0, .ref (a 0)), (1, .int x1), (2, .int x2)] 5 [va_rf (r2.map (fun k => sh a (30 + 2 * k) 0))] from z33 _ rfl (shelfAt_lt N x1)
  intro r2 hr2 fr2
  have hp := oc_pq hp hr2
  have hv := oc_vq hv hr2
  clear hr2
  rcases r2 with _ | r2
  · have hp := oc_pn hp; have hv := oc_n hv
    refine z_astore_nN (lv' := [(3, .null), (0, .ref (a 0)), (1, .int x1), (2, .int x2)]) dX6_says_5 (Nat.le_of_ble_eq_true rfl) rfl ?_
    refine z_aload_nN dX6_says_6 rfl ?_
    refine z_ifnullN (tgt := 20) dX6_says_7 (by decide) ?_
    refine z_aload_n dX6_says_20 rfl ?_
    refine z_iconst (v := 1) dX6_says_21 rfl ?_
    have q3 := hp
    refine z_cwviD (ws' := maW G a ((v_X6_refuse N 1).2) ++ rdW G (sh a 10) R ++ faW G a F) hw (fun sz => c_X6_refuse G P a sz N 1 q3) [0, 1, 2] [3, 4, 5, 6, 7, 8, 9, 10, 11, 12, 13, 14, 15, 16, 17, 18, 19, 20, 21, 22, 23] [21, 22, 23, 0, 1, 2, 3, 4, 5, 6, 7, 8, 9, 10, 11, 12, 13, 14, 15, 16, 17, 18, 19, 20] 24 rfl rfl rfl rfl zc_X6_refuse zv_X6_refuse tw_m_RX6_70 (zrec_of wr_P 0 rfl rfl) (zroom_of rfl) rfl (Nat.le_of_ble_eq_true rfl) dX6_says_22 ?_
    suffices z34 : ∀ q4 : Int32 × nT, q4 = (v_X6_refuse N 1) → Z k_X6_says G Γ (wr G A Γ.2.2.1.1.heap (maW G a q4.2 ++ rdW G (sh a 10) R ++ faW G a F)) 0 0 [(3, .null), (0, .ref (a 0)), (1, .int x1), (2, .int x2)] 25 [.int q4.1] from z34 _ rfl
    intro q4 hq4
    have hv := kk_vq hv hq4
    clear hq4
    subst hv; exact z_iret_W hQ rfl rfl rfl ⟨rfl, rfl⟩ dX6_says_25
  · have hp := oc_ps hp; have hv := oc_s hv
    have hr2 := fr2 _ rfl; clear fr2
    refine z_astore_n (lv' := [(3, .ref (sh a (30 + 2 * r2) 0)), (0, .ref (a 0)), (1, .int x1), (2, .int x2)]) dX6_says_5 (Nat.le_of_ble_eq_true rfl) rfl ?_
    refine z_aload_n dX6_says_6 rfl ?_
    refine z_ifnull dX6_says_7 ?_
    refine z_iload_n dX6_says_10 rfl ?_
    refine z_iconst (v := 0) dX6_says_11 rfl ?_
    refine z_bipush (v := 6) dX6_says_12 rfl ?_
    refine z_csi (c_X6_within G P x2 0 6 ) zc_X6_within tw_st_yX6_within tw_m_RX6_74 (fr_all (sub_P wr_P [] rfl) (wr_G hw)) (zroom_of rfl) rfl (Nat.le_of_ble_eq_true rfl) dX6_says_14 ?_
    refine z_if_ne (tgt := 26) dX6_says_17 (by decide) (fun c5 => ?_) (fun c5 => ?_)
    · have hp := ip_f hp c5; have hv := it_f hv c5
      refine z_aload_n dX6_says_26 rfl ?_
      refine z_cvi (c_X5_isRow G P (sh a (30 + 2 * r2)) (F r2) ) zc_X5_isRow zv_X5_isRow tw_m_RX6_97 (zrec_of (fam_P (a := a) hr2 (sub_P wr_P [8, 9, 10, 11, 12, 13, 14, 15, 16, 17, 18, 19, 20, 21, 22, 23] rfl)) 0 rfl rfl) (fr_all (fam_P (a := a) hr2 (sub_P wr_P [8, 9, 10, 11, 12, 13, 14, 15, 16, 17, 18, 19, 20, 21, 22, 23] rfl)) (wr_G hw)) (zroom_of rfl) rfl (Nat.le_of_ble_eq_true rfl) dX6_says_27 ?_
      refine z_if_eq (tgt := 39) dX6_says_30 (by decide) (fun c6 => ?_) (fun c6 => ?_)
      · have hp := ip_t hp c6; have hv := it_t hv c6
        refine z_aload_n dX6_says_39 rfl ?_
        refine z_get (v := .ref ((sh a 10) 0)) wr_P 0 rfl rfl uin_X6 0 (Nat.le_of_ble_eq_true rfl) tw_f_RX6_10 rfl rfl dX6_says_40 ?_
        refine z_aload_n dX6_says_43 rfl ?_
        refine z_get (v := .int ((F r2).1 1)) (fam_P (a := a) hr2 (sub_P wr_P [8, 9, 10, 11, 12, 13, 14, 15, 16, 17, 18, 19, 20, 21, 22, 23] rfl)) 0 rfl rfl uin_X5 1 (Nat.le_of_ble_eq_true rfl) tw_f_RX6_100 rfl rfl dX6_says_44 ?_
        obtain ⟨q7, hp⟩ := hp
        refine z_cvq (c_X4_at G P (sh a 10) R ((F r2).1 1) q7) zc_X4_at zv_X4_at tw_m_RX6_128 (zrec_of wr_P 3 rfl rfl) (fr_all (sub_P wr_P [3, 4, 5, 6, 7] rfl) (wr_G hw)) (zroom_of rfl) rfl (Nat.le_of_ble_eq_true rfl) dX6_says_47 ?_
        suffices z35 : ∀ r8 : Option Nat, r8 = (v_X4_at R ((F r2).1 1)) → Z k_X6_says G Γ (wr G A Γ.2.2.1.1.heap (maW G a N ++ rdW G (sh a 10) R ++ faW G a F)) 0 0 [(3, .ref (sh a (30 + 2 * r2) 0)), (0, .ref (a 0)), (1, .int x1), (2, .int x2)] 50 [va_rf r8] from z35 _ rfl
        intro r8 hr8
        have hp := oc_pq hp hr8
        have hv := oc_vq hv hr8
        clear hr8
        rcases r8 with _ | r8
        · have hp := oc_pn hp; have hv := oc_n hv
          refine z_astoreN (lv' := [(4, .null), (3, .ref (sh a (30 + 2 * r2) 0)), (0, .ref (a 0)), (1, .int x1), (2, .int x2)]) dX6_says_50 (Nat.le_of_ble_eq_true rfl) rfl ?_
          refine z_aloadN dX6_says_52 rfl ?_
          refine z_ifnonnullN dX6_says_54 ?_
          refine z_aload_n dX6_says_57 rfl ?_
          refine z_iconst (v := 3) dX6_says_58 rfl ?_
          have q9 := hp
          refine z_cwviD (ws' := maW G a ((v_X6_refuse N 3).2) ++ rdW G (sh a 10) R ++ faW G a F) hw (fun sz => c_X6_refuse G P a sz N 3 q9) [0, 1, 2] [3, 4, 5, 6, 7, 8, 9, 10, 11, 12, 13, 14, 15, 16, 17, 18, 19, 20, 21, 22, 23] [21, 22, 23, 0, 1, 2, 3, 4, 5, 6, 7, 8, 9, 10, 11, 12, 13, 14, 15, 16, 17, 18, 19, 20] 24 rfl rfl rfl rfl zc_X6_refuse zv_X6_refuse tw_m_RX6_70 (zrec_of wr_P 0 rfl rfl) (zroom_of rfl) rfl (Nat.le_of_ble_eq_true rfl) dX6_says_59 ?_
          suffices z36 : ∀ q10 : Int32 × nT, q10 = (v_X6_refuse N 3) → Z k_X6_says G Γ (wr G A Γ.2.2.1.1.heap (maW G a q10.2 ++ rdW G (sh a 10) R ++ faW G a F)) 0 0 [(4, .null), (3, .ref (sh a (30 + 2 * r2) 0)), (0, .ref (a 0)), (1, .int x1), (2, .int x2)] 62 [.int q10.1] from z36 _ rfl
          intro q10 hq10
          have hv := kk_vq hv hq10
          clear hq10
          subst hv; exact z_iret_W hQ rfl rfl rfl ⟨rfl, rfl⟩ dX6_says_62
        · have hp := oc_ps hp; have hv := oc_s hv
          refine z_astore (lv' := [(4, .ref r8), (3, .ref (sh a (30 + 2 * r2) 0)), (0, .ref (a 0)), (1, .int x1), (2, .int x2)]) dX6_says_50 (Nat.le_of_ble_eq_true rfl) rfl ?_
          refine z_aload dX6_says_52 rfl ?_
          refine z_ifnonnull (tgt := 63) dX6_says_54 (by decide) ?_
          refine z_aload dX6_says_63 rfl ?_
          refine z_iload_n dX6_says_65 rfl ?_
          obtain ⟨q12, hp⟩ := hp
          skip
          obtain ⟨q11, hp⟩ := hp
          refine z_cvi (c_X0_isOf G P r8 (P.2 r8) x2 q11) zc_X0_isOf zv_X0_isOf tw_m_RX6_132 (zrec_of (cm_P (wr_G hw) q12) 0 rfl rfl) (fr_all (cm_P (wr_G hw) q12) (wr_G hw)) (zroom_of rfl) rfl (Nat.le_of_ble_eq_true rfl) dX6_says_66 ?_
          refine z_if_ne (tgt := 78) dX6_says_69 (by decide) (fun c13 => ?_) (fun c13 => ?_)
          · have hp := ip_f hp c13; have hv := it_f hv c13
            refine z_iload_n dX6_says_78 rfl ?_
            by_cases c15 : x2 = 1
            · have hp := ip_t hp c15; have hv := it_t hv c15
              refine z_tableIn (tgt := 116) dX6_says_79 1 c15 (by decide) (by decide) rfl (by decide) ?_
              refine z_aload dX6_says_116 rfl ?_
              have q14 := hp
              skip
              refine z_get (v := .int (P.2 r8 4)) (cm_P (wr_G hw) q14) 0 rfl rfl uin_X0 4 (Nat.le_of_ble_eq_true rfl) tw_f_RX6_137 rfl rfl dX6_says_118 ?_
              subst hv; exact z_iret_W hQ rfl rfl rfl ⟨rfl, rfl⟩ dX6_says_121
            have hp := ip_f hp c15
            have hv := it_f hv c15
            by_cases c17 : x2 = 2
            · have hp := ip_t hp c17; have hv := it_t hv c17
              refine z_tableIn (tgt := 122) dX6_says_79 2 c17 (by decide) (by decide) rfl (by decide) ?_
              refine z_aload dX6_says_122 rfl ?_
              have q16 := hp
              skip
              refine z_get (v := .int (P.2 r8 3)) (cm_P (wr_G hw) q16) 0 rfl rfl uin_X0 3 (Nat.le_of_ble_eq_true rfl) tw_f_RX6_140 rfl rfl dX6_says_124 ?_
              subst hv; exact z_iret_W hQ rfl rfl rfl ⟨rfl, rfl⟩ dX6_says_127
            have hp := ip_f hp c17
            have hv := it_f hv c17
            by_cases c19 : x2 = 3
            · have hp := ip_t hp c19; have hv := it_t hv c19
              refine z_tableIn (tgt := 122) dX6_says_79 3 c19 (by decide) (by decide) rfl (by decide) ?_
              refine z_aload dX6_says_122 rfl ?_
              have q18 := hp
              skip
              refine z_get (v := .int (P.2 r8 3)) (cm_P (wr_G hw) q18) 0 rfl rfl uin_X0 3 (Nat.le_of_ble_eq_true rfl) tw_f_RX6_140 rfl rfl dX6_says_124 ?_
              subst hv; exact z_iret_W hQ rfl rfl rfl ⟨rfl, rfl⟩ dX6_says_127
            have hp := ip_f hp c19
            have hv := it_f hv c19
            by_cases c21 : x2 = 4
            · have hp := ip_t hp c21; have hv := it_t hv c21
              refine z_tableIn (tgt := 128) dX6_says_79 4 c21 (by decide) (by decide) rfl (by decide) ?_
              refine z_aload dX6_says_128 rfl ?_
              have q20 := hp
              skip
              refine z_cvi (c_X0_step G P r8 (P.2 r8) ) zc_X0_step zv_X0_step tw_m_RX6_143 (zrec_of (cm_P (wr_G hw) q20) 0 rfl rfl) (fr_all (cm_P (wr_G hw) q20) (wr_G hw)) (zroom_of rfl) rfl (Nat.le_of_ble_eq_true rfl) dX6_says_130 ?_
              subst hv; exact z_iret_W hQ rfl rfl rfl ⟨rfl, rfl⟩ dX6_says_133
            have hp := ip_f hp c21
            have hv := it_f hv c21
            by_cases c23 : x2 = 5
            · have hp := ip_t hp c23; have hv := it_t hv c23
              refine z_tableIn (tgt := 128) dX6_says_79 5 c23 (by decide) (by decide) rfl (by decide) ?_
              refine z_aload dX6_says_128 rfl ?_
              have q22 := hp
              skip
              refine z_cvi (c_X0_step G P r8 (P.2 r8) ) zc_X0_step zv_X0_step tw_m_RX6_143 (zrec_of (cm_P (wr_G hw) q22) 0 rfl rfl) (fr_all (cm_P (wr_G hw) q22) (wr_G hw)) (zroom_of rfl) rfl (Nat.le_of_ble_eq_true rfl) dX6_says_130 ?_
              subst hv; exact z_iret_W hQ rfl rfl rfl ⟨rfl, rfl⟩ dX6_says_133
            have hp := ip_f hp c23
            have hv := it_f hv c23
            by_cases c25 : x2 = 6
            · have hp := ip_t hp c25; have hv := it_t hv c25
              refine z_tableIn (tgt := 116) dX6_says_79 6 c25 (by decide) (by decide) rfl (by decide) ?_
              refine z_aload dX6_says_116 rfl ?_
              have q24 := hp
              skip
              refine z_get (v := .int (P.2 r8 4)) (cm_P (wr_G hw) q24) 0 rfl rfl uin_X0 4 (Nat.le_of_ble_eq_true rfl) tw_f_RX6_137 rfl rfl dX6_says_118 ?_
              subst hv; exact z_iret_W hQ rfl rfl rfl ⟨rfl, rfl⟩ dX6_says_121
            have hp := ip_f hp c25
            have hv := it_f hv c25
            refine z_tableOut (tgt := 134) dX6_says_79 (zout6_1 c15 c17 c19 c21 c23 c25) (by decide) ?_
            refine z_aload_n dX6_says_134 rfl ?_
            refine z_get (v := .ref ((sh a 10) 0)) wr_P 0 rfl rfl uin_X6 0 (Nat.le_of_ble_eq_true rfl) tw_f_RX6_10 rfl rfl dX6_says_135 ?_
            refine z_aload_n dX6_says_138 rfl ?_
            refine z_get (v := .int ((F r2).1 1)) (fam_P (a := a) hr2 (sub_P wr_P [8, 9, 10, 11, 12, 13, 14, 15, 16, 17, 18, 19, 20, 21, 22, 23] rfl)) 0 rfl rfl uin_X5 1 (Nat.le_of_ble_eq_true rfl) tw_f_RX6_100 rfl rfl dX6_says_139 ?_
            have q26 := hp
            refine z_cvi (c_X4_nerveOf G P (sh a 10) R ((F r2).1 1) q26) zc_X4_nerveOf zv_X4_nerveOf tw_m_RX6_147 (zrec_of wr_P 3 rfl rfl) (fr_all (sub_P wr_P [3, 4, 5, 6, 7] rfl) (wr_G hw)) (zroom_of rfl) rfl (Nat.le_of_ble_eq_true rfl) dX6_says_142 ?_
            subst hv; exact z_iret_W hQ rfl rfl rfl ⟨rfl, rfl⟩ dX6_says_145
          · have hp := ip_t hp c13; have hv := it_t hv c13
            refine z_aload_n dX6_says_72 rfl ?_
            refine z_iconst (v := 2) dX6_says_73 rfl ?_
            have q27 := hp
            refine z_cwviD (ws' := maW G a ((v_X6_refuse N 2).2) ++ rdW G (sh a 10) R ++ faW G a F) hw (fun sz => c_X6_refuse G P a sz N 2 q27) [0, 1, 2] [3, 4, 5, 6, 7, 8, 9, 10, 11, 12, 13, 14, 15, 16, 17, 18, 19, 20, 21, 22, 23] [21, 22, 23, 0, 1, 2, 3, 4, 5, 6, 7, 8, 9, 10, 11, 12, 13, 14, 15, 16, 17, 18, 19, 20] 24 rfl rfl rfl rfl zc_X6_refuse zv_X6_refuse tw_m_RX6_70 (zrec_of wr_P 0 rfl rfl) (zroom_of rfl) rfl (Nat.le_of_ble_eq_true rfl) dX6_says_74 ?_
            suffices z37 : ∀ q28 : Int32 × nT, q28 = (v_X6_refuse N 2) → Z k_X6_says G Γ (wr G A Γ.2.2.1.1.heap (maW G a q28.2 ++ rdW G (sh a 10) R ++ faW G a F)) 0 0 [(4, .ref r8), (3, .ref (sh a (30 + 2 * r2) 0)), (0, .ref (a 0)), (1, .int x1), (2, .int x2)] 77 [.int q28.1] from z37 _ rfl
            intro q28 hq28
            have hv := kk_vq hv hq28
            clear hq28
            subst hv; exact z_iret_W hQ rfl rfl rfl ⟨rfl, rfl⟩ dX6_says_77
      · have hp := ip_f hp c6; have hv := it_f hv c6
        refine z_aload_n dX6_says_33 rfl ?_
        refine z_iconst (v := 2) dX6_says_34 rfl ?_
        have q29 := hp
        refine z_cwviD (ws' := maW G a ((v_X6_refuse N 2).2) ++ rdW G (sh a 10) R ++ faW G a F) hw (fun sz => c_X6_refuse G P a sz N 2 q29) [0, 1, 2] [3, 4, 5, 6, 7, 8, 9, 10, 11, 12, 13, 14, 15, 16, 17, 18, 19, 20, 21, 22, 23] [21, 22, 23, 0, 1, 2, 3, 4, 5, 6, 7, 8, 9, 10, 11, 12, 13, 14, 15, 16, 17, 18, 19, 20] 24 rfl rfl rfl rfl zc_X6_refuse zv_X6_refuse tw_m_RX6_70 (zrec_of wr_P 0 rfl rfl) (zroom_of rfl) rfl (Nat.le_of_ble_eq_true rfl) dX6_says_35 ?_
        suffices z38 : ∀ q30 : Int32 × nT, q30 = (v_X6_refuse N 2) → Z k_X6_says G Γ (wr G A Γ.2.2.1.1.heap (maW G a q30.2 ++ rdW G (sh a 10) R ++ faW G a F)) 0 0 [(3, .ref (sh a (30 + 2 * r2) 0)), (0, .ref (a 0)), (1, .int x1), (2, .int x2)] 38 [.int q30.1] from z38 _ rfl
        intro q30 hq30
        have hv := kk_vq hv hq30
        clear hq30
        subst hv; exact z_iret_W hQ rfl rfl rfl ⟨rfl, rfl⟩ dX6_says_38
    · have hp := ip_t hp c5; have hv := it_t hv c5
      refine z_aload_n dX6_says_20 rfl ?_
      refine z_iconst (v := 1) dX6_says_21 rfl ?_
      have q31 := hp
      refine z_cwviD (ws' := maW G a ((v_X6_refuse N 1).2) ++ rdW G (sh a 10) R ++ faW G a F) hw (fun sz => c_X6_refuse G P a sz N 1 q31) [0, 1, 2] [3, 4, 5, 6, 7, 8, 9, 10, 11, 12, 13, 14, 15, 16, 17, 18, 19, 20, 21, 22, 23] [21, 22, 23, 0, 1, 2, 3, 4, 5, 6, 7, 8, 9, 10, 11, 12, 13, 14, 15, 16, 17, 18, 19, 20] 24 rfl rfl rfl rfl zc_X6_refuse zv_X6_refuse tw_m_RX6_70 (zrec_of wr_P 0 rfl rfl) (zroom_of rfl) rfl (Nat.le_of_ble_eq_true rfl) dX6_says_22 ?_
      suffices z39 : ∀ q32 : Int32 × nT, q32 = (v_X6_refuse N 1) → Z k_X6_says G Γ (wr G A Γ.2.2.1.1.heap (maW G a q32.2 ++ rdW G (sh a 10) R ++ faW G a F)) 0 0 [(3, .ref (sh a (30 + 2 * r2) 0)), (0, .ref (a 0)), (1, .int x1), (2, .int x2)] 25 [.int q32.1] from z39 _ rfl
      intro q32 hq32
      have hv := kk_vq hv hq32
      clear hq32
      subst hv; exact z_iret_W hQ rfl rfl rfl ⟨rfl, rfl⟩ dX6_says_25
theorem dX6_ask_0 : decode cX6_ask 0 = .ok (.iload_n 1, 1) := by decide +kernel
theorem dX6_ask_1 : decode cX6_ask 1 = .ok (.ifCond .ne 32, 3) := by decide +kernel
theorem dX6_ask_4 : decode cX6_ask 4 = .ok (.iload_n 2, 1) := by decide +kernel
theorem dX6_ask_5 : decode cX6_ask 5 = .ok (.iconst 1, 1) := by decide +kernel
theorem dX6_ask_6 : decode cX6_ask 6 = .ok (.bipush 20, 2) := by decide +kernel
theorem dX6_ask_8 : decode cX6_ask 8 = .ok (.invokestatic 74, 3) := by decide +kernel
theorem dX6_ask_11 : decode cX6_ask 11 = .ok (.ifCond .eq 22, 3) := by decide +kernel
theorem dX6_ask_14 : decode cX6_ask 14 = .ok (.aload_n 0, 1) := by decide +kernel
theorem dX6_ask_15 : decode cX6_ask 15 = .ok (.getfield 10, 3) := by decide +kernel
theorem dX6_ask_18 : decode cX6_ask 18 = .ok (.getfield 160, 3) := by decide +kernel
theorem dX6_ask_21 : decode cX6_ask 21 = .ok (.istore_n 3, 1) := by decide +kernel
theorem dX6_ask_22 : decode cX6_ask 22 = .ok (.aload_n 0, 1) := by decide +kernel
theorem dX6_ask_23 : decode cX6_ask 23 = .ok (.getfield 10, 3) := by decide +kernel
theorem dX6_ask_26 : decode cX6_ask 26 = .ok (.iload_n 2, 1) := by decide +kernel
theorem dX6_ask_27 : decode cX6_ask 27 = .ok (.putfield 160, 3) := by decide +kernel
theorem dX6_ask_30 : decode cX6_ask 30 = .ok (.goto 112, 3) := by decide +kernel
theorem dX6_ask_33 : decode cX6_ask 33 = .ok (.iload_n 1, 1) := by decide +kernel
theorem dX6_ask_34 : decode cX6_ask 34 = .ok (.iconst 1, 1) := by decide +kernel
theorem dX6_ask_35 : decode cX6_ask 35 = .ok (.if_icmp .ne 32, 3) := by decide +kernel
theorem dX6_ask_38 : decode cX6_ask 38 = .ok (.iload_n 2, 1) := by decide +kernel
theorem dX6_ask_39 : decode cX6_ask 39 = .ok (.iconst 0, 1) := by decide +kernel
theorem dX6_ask_40 : decode cX6_ask 40 = .ok (.bipush 9, 2) := by decide +kernel
theorem dX6_ask_42 : decode cX6_ask 42 = .ok (.invokestatic 74, 3) := by decide +kernel
theorem dX6_ask_45 : decode cX6_ask 45 = .ok (.ifCond .eq 22, 3) := by decide +kernel
theorem dX6_ask_48 : decode cX6_ask 48 = .ok (.aload_n 0, 1) := by decide +kernel
theorem dX6_ask_49 : decode cX6_ask 49 = .ok (.getfield 10, 3) := by decide +kernel
theorem dX6_ask_52 : decode cX6_ask 52 = .ok (.getfield 163, 3) := by decide +kernel
theorem dX6_ask_55 : decode cX6_ask 55 = .ok (.istore_n 3, 1) := by decide +kernel
theorem dX6_ask_56 : decode cX6_ask 56 = .ok (.aload_n 0, 1) := by decide +kernel
theorem dX6_ask_57 : decode cX6_ask 57 = .ok (.getfield 10, 3) := by decide +kernel
theorem dX6_ask_60 : decode cX6_ask 60 = .ok (.iload_n 2, 1) := by decide +kernel
theorem dX6_ask_61 : decode cX6_ask 61 = .ok (.putfield 163, 3) := by decide +kernel
theorem dX6_ask_64 : decode cX6_ask 64 = .ok (.goto 78, 3) := by decide +kernel
theorem dX6_ask_67 : decode cX6_ask 67 = .ok (.iload_n 1, 1) := by decide +kernel
theorem dX6_ask_68 : decode cX6_ask 68 = .ok (.iconst 2, 1) := by decide +kernel
theorem dX6_ask_69 : decode cX6_ask 69 = .ok (.if_icmp .ne 32, 3) := by decide +kernel
theorem dX6_ask_72 : decode cX6_ask 72 = .ok (.iload_n 2, 1) := by decide +kernel
theorem dX6_ask_73 : decode cX6_ask 73 = .ok (.iconst 1, 1) := by decide +kernel
theorem dX6_ask_74 : decode cX6_ask 74 = .ok (.bipush 99, 2) := by decide +kernel
theorem dX6_ask_76 : decode cX6_ask 76 = .ok (.invokestatic 74, 3) := by decide +kernel
theorem dX6_ask_79 : decode cX6_ask 79 = .ok (.ifCond .eq 22, 3) := by decide +kernel
theorem dX6_ask_82 : decode cX6_ask 82 = .ok (.aload_n 0, 1) := by decide +kernel
theorem dX6_ask_83 : decode cX6_ask 83 = .ok (.getfield 10, 3) := by decide +kernel
theorem dX6_ask_86 : decode cX6_ask 86 = .ok (.getfield 166, 3) := by decide +kernel
theorem dX6_ask_89 : decode cX6_ask 89 = .ok (.istore_n 3, 1) := by decide +kernel
theorem dX6_ask_90 : decode cX6_ask 90 = .ok (.aload_n 0, 1) := by decide +kernel
theorem dX6_ask_91 : decode cX6_ask 91 = .ok (.getfield 10, 3) := by decide +kernel
theorem dX6_ask_94 : decode cX6_ask 94 = .ok (.iload_n 2, 1) := by decide +kernel
theorem dX6_ask_95 : decode cX6_ask 95 = .ok (.putfield 166, 3) := by decide +kernel
theorem dX6_ask_98 : decode cX6_ask 98 = .ok (.goto 44, 3) := by decide +kernel
theorem dX6_ask_101 : decode cX6_ask 101 = .ok (.iload_n 1, 1) := by decide +kernel
theorem dX6_ask_102 : decode cX6_ask 102 = .ok (.iconst 3, 1) := by decide +kernel
theorem dX6_ask_103 : decode cX6_ask 103 = .ok (.if_icmp .ne 32, 3) := by decide +kernel
theorem dX6_ask_106 : decode cX6_ask 106 = .ok (.iload_n 2, 1) := by decide +kernel
theorem dX6_ask_107 : decode cX6_ask 107 = .ok (.iconst 1, 1) := by decide +kernel
theorem dX6_ask_108 : decode cX6_ask 108 = .ok (.bipush 99, 2) := by decide +kernel
theorem dX6_ask_110 : decode cX6_ask 110 = .ok (.invokestatic 74, 3) := by decide +kernel
theorem dX6_ask_113 : decode cX6_ask 113 = .ok (.ifCond .eq 22, 3) := by decide +kernel
theorem dX6_ask_116 : decode cX6_ask 116 = .ok (.aload_n 0, 1) := by decide +kernel
theorem dX6_ask_117 : decode cX6_ask 117 = .ok (.getfield 10, 3) := by decide +kernel
theorem dX6_ask_120 : decode cX6_ask 120 = .ok (.getfield 169, 3) := by decide +kernel
theorem dX6_ask_123 : decode cX6_ask 123 = .ok (.istore_n 3, 1) := by decide +kernel
theorem dX6_ask_124 : decode cX6_ask 124 = .ok (.aload_n 0, 1) := by decide +kernel
theorem dX6_ask_125 : decode cX6_ask 125 = .ok (.getfield 10, 3) := by decide +kernel
theorem dX6_ask_128 : decode cX6_ask 128 = .ok (.iload_n 2, 1) := by decide +kernel
theorem dX6_ask_129 : decode cX6_ask 129 = .ok (.putfield 169, 3) := by decide +kernel
theorem dX6_ask_132 : decode cX6_ask 132 = .ok (.goto 10, 3) := by decide +kernel
theorem dX6_ask_135 : decode cX6_ask 135 = .ok (.aload_n 0, 1) := by decide +kernel
theorem dX6_ask_136 : decode cX6_ask 136 = .ok (.bipush 6, 2) := by decide +kernel
theorem dX6_ask_138 : decode cX6_ask 138 = .ok (.invokevirtual 70, 3) := by decide +kernel
theorem dX6_ask_141 : decode cX6_ask 141 = .ok (.ireturn, 1) := by decide +kernel
theorem dX6_ask_142 : decode cX6_ask 142 = .ok (.iload_n 3, 1) := by decide +kernel
theorem dX6_ask_143 : decode cX6_ask 143 = .ok (.ireturn, 1) := by decide +kernel
abbrev k_X6_ask : zK := (cX6_ask, 4, RX6, (some .int), ({ frames := 1, cells := 0, slots := 0, locals := 22 } : Room))
theorem zc_X6_ask : zcal yX6_ask k_X6_ask.1 k_X6_ask.2.1 k_X6_ask.2.2.2.1 2 := ⟨tw_code_yX6_ask, tw_i_TollForHesitators, ⟨by decide +kernel, by decide +kernel⟩, by decide +kernel⟩
theorem zv_X6_ask : Cond.instanceMethod yX6_ask ∈ TS ∧ Cond.selects RX6 yX6_ask yX6_ask ∈ TS := ⟨tw_inst_yX6_ask, tw_s_yX6_ask⟩
def v_X6_ask (N : nT) (R : rT) (x1 : Int32) (x2 : Int32) : Int32 × nT × rT := if x1 = 0 then if (v_X6_within x2 1 20) = 0 then if x1 = 1 then if (v_X6_within x2 0 9) = 0 then if x1 = 2 then if (v_X6_within x2 1 99) = 0 then if x1 = 3 then if (v_X6_within x2 1 99) = 0 then kk (v_X6_refuse N 6) (fun q62 : Int32 × nT => (q62.1, (q62.2, R))) else (R.1 8, (N, rsf R 8 x2)) else kk (v_X6_refuse N 6) (fun q59 : Int32 × nT => (q59.1, (q59.2, R))) else (R.1 7, (N, rsf R 7 x2)) else if x1 = 3 then if (v_X6_within x2 1 99) = 0 then kk (v_X6_refuse N 6) (fun q55 : Int32 × nT => (q55.1, (q55.2, R))) else (R.1 8, (N, rsf R 8 x2)) else kk (v_X6_refuse N 6) (fun q52 : Int32 × nT => (q52.1, (q52.2, R))) else (R.1 6, (N, rsf R 6 x2)) else if x1 = 2 then if (v_X6_within x2 1 99) = 0 then if x1 = 3 then if (v_X6_within x2 1 99) = 0 then kk (v_X6_refuse N 6) (fun q47 : Int32 × nT => (q47.1, (q47.2, R))) else (R.1 8, (N, rsf R 8 x2)) else kk (v_X6_refuse N 6) (fun q44 : Int32 × nT => (q44.1, (q44.2, R))) else (R.1 7, (N, rsf R 7 x2)) else if x1 = 3 then if (v_X6_within x2 1 99) = 0 then kk (v_X6_refuse N 6) (fun q40 : Int32 × nT => (q40.1, (q40.2, R))) else (R.1 8, (N, rsf R 8 x2)) else kk (v_X6_refuse N 6) (fun q37 : Int32 × nT => (q37.1, (q37.2, R))) else (R.1 5, (N, rsf R 5 x2)) else if x1 = 1 then if (v_X6_within x2 0 9) = 0 then if x1 = 2 then if (v_X6_within x2 1 99) = 0 then if x1 = 3 then if (v_X6_within x2 1 99) = 0 then kk (v_X6_refuse N 6) (fun q31 : Int32 × nT => (q31.1, (q31.2, R))) else (R.1 8, (N, rsf R 8 x2)) else kk (v_X6_refuse N 6) (fun q28 : Int32 × nT => (q28.1, (q28.2, R))) else (R.1 7, (N, rsf R 7 x2)) else if x1 = 3 then if (v_X6_within x2 1 99) = 0 then kk (v_X6_refuse N 6) (fun q24 : Int32 × nT => (q24.1, (q24.2, R))) else (R.1 8, (N, rsf R 8 x2)) else kk (v_X6_refuse N 6) (fun q21 : Int32 × nT => (q21.1, (q21.2, R))) else (R.1 6, (N, rsf R 6 x2)) else if x1 = 2 then if (v_X6_within x2 1 99) = 0 then if x1 = 3 then if (v_X6_within x2 1 99) = 0 then kk (v_X6_refuse N 6) (fun q16 : Int32 × nT => (q16.1, (q16.2, R))) else (R.1 8, (N, rsf R 8 x2)) else kk (v_X6_refuse N 6) (fun q13 : Int32 × nT => (q13.1, (q13.2, R))) else (R.1 7, (N, rsf R 7 x2)) else if x1 = 3 then if (v_X6_within x2 1 99) = 0 then kk (v_X6_refuse N 6) (fun q9 : Int32 × nT => (q9.1, (q9.2, R))) else (R.1 8, (N, rsf R 8 x2)) else kk (v_X6_refuse N 6) (fun q6 : Int32 × nT => (q6.1, (q6.2, R)))
def p_X6_ask (N : nT) (R : rT) (x1 : Int32) (x2 : Int32) : Prop := if x1 = 0 then if (v_X6_within x2 1 20) = 0 then if x1 = 1 then if (v_X6_within x2 0 9) = 0 then if x1 = 2 then if (v_X6_within x2 1 99) = 0 then if x1 = 3 then if (v_X6_within x2 1 99) = 0 then p_X6_refuse N 6 else True else p_X6_refuse N 6 else True else if x1 = 3 then if (v_X6_within x2 1 99) = 0 then p_X6_refuse N 6 else True else p_X6_refuse N 6 else True else if x1 = 2 then if (v_X6_within x2 1 99) = 0 then if x1 = 3 then if (v_X6_within x2 1 99) = 0 then p_X6_refuse N 6 else True else p_X6_refuse N 6 else True else if x1 = 3 then if (v_X6_within x2 1 99) = 0 then p_X6_refuse N 6 else True else p_X6_refuse N 6 else True else if x1 = 1 then if (v_X6_within x2 0 9) = 0 then if x1 = 2 then if (v_X6_within x2 1 99) = 0 then if x1 = 3 then if (v_X6_within x2 1 99) = 0 then p_X6_refuse N 6 else True else p_X6_refuse N 6 else True else if x1 = 3 then if (v_X6_within x2 1 99) = 0 then p_X6_refuse N 6 else True else p_X6_refuse N 6 else True else if x1 = 2 then if (v_X6_within x2 1 99) = 0 then if x1 = 3 then if (v_X6_within x2 1 99) = 0 then p_X6_refuse N 6 else True else p_X6_refuse N 6 else True else if x1 = 3 then if (v_X6_within x2 1 99) = 0 then p_X6_refuse N 6 else True else p_X6_refuse N 6
set_option maxHeartbeats 800000 in
theorem c_X6_ask {l : Launch} (G : zG) (P : pT) (a : Nat → Nat) (sz : Nat) (N : nT) (R : rT) (x1 : Int32) (x2 : Int32) (hp : p_X6_ask N R x1 x2) : Met l yX6_ask (.code yX6_ask k_X6_ask.1 k_X6_ask.2.1 k_X6_ask.2.2.2.1 :: TS) k_X6_ask.2.2.2.2 (Pz G [.ref (a 0), .int x1, .int x2] (Fw G (gX G P) (maW G a N ++ rdW G (sh a 10) R) sz)) (Qwi G (fun r w => r = (v_X6_ask N R x1 x2).1 ∧ w = maW G a ((v_X6_ask N R x1 x2).2.1) ++ rdW G (sh a 10) ((v_X6_ask N R x1 x2).2.2)) (va_A (maW G a N ++ rdW G (sh a 10) R) sz)) 0 0 (va_A (maW G a N ++ rdW G (sh a 10) R) sz) := by
  refine zmet (K := k_X6_ask) (by decide +kernel) rfl rfl (fun Γ hl0 hQ hN hF => ?_)
  refine z_start (gX_ok G P) hF (fun hw => ?_)
  generalize va_A (maW G a N ++ rdW G (sh a 10) R) sz = A at hQ hw ⊢
  obtain ⟨res, hv⟩ : ∃ res, v_X6_ask N R x1 x2 = res := ⟨_, rfl⟩
  rw [hv] at hQ
  unfold v_X6_ask at hv
  unfold p_X6_ask at hp
  show Z k_X6_ask G Γ _ 0 0 [(0, .ref (a 0)), (1, .int x1), (2, .int x2)] 0 []
  refine z_iload_n dX6_ask_0 rfl ?_
  refine z_if_ne (tgt := 33) dX6_ask_1 (by decide) (fun c1 => ?_) (fun c1 => ?_)
  · have hp := ip_f hp c1; have hv := it_f hv c1
    refine z_iload_n dX6_ask_33 rfl ?_
    refine z_iconst (v := 1) dX6_ask_34 rfl ?_
    refine z_icmp_ne (tgt := 67) dX6_ask_35 (by decide) (fun c2 => ?_) (fun c2 => ?_)
    · have hp := ip_f hp c2; have hv := it_f hv c2
      refine z_iload_n dX6_ask_67 rfl ?_
      refine z_iconst (v := 2) dX6_ask_68 rfl ?_
      refine z_icmp_ne (tgt := 101) dX6_ask_69 (by decide) (fun c3 => ?_) (fun c3 => ?_)
      · have hp := ip_f hp c3; have hv := it_f hv c3
        refine z_iload_n dX6_ask_101 rfl ?_
        refine z_iconst (v := 3) dX6_ask_102 rfl ?_
        refine z_icmp_ne (tgt := 135) dX6_ask_103 (by decide) (fun c4 => ?_) (fun c4 => ?_)
        · have hp := ip_f hp c4; have hv := it_f hv c4
          refine z_aload_n dX6_ask_135 rfl ?_
          refine z_bipush (v := 6) dX6_ask_136 rfl ?_
          have q5 := hp
          refine z_cwviD (ws' := maW G a ((v_X6_refuse N 6).2) ++ rdW G (sh a 10) R) hw (fun sz => c_X6_refuse G P a sz N 6 q5) [0, 1, 2] [3, 4, 5, 6, 7] [5, 6, 7, 0, 1, 2, 3, 4] 8 rfl rfl rfl rfl zc_X6_refuse zv_X6_refuse tw_m_RX6_70 (zrec_of wr_P 0 rfl rfl) (zroom_of rfl) rfl (Nat.le_of_ble_eq_true rfl) dX6_ask_138 ?_
          suffices z63 : ∀ q6 : Int32 × nT, q6 = (v_X6_refuse N 6) → Z k_X6_ask G Γ (wr G A Γ.2.2.1.1.heap (maW G a q6.2 ++ rdW G (sh a 10) R)) 0 0 [(0, .ref (a 0)), (1, .int x1), (2, .int x2)] 141 [.int q6.1] from z63 _ rfl
          intro q6 hq6
          have hv := kk_vq hv hq6
          clear hq6
          subst hv; exact z_iret_W hQ rfl rfl rfl ⟨rfl, rfl⟩ dX6_ask_141
        · have hp := ip_t hp c4; have hv := it_t hv c4
          refine z_iload_n dX6_ask_106 rfl ?_
          refine z_iconst (v := 1) dX6_ask_107 rfl ?_
          refine z_bipush (v := 99) dX6_ask_108 rfl ?_
          refine z_csi (c_X6_within G P x2 1 99 ) zc_X6_within tw_st_yX6_within tw_m_RX6_74 (fr_all (sub_P wr_P [] rfl) (wr_G hw)) (zroom_of rfl) rfl (Nat.le_of_ble_eq_true rfl) dX6_ask_110 ?_
          refine z_if_eq (tgt := 135) dX6_ask_113 (by decide) (fun c7 => ?_) (fun c7 => ?_)
          · have hp := ip_t hp c7; have hv := it_t hv c7
            refine z_aload_n dX6_ask_135 rfl ?_
            refine z_bipush (v := 6) dX6_ask_136 rfl ?_
            have q8 := hp
            refine z_cwviD (ws' := maW G a ((v_X6_refuse N 6).2) ++ rdW G (sh a 10) R) hw (fun sz => c_X6_refuse G P a sz N 6 q8) [0, 1, 2] [3, 4, 5, 6, 7] [5, 6, 7, 0, 1, 2, 3, 4] 8 rfl rfl rfl rfl zc_X6_refuse zv_X6_refuse tw_m_RX6_70 (zrec_of wr_P 0 rfl rfl) (zroom_of rfl) rfl (Nat.le_of_ble_eq_true rfl) dX6_ask_138 ?_
            suffices z64 : ∀ q9 : Int32 × nT, q9 = (v_X6_refuse N 6) → Z k_X6_ask G Γ (wr G A Γ.2.2.1.1.heap (maW G a q9.2 ++ rdW G (sh a 10) R)) 0 0 [(0, .ref (a 0)), (1, .int x1), (2, .int x2)] 141 [.int q9.1] from z64 _ rfl
            intro q9 hq9
            have hv := kk_vq hv hq9
            clear hq9
            subst hv; exact z_iret_W hQ rfl rfl rfl ⟨rfl, rfl⟩ dX6_ask_141
          · have hp := ip_f hp c7; have hv := it_f hv c7
            refine z_aload_n dX6_ask_116 rfl ?_
            refine z_get (v := .ref ((sh a 10) 0)) wr_P 0 rfl rfl uin_X6 0 (Nat.le_of_ble_eq_true rfl) tw_f_RX6_10 rfl rfl dX6_ask_117 ?_
            refine z_get (v := .int (R.1 8)) wr_P 3 rfl rfl uin_X4 8 (Nat.le_of_ble_eq_true rfl) tw_f_RX6_169 rfl rfl dX6_ask_120 ?_
            refine z_istore_n (lv' := [(3, .int (R.1 8)), (0, .ref (a 0)), (1, .int x1), (2, .int x2)]) dX6_ask_123 (Nat.le_of_ble_eq_true rfl) rfl ?_
            refine z_aload_n dX6_ask_124 rfl ?_
            refine z_get (v := .ref ((sh a 10) 0)) wr_P 0 rfl rfl uin_X6 0 (Nat.le_of_ble_eq_true rfl) tw_f_RX6_10 rfl rfl dX6_ask_125 ?_
            refine z_iload_n dX6_ask_128 rfl ?_
            refine z_put (fs := rdF (sh a 10) R) (v := .int x2) (ws' := maW G a N ++ rdW G (sh a 10) (rsf R 8 x2)) 3 rfl rfl uin_X4 tyX4 tyX4_ok nmX4 8 (Nat.le_of_ble_eq_true rfl) tw_f_RX6_169 rfl rfl (ty := .int) rfl rfl rfl (Nat.le_of_ble_eq_true rfl) rfl dX6_ask_129 ?_
            refine z_goto (tgt := 142) dX6_ask_132 (by decide) ?_
            refine z_iload_n dX6_ask_142 rfl ?_
            subst hv; exact z_iret_W hQ rfl rfl rfl ⟨rfl, rfl⟩ dX6_ask_143
      · have hp := ip_t hp c3; have hv := it_t hv c3
        refine z_iload_n dX6_ask_72 rfl ?_
        refine z_iconst (v := 1) dX6_ask_73 rfl ?_
        refine z_bipush (v := 99) dX6_ask_74 rfl ?_
        refine z_csi (c_X6_within G P x2 1 99 ) zc_X6_within tw_st_yX6_within tw_m_RX6_74 (fr_all (sub_P wr_P [] rfl) (wr_G hw)) (zroom_of rfl) rfl (Nat.le_of_ble_eq_true rfl) dX6_ask_76 ?_
        refine z_if_eq (tgt := 101) dX6_ask_79 (by decide) (fun c10 => ?_) (fun c10 => ?_)
        · have hp := ip_t hp c10; have hv := it_t hv c10
          refine z_iload_n dX6_ask_101 rfl ?_
          refine z_iconst (v := 3) dX6_ask_102 rfl ?_
          refine z_icmp_ne (tgt := 135) dX6_ask_103 (by decide) (fun c11 => ?_) (fun c11 => ?_)
          · have hp := ip_f hp c11; have hv := it_f hv c11
            refine z_aload_n dX6_ask_135 rfl ?_
            refine z_bipush (v := 6) dX6_ask_136 rfl ?_
            have q12 := hp
            refine z_cwviD (ws' := maW G a ((v_X6_refuse N 6).2) ++ rdW G (sh a 10) R) hw (fun sz => c_X6_refuse G P a sz N 6 q12) [0, 1, 2] [3, 4, 5, 6, 7] [5, 6, 7, 0, 1, 2, 3, 4] 8 rfl rfl rfl rfl zc_X6_refuse zv_X6_refuse tw_m_RX6_70 (zrec_of wr_P 0 rfl rfl) (zroom_of rfl) rfl (Nat.le_of_ble_eq_true rfl) dX6_ask_138 ?_
            suffices z65 : ∀ q13 : Int32 × nT, q13 = (v_X6_refuse N 6) → Z k_X6_ask G Γ (wr G A Γ.2.2.1.1.heap (maW G a q13.2 ++ rdW G (sh a 10) R)) 0 0 [(0, .ref (a 0)), (1, .int x1), (2, .int x2)] 141 [.int q13.1] from z65 _ rfl
            intro q13 hq13
            have hv := kk_vq hv hq13
            clear hq13
            subst hv; exact z_iret_W hQ rfl rfl rfl ⟨rfl, rfl⟩ dX6_ask_141
          · have hp := ip_t hp c11; have hv := it_t hv c11
            refine z_iload_n dX6_ask_106 rfl ?_
            refine z_iconst (v := 1) dX6_ask_107 rfl ?_
            refine z_bipush (v := 99) dX6_ask_108 rfl ?_
            refine z_csi (c_X6_within G P x2 1 99 ) zc_X6_within tw_st_yX6_within tw_m_RX6_74 (fr_all (sub_P wr_P [] rfl) (wr_G hw)) (zroom_of rfl) rfl (Nat.le_of_ble_eq_true rfl) dX6_ask_110 ?_
            refine z_if_eq (tgt := 135) dX6_ask_113 (by decide) (fun c14 => ?_) (fun c14 => ?_)
            · have hp := ip_t hp c14; have hv := it_t hv c14
              refine z_aload_n dX6_ask_135 rfl ?_
              refine z_bipush (v := 6) dX6_ask_136 rfl ?_
              have q15 := hp
              refine z_cwviD (ws' := maW G a ((v_X6_refuse N 6).2) ++ rdW G (sh a 10) R) hw (fun sz => c_X6_refuse G P a sz N 6 q15) [0, 1, 2] [3, 4, 5, 6, 7] [5, 6, 7, 0, 1, 2, 3, 4] 8 rfl rfl rfl rfl zc_X6_refuse zv_X6_refuse tw_m_RX6_70 (zrec_of wr_P 0 rfl rfl) (zroom_of rfl) rfl (Nat.le_of_ble_eq_true rfl) dX6_ask_138 ?_
              suffices z66 : ∀ q16 : Int32 × nT, q16 = (v_X6_refuse N 6) → Z k_X6_ask G Γ (wr G A Γ.2.2.1.1.heap (maW G a q16.2 ++ rdW G (sh a 10) R)) 0 0 [(0, .ref (a 0)), (1, .int x1), (2, .int x2)] 141 [.int q16.1] from z66 _ rfl
              intro q16 hq16
              have hv := kk_vq hv hq16
              clear hq16
              subst hv; exact z_iret_W hQ rfl rfl rfl ⟨rfl, rfl⟩ dX6_ask_141
            · have hp := ip_f hp c14; have hv := it_f hv c14
              refine z_aload_n dX6_ask_116 rfl ?_
              refine z_get (v := .ref ((sh a 10) 0)) wr_P 0 rfl rfl uin_X6 0 (Nat.le_of_ble_eq_true rfl) tw_f_RX6_10 rfl rfl dX6_ask_117 ?_
              refine z_get (v := .int (R.1 8)) wr_P 3 rfl rfl uin_X4 8 (Nat.le_of_ble_eq_true rfl) tw_f_RX6_169 rfl rfl dX6_ask_120 ?_
              refine z_istore_n (lv' := [(3, .int (R.1 8)), (0, .ref (a 0)), (1, .int x1), (2, .int x2)]) dX6_ask_123 (Nat.le_of_ble_eq_true rfl) rfl ?_
              refine z_aload_n dX6_ask_124 rfl ?_
              refine z_get (v := .ref ((sh a 10) 0)) wr_P 0 rfl rfl uin_X6 0 (Nat.le_of_ble_eq_true rfl) tw_f_RX6_10 rfl rfl dX6_ask_125 ?_
              refine z_iload_n dX6_ask_128 rfl ?_
              refine z_put (fs := rdF (sh a 10) R) (v := .int x2) (ws' := maW G a N ++ rdW G (sh a 10) (rsf R 8 x2)) 3 rfl rfl uin_X4 tyX4 tyX4_ok nmX4 8 (Nat.le_of_ble_eq_true rfl) tw_f_RX6_169 rfl rfl (ty := .int) rfl rfl rfl (Nat.le_of_ble_eq_true rfl) rfl dX6_ask_129 ?_
              refine z_goto (tgt := 142) dX6_ask_132 (by decide) ?_
              refine z_iload_n dX6_ask_142 rfl ?_
              subst hv; exact z_iret_W hQ rfl rfl rfl ⟨rfl, rfl⟩ dX6_ask_143
        · have hp := ip_f hp c10; have hv := it_f hv c10
          refine z_aload_n dX6_ask_82 rfl ?_
          refine z_get (v := .ref ((sh a 10) 0)) wr_P 0 rfl rfl uin_X6 0 (Nat.le_of_ble_eq_true rfl) tw_f_RX6_10 rfl rfl dX6_ask_83 ?_
          refine z_get (v := .int (R.1 7)) wr_P 3 rfl rfl uin_X4 7 (Nat.le_of_ble_eq_true rfl) tw_f_RX6_166 rfl rfl dX6_ask_86 ?_
          refine z_istore_n (lv' := [(3, .int (R.1 7)), (0, .ref (a 0)), (1, .int x1), (2, .int x2)]) dX6_ask_89 (Nat.le_of_ble_eq_true rfl) rfl ?_
          refine z_aload_n dX6_ask_90 rfl ?_
          refine z_get (v := .ref ((sh a 10) 0)) wr_P 0 rfl rfl uin_X6 0 (Nat.le_of_ble_eq_true rfl) tw_f_RX6_10 rfl rfl dX6_ask_91 ?_
          refine z_iload_n dX6_ask_94 rfl ?_
          refine z_put (fs := rdF (sh a 10) R) (v := .int x2) (ws' := maW G a N ++ rdW G (sh a 10) (rsf R 7 x2)) 3 rfl rfl uin_X4 tyX4 tyX4_ok nmX4 7 (Nat.le_of_ble_eq_true rfl) tw_f_RX6_166 rfl rfl (ty := .int) rfl rfl rfl (Nat.le_of_ble_eq_true rfl) rfl dX6_ask_95 ?_
          refine z_goto (tgt := 142) dX6_ask_98 (by decide) ?_
          refine z_iload_n dX6_ask_142 rfl ?_
          subst hv; exact z_iret_W hQ rfl rfl rfl ⟨rfl, rfl⟩ dX6_ask_143
    · have hp := ip_t hp c2; have hv := it_t hv c2
      refine z_iload_n dX6_ask_38 rfl ?_
      refine z_iconst (v := 0) dX6_ask_39 rfl ?_
      refine z_bipush (v := 9) dX6_ask_40 rfl ?_
      refine z_csi (c_X6_within G P x2 0 9 ) zc_X6_within tw_st_yX6_within tw_m_RX6_74 (fr_all (sub_P wr_P [] rfl) (wr_G hw)) (zroom_of rfl) rfl (Nat.le_of_ble_eq_true rfl) dX6_ask_42 ?_
      refine z_if_eq (tgt := 67) dX6_ask_45 (by decide) (fun c17 => ?_) (fun c17 => ?_)
      · have hp := ip_t hp c17; have hv := it_t hv c17
        refine z_iload_n dX6_ask_67 rfl ?_
        refine z_iconst (v := 2) dX6_ask_68 rfl ?_
        refine z_icmp_ne (tgt := 101) dX6_ask_69 (by decide) (fun c18 => ?_) (fun c18 => ?_)
        · have hp := ip_f hp c18; have hv := it_f hv c18
          refine z_iload_n dX6_ask_101 rfl ?_
          refine z_iconst (v := 3) dX6_ask_102 rfl ?_
          refine z_icmp_ne (tgt := 135) dX6_ask_103 (by decide) (fun c19 => ?_) (fun c19 => ?_)
          · have hp := ip_f hp c19; have hv := it_f hv c19
            refine z_aload_n dX6_ask_135 rfl ?_
            refine z_bipush (v := 6) dX6_ask_136 rfl ?_
            have q20 := hp
            refine z_cwviD (ws' := maW G a ((v_X6_refuse N 6).2) ++ rdW G (sh a 10) R) hw (fun sz => c_X6_refuse G P a sz N 6 q20) [0, 1, 2] [3, 4, 5, 6, 7] [5, 6, 7, 0, 1, 2, 3, 4] 8 rfl rfl rfl rfl zc_X6_refuse zv_X6_refuse tw_m_RX6_70 (zrec_of wr_P 0 rfl rfl) (zroom_of rfl) rfl (Nat.le_of_ble_eq_true rfl) dX6_ask_138 ?_
            suffices z67 : ∀ q21 : Int32 × nT, q21 = (v_X6_refuse N 6) → Z k_X6_ask G Γ (wr G A Γ.2.2.1.1.heap (maW G a q21.2 ++ rdW G (sh a 10) R)) 0 0 [(0, .ref (a 0)), (1, .int x1), (2, .int x2)] 141 [.int q21.1] from z67 _ rfl
            intro q21 hq21
            have hv := kk_vq hv hq21
            clear hq21
            subst hv; exact z_iret_W hQ rfl rfl rfl ⟨rfl, rfl⟩ dX6_ask_141
          · have hp := ip_t hp c19; have hv := it_t hv c19
            refine z_iload_n dX6_ask_106 rfl ?_
            refine z_iconst (v := 1) dX6_ask_107 rfl ?_
            refine z_bipush (v := 99) dX6_ask_108 rfl ?_
            refine z_csi (c_X6_within G P x2 1 99 ) zc_X6_within tw_st_yX6_within tw_m_RX6_74 (fr_all (sub_P wr_P [] rfl) (wr_G hw)) (zroom_of rfl) rfl (Nat.le_of_ble_eq_true rfl) dX6_ask_110 ?_
            refine z_if_eq (tgt := 135) dX6_ask_113 (by decide) (fun c22 => ?_) (fun c22 => ?_)
            · have hp := ip_t hp c22; have hv := it_t hv c22
              refine z_aload_n dX6_ask_135 rfl ?_
              refine z_bipush (v := 6) dX6_ask_136 rfl ?_
              have q23 := hp
              refine z_cwviD (ws' := maW G a ((v_X6_refuse N 6).2) ++ rdW G (sh a 10) R) hw (fun sz => c_X6_refuse G P a sz N 6 q23) [0, 1, 2] [3, 4, 5, 6, 7] [5, 6, 7, 0, 1, 2, 3, 4] 8 rfl rfl rfl rfl zc_X6_refuse zv_X6_refuse tw_m_RX6_70 (zrec_of wr_P 0 rfl rfl) (zroom_of rfl) rfl (Nat.le_of_ble_eq_true rfl) dX6_ask_138 ?_
              suffices z68 : ∀ q24 : Int32 × nT, q24 = (v_X6_refuse N 6) → Z k_X6_ask G Γ (wr G A Γ.2.2.1.1.heap (maW G a q24.2 ++ rdW G (sh a 10) R)) 0 0 [(0, .ref (a 0)), (1, .int x1), (2, .int x2)] 141 [.int q24.1] from z68 _ rfl
              intro q24 hq24
              have hv := kk_vq hv hq24
              clear hq24
              subst hv; exact z_iret_W hQ rfl rfl rfl ⟨rfl, rfl⟩ dX6_ask_141
            · have hp := ip_f hp c22; have hv := it_f hv c22
              refine z_aload_n dX6_ask_116 rfl ?_
              refine z_get (v := .ref ((sh a 10) 0)) wr_P 0 rfl rfl uin_X6 0 (Nat.le_of_ble_eq_true rfl) tw_f_RX6_10 rfl rfl dX6_ask_117 ?_
              refine z_get (v := .int (R.1 8)) wr_P 3 rfl rfl uin_X4 8 (Nat.le_of_ble_eq_true rfl) tw_f_RX6_169 rfl rfl dX6_ask_120 ?_
              refine z_istore_n (lv' := [(3, .int (R.1 8)), (0, .ref (a 0)), (1, .int x1), (2, .int x2)]) dX6_ask_123 (Nat.le_of_ble_eq_true rfl) rfl ?_
              refine z_aload_n dX6_ask_124 rfl ?_
              refine z_get (v := .ref ((sh a 10) 0)) wr_P 0 rfl rfl uin_X6 0 (Nat.le_of_ble_eq_true rfl) tw_f_RX6_10 rfl rfl dX6_ask_125 ?_
              refine z_iload_n dX6_ask_128 rfl ?_
              refine z_put (fs := rdF (sh a 10) R) (v := .int x2) (ws' := maW G a N ++ rdW G (sh a 10) (rsf R 8 x2)) 3 rfl rfl uin_X4 tyX4 tyX4_ok nmX4 8 (Nat.le_of_ble_eq_true rfl) tw_f_RX6_169 rfl rfl (ty := .int) rfl rfl rfl (Nat.le_of_ble_eq_true rfl) rfl dX6_ask_129 ?_
              refine z_goto (tgt := 142) dX6_ask_132 (by decide) ?_
              refine z_iload_n dX6_ask_142 rfl ?_
              subst hv; exact z_iret_W hQ rfl rfl rfl ⟨rfl, rfl⟩ dX6_ask_143
        · have hp := ip_t hp c18; have hv := it_t hv c18
          refine z_iload_n dX6_ask_72 rfl ?_
          refine z_iconst (v := 1) dX6_ask_73 rfl ?_
          refine z_bipush (v := 99) dX6_ask_74 rfl ?_
          refine z_csi (c_X6_within G P x2 1 99 ) zc_X6_within tw_st_yX6_within tw_m_RX6_74 (fr_all (sub_P wr_P [] rfl) (wr_G hw)) (zroom_of rfl) rfl (Nat.le_of_ble_eq_true rfl) dX6_ask_76 ?_
          refine z_if_eq (tgt := 101) dX6_ask_79 (by decide) (fun c25 => ?_) (fun c25 => ?_)
          · have hp := ip_t hp c25; have hv := it_t hv c25
            refine z_iload_n dX6_ask_101 rfl ?_
            refine z_iconst (v := 3) dX6_ask_102 rfl ?_
            refine z_icmp_ne (tgt := 135) dX6_ask_103 (by decide) (fun c26 => ?_) (fun c26 => ?_)
            · have hp := ip_f hp c26; have hv := it_f hv c26
              refine z_aload_n dX6_ask_135 rfl ?_
              refine z_bipush (v := 6) dX6_ask_136 rfl ?_
              have q27 := hp
              refine z_cwviD (ws' := maW G a ((v_X6_refuse N 6).2) ++ rdW G (sh a 10) R) hw (fun sz => c_X6_refuse G P a sz N 6 q27) [0, 1, 2] [3, 4, 5, 6, 7] [5, 6, 7, 0, 1, 2, 3, 4] 8 rfl rfl rfl rfl zc_X6_refuse zv_X6_refuse tw_m_RX6_70 (zrec_of wr_P 0 rfl rfl) (zroom_of rfl) rfl (Nat.le_of_ble_eq_true rfl) dX6_ask_138 ?_
              suffices z69 : ∀ q28 : Int32 × nT, q28 = (v_X6_refuse N 6) → Z k_X6_ask G Γ (wr G A Γ.2.2.1.1.heap (maW G a q28.2 ++ rdW G (sh a 10) R)) 0 0 [(0, .ref (a 0)), (1, .int x1), (2, .int x2)] 141 [.int q28.1] from z69 _ rfl
              intro q28 hq28
              have hv := kk_vq hv hq28
              clear hq28
              subst hv; exact z_iret_W hQ rfl rfl rfl ⟨rfl, rfl⟩ dX6_ask_141
            · have hp := ip_t hp c26; have hv := it_t hv c26
              refine z_iload_n dX6_ask_106 rfl ?_
              refine z_iconst (v := 1) dX6_ask_107 rfl ?_
              refine z_bipush (v := 99) dX6_ask_108 rfl ?_
              refine z_csi (c_X6_within G P x2 1 99 ) zc_X6_within tw_st_yX6_within tw_m_RX6_74 (fr_all (sub_P wr_P [] rfl) (wr_G hw)) (zroom_of rfl) rfl (Nat.le_of_ble_eq_true rfl) dX6_ask_110 ?_
              refine z_if_eq (tgt := 135) dX6_ask_113 (by decide) (fun c29 => ?_) (fun c29 => ?_)
              · have hp := ip_t hp c29; have hv := it_t hv c29
                refine z_aload_n dX6_ask_135 rfl ?_
                refine z_bipush (v := 6) dX6_ask_136 rfl ?_
                have q30 := hp
                refine z_cwviD (ws' := maW G a ((v_X6_refuse N 6).2) ++ rdW G (sh a 10) R) hw (fun sz => c_X6_refuse G P a sz N 6 q30) [0, 1, 2] [3, 4, 5, 6, 7] [5, 6, 7, 0, 1, 2, 3, 4] 8 rfl rfl rfl rfl zc_X6_refuse zv_X6_refuse tw_m_RX6_70 (zrec_of wr_P 0 rfl rfl) (zroom_of rfl) rfl (Nat.le_of_ble_eq_true rfl) dX6_ask_138 ?_
                suffices z70 : ∀ q31 : Int32 × nT, q31 = (v_X6_refuse N 6) → Z k_X6_ask G Γ (wr G A Γ.2.2.1.1.heap (maW G a q31.2 ++ rdW G (sh a 10) R)) 0 0 [(0, .ref (a 0)), (1, .int x1), (2, .int x2)] 141 [.int q31.1] from z70 _ rfl
                intro q31 hq31
                have hv := kk_vq hv hq31
                clear hq31
                subst hv; exact z_iret_W hQ rfl rfl rfl ⟨rfl, rfl⟩ dX6_ask_141
              · have hp := ip_f hp c29; have hv := it_f hv c29
                refine z_aload_n dX6_ask_116 rfl ?_
                refine z_get (v := .ref ((sh a 10) 0)) wr_P 0 rfl rfl uin_X6 0 (Nat.le_of_ble_eq_true rfl) tw_f_RX6_10 rfl rfl dX6_ask_117 ?_
                refine z_get (v := .int (R.1 8)) wr_P 3 rfl rfl uin_X4 8 (Nat.le_of_ble_eq_true rfl) tw_f_RX6_169 rfl rfl dX6_ask_120 ?_
                refine z_istore_n (lv' := [(3, .int (R.1 8)), (0, .ref (a 0)), (1, .int x1), (2, .int x2)]) dX6_ask_123 (Nat.le_of_ble_eq_true rfl) rfl ?_
                refine z_aload_n dX6_ask_124 rfl ?_
                refine z_get (v := .ref ((sh a 10) 0)) wr_P 0 rfl rfl uin_X6 0 (Nat.le_of_ble_eq_true rfl) tw_f_RX6_10 rfl rfl dX6_ask_125 ?_
                refine z_iload_n dX6_ask_128 rfl ?_
                refine z_put (fs := rdF (sh a 10) R) (v := .int x2) (ws' := maW G a N ++ rdW G (sh a 10) (rsf R 8 x2)) 3 rfl rfl uin_X4 tyX4 tyX4_ok nmX4 8 (Nat.le_of_ble_eq_true rfl) tw_f_RX6_169 rfl rfl (ty := .int) rfl rfl rfl (Nat.le_of_ble_eq_true rfl) rfl dX6_ask_129 ?_
                refine z_goto (tgt := 142) dX6_ask_132 (by decide) ?_
                refine z_iload_n dX6_ask_142 rfl ?_
                subst hv; exact z_iret_W hQ rfl rfl rfl ⟨rfl, rfl⟩ dX6_ask_143
          · have hp := ip_f hp c25; have hv := it_f hv c25
            refine z_aload_n dX6_ask_82 rfl ?_
            refine z_get (v := .ref ((sh a 10) 0)) wr_P 0 rfl rfl uin_X6 0 (Nat.le_of_ble_eq_true rfl) tw_f_RX6_10 rfl rfl dX6_ask_83 ?_
            refine z_get (v := .int (R.1 7)) wr_P 3 rfl rfl uin_X4 7 (Nat.le_of_ble_eq_true rfl) tw_f_RX6_166 rfl rfl dX6_ask_86 ?_
            refine z_istore_n (lv' := [(3, .int (R.1 7)), (0, .ref (a 0)), (1, .int x1), (2, .int x2)]) dX6_ask_89 (Nat.le_of_ble_eq_true rfl) rfl ?_
            refine z_aload_n dX6_ask_90 rfl ?_
            refine z_get (v := .ref ((sh a 10) 0)) wr_P 0 rfl rfl uin_X6 0 (Nat.le_of_ble_eq_true rfl) tw_f_RX6_10 rfl rfl dX6_ask_91 ?_
            refine z_iload_n dX6_ask_94 rfl ?_
            refine z_put (fs := rdF (sh a 10) R) (v := .int x2) (ws' := maW G a N ++ rdW G (sh a 10) (rsf R 7 x2)) 3 rfl rfl uin_X4 tyX4 tyX4_ok nmX4 7 (Nat.le_of_ble_eq_true rfl) tw_f_RX6_166 rfl rfl (ty := .int) rfl rfl rfl (Nat.le_of_ble_eq_true rfl) rfl dX6_ask_95 ?_
            refine z_goto (tgt := 142) dX6_ask_98 (by decide) ?_
            refine z_iload_n dX6_ask_142 rfl ?_
            subst hv; exact z_iret_W hQ rfl rfl rfl ⟨rfl, rfl⟩ dX6_ask_143
      · have hp := ip_f hp c17; have hv := it_f hv c17
        refine z_aload_n dX6_ask_48 rfl ?_
        refine z_get (v := .ref ((sh a 10) 0)) wr_P 0 rfl rfl uin_X6 0 (Nat.le_of_ble_eq_true rfl) tw_f_RX6_10 rfl rfl dX6_ask_49 ?_
        refine z_get (v := .int (R.1 6)) wr_P 3 rfl rfl uin_X4 6 (Nat.le_of_ble_eq_true rfl) tw_f_RX6_163 rfl rfl dX6_ask_52 ?_
        refine z_istore_n (lv' := [(3, .int (R.1 6)), (0, .ref (a 0)), (1, .int x1), (2, .int x2)]) dX6_ask_55 (Nat.le_of_ble_eq_true rfl) rfl ?_
        refine z_aload_n dX6_ask_56 rfl ?_
        refine z_get (v := .ref ((sh a 10) 0)) wr_P 0 rfl rfl uin_X6 0 (Nat.le_of_ble_eq_true rfl) tw_f_RX6_10 rfl rfl dX6_ask_57 ?_
        refine z_iload_n dX6_ask_60 rfl ?_
        refine z_put (fs := rdF (sh a 10) R) (v := .int x2) (ws' := maW G a N ++ rdW G (sh a 10) (rsf R 6 x2)) 3 rfl rfl uin_X4 tyX4 tyX4_ok nmX4 6 (Nat.le_of_ble_eq_true rfl) tw_f_RX6_163 rfl rfl (ty := .int) rfl rfl rfl (Nat.le_of_ble_eq_true rfl) rfl dX6_ask_61 ?_
        refine z_goto (tgt := 142) dX6_ask_64 (by decide) ?_
        refine z_iload_n dX6_ask_142 rfl ?_
        subst hv; exact z_iret_W hQ rfl rfl rfl ⟨rfl, rfl⟩ dX6_ask_143
  · have hp := ip_t hp c1; have hv := it_t hv c1
    refine z_iload_n dX6_ask_4 rfl ?_
    refine z_iconst (v := 1) dX6_ask_5 rfl ?_
    refine z_bipush (v := 20) dX6_ask_6 rfl ?_
    refine z_csi (c_X6_within G P x2 1 20 ) zc_X6_within tw_st_yX6_within tw_m_RX6_74 (fr_all (sub_P wr_P [] rfl) (wr_G hw)) (zroom_of rfl) rfl (Nat.le_of_ble_eq_true rfl) dX6_ask_8 ?_
    refine z_if_eq (tgt := 33) dX6_ask_11 (by decide) (fun c32 => ?_) (fun c32 => ?_)
    · have hp := ip_t hp c32; have hv := it_t hv c32
      refine z_iload_n dX6_ask_33 rfl ?_
      refine z_iconst (v := 1) dX6_ask_34 rfl ?_
      refine z_icmp_ne (tgt := 67) dX6_ask_35 (by decide) (fun c33 => ?_) (fun c33 => ?_)
      · have hp := ip_f hp c33; have hv := it_f hv c33
        refine z_iload_n dX6_ask_67 rfl ?_
        refine z_iconst (v := 2) dX6_ask_68 rfl ?_
        refine z_icmp_ne (tgt := 101) dX6_ask_69 (by decide) (fun c34 => ?_) (fun c34 => ?_)
        · have hp := ip_f hp c34; have hv := it_f hv c34
          refine z_iload_n dX6_ask_101 rfl ?_
          refine z_iconst (v := 3) dX6_ask_102 rfl ?_
          refine z_icmp_ne (tgt := 135) dX6_ask_103 (by decide) (fun c35 => ?_) (fun c35 => ?_)
          · have hp := ip_f hp c35; have hv := it_f hv c35
            refine z_aload_n dX6_ask_135 rfl ?_
            refine z_bipush (v := 6) dX6_ask_136 rfl ?_
            have q36 := hp
            refine z_cwviD (ws' := maW G a ((v_X6_refuse N 6).2) ++ rdW G (sh a 10) R) hw (fun sz => c_X6_refuse G P a sz N 6 q36) [0, 1, 2] [3, 4, 5, 6, 7] [5, 6, 7, 0, 1, 2, 3, 4] 8 rfl rfl rfl rfl zc_X6_refuse zv_X6_refuse tw_m_RX6_70 (zrec_of wr_P 0 rfl rfl) (zroom_of rfl) rfl (Nat.le_of_ble_eq_true rfl) dX6_ask_138 ?_
            suffices z71 : ∀ q37 : Int32 × nT, q37 = (v_X6_refuse N 6) → Z k_X6_ask G Γ (wr G A Γ.2.2.1.1.heap (maW G a q37.2 ++ rdW G (sh a 10) R)) 0 0 [(0, .ref (a 0)), (1, .int x1), (2, .int x2)] 141 [.int q37.1] from z71 _ rfl
            intro q37 hq37
            have hv := kk_vq hv hq37
            clear hq37
            subst hv; exact z_iret_W hQ rfl rfl rfl ⟨rfl, rfl⟩ dX6_ask_141
          · have hp := ip_t hp c35; have hv := it_t hv c35
            refine z_iload_n dX6_ask_106 rfl ?_
            refine z_iconst (v := 1) dX6_ask_107 rfl ?_
            refine z_bipush (v := 99) dX6_ask_108 rfl ?_
            refine z_csi (c_X6_within G P x2 1 99 ) zc_X6_within tw_st_yX6_within tw_m_RX6_74 (fr_all (sub_P wr_P [] rfl) (wr_G hw)) (zroom_of rfl) rfl (Nat.le_of_ble_eq_true rfl) dX6_ask_110 ?_
            refine z_if_eq (tgt := 135) dX6_ask_113 (by decide) (fun c38 => ?_) (fun c38 => ?_)
            · have hp := ip_t hp c38; have hv := it_t hv c38
              refine z_aload_n dX6_ask_135 rfl ?_
              refine z_bipush (v := 6) dX6_ask_136 rfl ?_
              have q39 := hp
              refine z_cwviD (ws' := maW G a ((v_X6_refuse N 6).2) ++ rdW G (sh a 10) R) hw (fun sz => c_X6_refuse G P a sz N 6 q39) [0, 1, 2] [3, 4, 5, 6, 7] [5, 6, 7, 0, 1, 2, 3, 4] 8 rfl rfl rfl rfl zc_X6_refuse zv_X6_refuse tw_m_RX6_70 (zrec_of wr_P 0 rfl rfl) (zroom_of rfl) rfl (Nat.le_of_ble_eq_true rfl) dX6_ask_138 ?_
              suffices z72 : ∀ q40 : Int32 × nT, q40 = (v_X6_refuse N 6) → Z k_X6_ask G Γ (wr G A Γ.2.2.1.1.heap (maW G a q40.2 ++ rdW G (sh a 10) R)) 0 0 [(0, .ref (a 0)), (1, .int x1), (2, .int x2)] 141 [.int q40.1] from z72 _ rfl
              intro q40 hq40
              have hv := kk_vq hv hq40
              clear hq40
              subst hv; exact z_iret_W hQ rfl rfl rfl ⟨rfl, rfl⟩ dX6_ask_141
            · have hp := ip_f hp c38; have hv := it_f hv c38
              refine z_aload_n dX6_ask_116 rfl ?_
              refine z_get (v := .ref ((sh a 10) 0)) wr_P 0 rfl rfl uin_X6 0 (Nat.le_of_ble_eq_true rfl) tw_f_RX6_10 rfl rfl dX6_ask_117 ?_
              refine z_get (v := .int (R.1 8)) wr_P 3 rfl rfl uin_X4 8 (Nat.le_of_ble_eq_true rfl) tw_f_RX6_169 rfl rfl dX6_ask_120 ?_
              refine z_istore_n (lv' := [(3, .int (R.1 8)), (0, .ref (a 0)), (1, .int x1), (2, .int x2)]) dX6_ask_123 (Nat.le_of_ble_eq_true rfl) rfl ?_
              refine z_aload_n dX6_ask_124 rfl ?_
              refine z_get (v := .ref ((sh a 10) 0)) wr_P 0 rfl rfl uin_X6 0 (Nat.le_of_ble_eq_true rfl) tw_f_RX6_10 rfl rfl dX6_ask_125 ?_
              refine z_iload_n dX6_ask_128 rfl ?_
              refine z_put (fs := rdF (sh a 10) R) (v := .int x2) (ws' := maW G a N ++ rdW G (sh a 10) (rsf R 8 x2)) 3 rfl rfl uin_X4 tyX4 tyX4_ok nmX4 8 (Nat.le_of_ble_eq_true rfl) tw_f_RX6_169 rfl rfl (ty := .int) rfl rfl rfl (Nat.le_of_ble_eq_true rfl) rfl dX6_ask_129 ?_
              refine z_goto (tgt := 142) dX6_ask_132 (by decide) ?_
              refine z_iload_n dX6_ask_142 rfl ?_
              subst hv; exact z_iret_W hQ rfl rfl rfl ⟨rfl, rfl⟩ dX6_ask_143
        · have hp := ip_t hp c34; have hv := it_t hv c34
          refine z_iload_n dX6_ask_72 rfl ?_
          refine z_iconst (v := 1) dX6_ask_73 rfl ?_
          refine z_bipush (v := 99) dX6_ask_74 rfl ?_
          refine z_csi (c_X6_within G P x2 1 99 ) zc_X6_within tw_st_yX6_within tw_m_RX6_74 (fr_all (sub_P wr_P [] rfl) (wr_G hw)) (zroom_of rfl) rfl (Nat.le_of_ble_eq_true rfl) dX6_ask_76 ?_
          refine z_if_eq (tgt := 101) dX6_ask_79 (by decide) (fun c41 => ?_) (fun c41 => ?_)
          · have hp := ip_t hp c41; have hv := it_t hv c41
            refine z_iload_n dX6_ask_101 rfl ?_
            refine z_iconst (v := 3) dX6_ask_102 rfl ?_
            refine z_icmp_ne (tgt := 135) dX6_ask_103 (by decide) (fun c42 => ?_) (fun c42 => ?_)
            · have hp := ip_f hp c42; have hv := it_f hv c42
              refine z_aload_n dX6_ask_135 rfl ?_
              refine z_bipush (v := 6) dX6_ask_136 rfl ?_
              have q43 := hp
              refine z_cwviD (ws' := maW G a ((v_X6_refuse N 6).2) ++ rdW G (sh a 10) R) hw (fun sz => c_X6_refuse G P a sz N 6 q43) [0, 1, 2] [3, 4, 5, 6, 7] [5, 6, 7, 0, 1, 2, 3, 4] 8 rfl rfl rfl rfl zc_X6_refuse zv_X6_refuse tw_m_RX6_70 (zrec_of wr_P 0 rfl rfl) (zroom_of rfl) rfl (Nat.le_of_ble_eq_true rfl) dX6_ask_138 ?_
              suffices z73 : ∀ q44 : Int32 × nT, q44 = (v_X6_refuse N 6) → Z k_X6_ask G Γ (wr G A Γ.2.2.1.1.heap (maW G a q44.2 ++ rdW G (sh a 10) R)) 0 0 [(0, .ref (a 0)), (1, .int x1), (2, .int x2)] 141 [.int q44.1] from z73 _ rfl
              intro q44 hq44
              have hv := kk_vq hv hq44
              clear hq44
              subst hv; exact z_iret_W hQ rfl rfl rfl ⟨rfl, rfl⟩ dX6_ask_141
            · have hp := ip_t hp c42; have hv := it_t hv c42
              refine z_iload_n dX6_ask_106 rfl ?_
              refine z_iconst (v := 1) dX6_ask_107 rfl ?_
              refine z_bipush (v := 99) dX6_ask_108 rfl ?_
              refine z_csi (c_X6_within G P x2 1 99 ) zc_X6_within tw_st_yX6_within tw_m_RX6_74 (fr_all (sub_P wr_P [] rfl) (wr_G hw)) (zroom_of rfl) rfl (Nat.le_of_ble_eq_true rfl) dX6_ask_110 ?_
              refine z_if_eq (tgt := 135) dX6_ask_113 (by decide) (fun c45 => ?_) (fun c45 => ?_)
              · have hp := ip_t hp c45; have hv := it_t hv c45
                refine z_aload_n dX6_ask_135 rfl ?_
                refine z_bipush (v := 6) dX6_ask_136 rfl ?_
                have q46 := hp
                refine z_cwviD (ws' := maW G a ((v_X6_refuse N 6).2) ++ rdW G (sh a 10) R) hw (fun sz => c_X6_refuse G P a sz N 6 q46) [0, 1, 2] [3, 4, 5, 6, 7] [5, 6, 7, 0, 1, 2, 3, 4] 8 rfl rfl rfl rfl zc_X6_refuse zv_X6_refuse tw_m_RX6_70 (zrec_of wr_P 0 rfl rfl) (zroom_of rfl) rfl (Nat.le_of_ble_eq_true rfl) dX6_ask_138 ?_
                suffices z74 : ∀ q47 : Int32 × nT, q47 = (v_X6_refuse N 6) → Z k_X6_ask G Γ (wr G A Γ.2.2.1.1.heap (maW G a q47.2 ++ rdW G (sh a 10) R)) 0 0 [(0, .ref (a 0)), (1, .int x1), (2, .int x2)] 141 [.int q47.1] from z74 _ rfl
                intro q47 hq47
                have hv := kk_vq hv hq47
                clear hq47
                subst hv; exact z_iret_W hQ rfl rfl rfl ⟨rfl, rfl⟩ dX6_ask_141
              · have hp := ip_f hp c45; have hv := it_f hv c45
                refine z_aload_n dX6_ask_116 rfl ?_
                refine z_get (v := .ref ((sh a 10) 0)) wr_P 0 rfl rfl uin_X6 0 (Nat.le_of_ble_eq_true rfl) tw_f_RX6_10 rfl rfl dX6_ask_117 ?_
                refine z_get (v := .int (R.1 8)) wr_P 3 rfl rfl uin_X4 8 (Nat.le_of_ble_eq_true rfl) tw_f_RX6_169 rfl rfl dX6_ask_120 ?_
                refine z_istore_n (lv' := [(3, .int (R.1 8)), (0, .ref (a 0)), (1, .int x1), (2, .int x2)]) dX6_ask_123 (Nat.le_of_ble_eq_true rfl) rfl ?_
                refine z_aload_n dX6_ask_124 rfl ?_
                refine z_get (v := .ref ((sh a 10) 0)) wr_P 0 rfl rfl uin_X6 0 (Nat.le_of_ble_eq_true rfl) tw_f_RX6_10 rfl rfl dX6_ask_125 ?_
                refine z_iload_n dX6_ask_128 rfl ?_
                refine z_put (fs := rdF (sh a 10) R) (v := .int x2) (ws' := maW G a N ++ rdW G (sh a 10) (rsf R 8 x2)) 3 rfl rfl uin_X4 tyX4 tyX4_ok nmX4 8 (Nat.le_of_ble_eq_true rfl) tw_f_RX6_169 rfl rfl (ty := .int) rfl rfl rfl (Nat.le_of_ble_eq_true rfl) rfl dX6_ask_129 ?_
                refine z_goto (tgt := 142) dX6_ask_132 (by decide) ?_
                refine z_iload_n dX6_ask_142 rfl ?_
                subst hv; exact z_iret_W hQ rfl rfl rfl ⟨rfl, rfl⟩ dX6_ask_143
          · have hp := ip_f hp c41; have hv := it_f hv c41
            refine z_aload_n dX6_ask_82 rfl ?_
            refine z_get (v := .ref ((sh a 10) 0)) wr_P 0 rfl rfl uin_X6 0 (Nat.le_of_ble_eq_true rfl) tw_f_RX6_10 rfl rfl dX6_ask_83 ?_
            refine z_get (v := .int (R.1 7)) wr_P 3 rfl rfl uin_X4 7 (Nat.le_of_ble_eq_true rfl) tw_f_RX6_166 rfl rfl dX6_ask_86 ?_
            refine z_istore_n (lv' := [(3, .int (R.1 7)), (0, .ref (a 0)), (1, .int x1), (2, .int x2)]) dX6_ask_89 (Nat.le_of_ble_eq_true rfl) rfl ?_
            refine z_aload_n dX6_ask_90 rfl ?_
            refine z_get (v := .ref ((sh a 10) 0)) wr_P 0 rfl rfl uin_X6 0 (Nat.le_of_ble_eq_true rfl) tw_f_RX6_10 rfl rfl dX6_ask_91 ?_
            refine z_iload_n dX6_ask_94 rfl ?_
            refine z_put (fs := rdF (sh a 10) R) (v := .int x2) (ws' := maW G a N ++ rdW G (sh a 10) (rsf R 7 x2)) 3 rfl rfl uin_X4 tyX4 tyX4_ok nmX4 7 (Nat.le_of_ble_eq_true rfl) tw_f_RX6_166 rfl rfl (ty := .int) rfl rfl rfl (Nat.le_of_ble_eq_true rfl) rfl dX6_ask_95 ?_
            refine z_goto (tgt := 142) dX6_ask_98 (by decide) ?_
            refine z_iload_n dX6_ask_142 rfl ?_
            subst hv; exact z_iret_W hQ rfl rfl rfl ⟨rfl, rfl⟩ dX6_ask_143
      · have hp := ip_t hp c33; have hv := it_t hv c33
        refine z_iload_n dX6_ask_38 rfl ?_
        refine z_iconst (v := 0) dX6_ask_39 rfl ?_
        refine z_bipush (v := 9) dX6_ask_40 rfl ?_
        refine z_csi (c_X6_within G P x2 0 9 ) zc_X6_within tw_st_yX6_within tw_m_RX6_74 (fr_all (sub_P wr_P [] rfl) (wr_G hw)) (zroom_of rfl) rfl (Nat.le_of_ble_eq_true rfl) dX6_ask_42 ?_
        refine z_if_eq (tgt := 67) dX6_ask_45 (by decide) (fun c48 => ?_) (fun c48 => ?_)
        · have hp := ip_t hp c48; have hv := it_t hv c48
          refine z_iload_n dX6_ask_67 rfl ?_
          refine z_iconst (v := 2) dX6_ask_68 rfl ?_
          refine z_icmp_ne (tgt := 101) dX6_ask_69 (by decide) (fun c49 => ?_) (fun c49 => ?_)
          · have hp := ip_f hp c49; have hv := it_f hv c49
            refine z_iload_n dX6_ask_101 rfl ?_
            refine z_iconst (v := 3) dX6_ask_102 rfl ?_
            refine z_icmp_ne (tgt := 135) dX6_ask_103 (by decide) (fun c50 => ?_) (fun c50 => ?_)
            · have hp := ip_f hp c50; have hv := it_f hv c50
              refine z_aload_n dX6_ask_135 rfl ?_
              refine z_bipush (v := 6) dX6_ask_136 rfl ?_
              have q51 := hp
              refine z_cwviD (ws' := maW G a ((v_X6_refuse N 6).2) ++ rdW G (sh a 10) R) hw (fun sz => c_X6_refuse G P a sz N 6 q51) [0, 1, 2] [3, 4, 5, 6, 7] [5, 6, 7, 0, 1, 2, 3, 4] 8 rfl rfl rfl rfl zc_X6_refuse zv_X6_refuse tw_m_RX6_70 (zrec_of wr_P 0 rfl rfl) (zroom_of rfl) rfl (Nat.le_of_ble_eq_true rfl) dX6_ask_138 ?_
              suffices z75 : ∀ q52 : Int32 × nT, q52 = (v_X6_refuse N 6) → Z k_X6_ask G Γ (wr G A Γ.2.2.1.1.heap (maW G a q52.2 ++ rdW G (sh a 10) R)) 0 0 [(0, .ref (a 0)), (1, .int x1), (2, .int x2)] 141 [.int q52.1] from z75 _ rfl
              intro q52 hq52
              have hv := kk_vq hv hq52
              clear hq52
              subst hv; exact z_iret_W hQ rfl rfl rfl ⟨rfl, rfl⟩ dX6_ask_141
            · have hp := ip_t hp c50; have hv := it_t hv c50
              refine z_iload_n dX6_ask_106 rfl ?_
              refine z_iconst (v := 1) dX6_ask_107 rfl ?_
              refine z_bipush (v := 99) dX6_ask_108 rfl ?_
              refine z_csi (c_X6_within G P x2 1 99 ) zc_X6_within tw_st_yX6_within tw_m_RX6_74 (fr_all (sub_P wr_P [] rfl) (wr_G hw)) (zroom_of rfl) rfl (Nat.le_of_ble_eq_true rfl) dX6_ask_110 ?_
              refine z_if_eq (tgt := 135) dX6_ask_113 (by decide) (fun c53 => ?_) (fun c53 => ?_)
              · have hp := ip_t hp c53; have hv := it_t hv c53
                refine z_aload_n dX6_ask_135 rfl ?_
                refine z_bipush (v := 6) dX6_ask_136 rfl ?_
                have q54 := hp
                refine z_cwviD (ws' := maW G a ((v_X6_refuse N 6).2) ++ rdW G (sh a 10) R) hw (fun sz => c_X6_refuse G P a sz N 6 q54) [0, 1, 2] [3, 4, 5, 6, 7] [5, 6, 7, 0, 1, 2, 3, 4] 8 rfl rfl rfl rfl zc_X6_refuse zv_X6_refuse tw_m_RX6_70 (zrec_of wr_P 0 rfl rfl) (zroom_of rfl) rfl (Nat.le_of_ble_eq_true rfl) dX6_ask_138 ?_
                suffices z76 : ∀ q55 : Int32 × nT, q55 = (v_X6_refuse N 6) → Z k_X6_ask G Γ (wr G A Γ.2.2.1.1.heap (maW G a q55.2 ++ rdW G (sh a 10) R)) 0 0 [(0, .ref (a 0)), (1, .int x1), (2, .int x2)] 141 [.int q55.1] from z76 _ rfl
                intro q55 hq55
                have hv := kk_vq hv hq55
                clear hq55
                subst hv; exact z_iret_W hQ rfl rfl rfl ⟨rfl, rfl⟩ dX6_ask_141
              · have hp := ip_f hp c53; have hv := it_f hv c53
                refine z_aload_n dX6_ask_116 rfl ?_
                refine z_get (v := .ref ((sh a 10) 0)) wr_P 0 rfl rfl uin_X6 0 (Nat.le_of_ble_eq_true rfl) tw_f_RX6_10 rfl rfl dX6_ask_117 ?_
                refine z_get (v := .int (R.1 8)) wr_P 3 rfl rfl uin_X4 8 (Nat.le_of_ble_eq_true rfl) tw_f_RX6_169 rfl rfl dX6_ask_120 ?_
                refine z_istore_n (lv' := [(3, .int (R.1 8)), (0, .ref (a 0)), (1, .int x1), (2, .int x2)]) dX6_ask_123 (Nat.le_of_ble_eq_true rfl) rfl ?_
                refine z_aload_n dX6_ask_124 rfl ?_
                refine z_get (v := .ref ((sh a 10) 0)) wr_P 0 rfl rfl uin_X6 0 (Nat.le_of_ble_eq_true rfl) tw_f_RX6_10 rfl rfl dX6_ask_125 ?_
                refine z_iload_n dX6_ask_128 rfl ?_
                refine z_put (fs := rdF (sh a 10) R) (v := .int x2) (ws' := maW G a N ++ rdW G (sh a 10) (rsf R 8 x2)) 3 rfl rfl uin_X4 tyX4 tyX4_ok nmX4 8 (Nat.le_of_ble_eq_true rfl) tw_f_RX6_169 rfl rfl (ty := .int) rfl rfl rfl (Nat.le_of_ble_eq_true rfl) rfl dX6_ask_129 ?_
                refine z_goto (tgt := 142) dX6_ask_132 (by decide) ?_
                refine z_iload_n dX6_ask_142 rfl ?_
                subst hv; exact z_iret_W hQ rfl rfl rfl ⟨rfl, rfl⟩ dX6_ask_143
          · have hp := ip_t hp c49; have hv := it_t hv c49
            refine z_iload_n dX6_ask_72 rfl ?_
            refine z_iconst (v := 1) dX6_ask_73 rfl ?_
            refine z_bipush (v := 99) dX6_ask_74 rfl ?_
            refine z_csi (c_X6_within G P x2 1 99 ) zc_X6_within tw_st_yX6_within tw_m_RX6_74 (fr_all (sub_P wr_P [] rfl) (wr_G hw)) (zroom_of rfl) rfl (Nat.le_of_ble_eq_true rfl) dX6_ask_76 ?_
            refine z_if_eq (tgt := 101) dX6_ask_79 (by decide) (fun c56 => ?_) (fun c56 => ?_)
            · have hp := ip_t hp c56; have hv := it_t hv c56
              refine z_iload_n dX6_ask_101 rfl ?_
              refine z_iconst (v := 3) dX6_ask_102 rfl ?_
              refine z_icmp_ne (tgt := 135) dX6_ask_103 (by decide) (fun c57 => ?_) (fun c57 => ?_)
              · have hp := ip_f hp c57; have hv := it_f hv c57
                refine z_aload_n dX6_ask_135 rfl ?_
                refine z_bipush (v := 6) dX6_ask_136 rfl ?_
                have q58 := hp
                refine z_cwviD (ws' := maW G a ((v_X6_refuse N 6).2) ++ rdW G (sh a 10) R) hw (fun sz => c_X6_refuse G P a sz N 6 q58) [0, 1, 2] [3, 4, 5, 6, 7] [5, 6, 7, 0, 1, 2, 3, 4] 8 rfl rfl rfl rfl zc_X6_refuse zv_X6_refuse tw_m_RX6_70 (zrec_of wr_P 0 rfl rfl) (zroom_of rfl) rfl (Nat.le_of_ble_eq_true rfl) dX6_ask_138 ?_
                suffices z77 : ∀ q59 : Int32 × nT, q59 = (v_X6_refuse N 6) → Z k_X6_ask G Γ (wr G A Γ.2.2.1.1.heap (maW G a q59.2 ++ rdW G (sh a 10) R)) 0 0 [(0, .ref (a 0)), (1, .int x1), (2, .int x2)] 141 [.int q59.1] from z77 _ rfl
                intro q59 hq59
                have hv := kk_vq hv hq59
                clear hq59
                subst hv; exact z_iret_W hQ rfl rfl rfl ⟨rfl, rfl⟩ dX6_ask_141
              · have hp := ip_t hp c57; have hv := it_t hv c57
                refine z_iload_n dX6_ask_106 rfl ?_
                refine z_iconst (v := 1) dX6_ask_107 rfl ?_
                refine z_bipush (v := 99) dX6_ask_108 rfl ?_
                refine z_csi (c_X6_within G P x2 1 99 ) zc_X6_within tw_st_yX6_within tw_m_RX6_74 (fr_all (sub_P wr_P [] rfl) (wr_G hw)) (zroom_of rfl) rfl (Nat.le_of_ble_eq_true rfl) dX6_ask_110 ?_
                refine z_if_eq (tgt := 135) dX6_ask_113 (by decide) (fun c60 => ?_) (fun c60 => ?_)
                · have hp := ip_t hp c60; have hv := it_t hv c60
                  refine z_aload_n dX6_ask_135 rfl ?_
                  refine z_bipush (v := 6) dX6_ask_136 rfl ?_
                  have q61 := hp
                  refine z_cwviD (ws' := maW G a ((v_X6_refuse N 6).2) ++ rdW G (sh a 10) R) hw (fun sz => c_X6_refuse G P a sz N 6 q61) [0, 1, 2] [3, 4, 5, 6, 7] [5, 6, 7, 0, 1, 2, 3, 4] 8 rfl rfl rfl rfl zc_X6_refuse zv_X6_refuse tw_m_RX6_70 (zrec_of wr_P 0 rfl rfl) (zroom_of rfl) rfl (Nat.le_of_ble_eq_true rfl) dX6_ask_138 ?_
                  suffices z78 : ∀ q62 : Int32 × nT, q62 = (v_X6_refuse N 6) → Z k_X6_ask G Γ (wr G A Γ.2.2.1.1.heap (maW G a q62.2 ++ rdW G (sh a 10) R)) 0 0 [(0, .ref (a 0)), (1, .int x1), (2, .int x2)] 141 [.int q62.1] from z78 _ rfl
                  intro q62 hq62
                  have hv := kk_vq hv hq62
                  clear hq62
                  subst hv; exact z_iret_W hQ rfl rfl rfl ⟨rfl, rfl⟩ dX6_ask_141
                · have hp := ip_f hp c60; have hv := it_f hv c60
                  refine z_aload_n dX6_ask_116 rfl ?_
                  refine z_get (v := .ref ((sh a 10) 0)) wr_P 0 rfl rfl uin_X6 0 (Nat.le_of_ble_eq_true rfl) tw_f_RX6_10 rfl rfl dX6_ask_117 ?_
                  refine z_get (v := .int (R.1 8)) wr_P 3 rfl rfl uin_X4 8 (Nat.le_of_ble_eq_true rfl) tw_f_RX6_169 rfl rfl dX6_ask_120 ?_
                  refine z_istore_n (lv' := [(3, .int (R.1 8)), (0, .ref (a 0)), (1, .int x1), (2, .int x2)]) dX6_ask_123 (Nat.le_of_ble_eq_true rfl) rfl ?_
                  refine z_aload_n dX6_ask_124 rfl ?_
                  refine z_get (v := .ref ((sh a 10) 0)) wr_P 0 rfl rfl uin_X6 0 (Nat.le_of_ble_eq_true rfl) tw_f_RX6_10 rfl rfl dX6_ask_125 ?_
                  refine z_iload_n dX6_ask_128 rfl ?_
                  refine z_put (fs := rdF (sh a 10) R) (v := .int x2) (ws' := maW G a N ++ rdW G (sh a 10) (rsf R 8 x2)) 3 rfl rfl uin_X4 tyX4 tyX4_ok nmX4 8 (Nat.le_of_ble_eq_true rfl) tw_f_RX6_169 rfl rfl (ty := .int) rfl rfl rfl (Nat.le_of_ble_eq_true rfl) rfl dX6_ask_129 ?_
                  refine z_goto (tgt := 142) dX6_ask_132 (by decide) ?_
                  refine z_iload_n dX6_ask_142 rfl ?_
                  subst hv; exact z_iret_W hQ rfl rfl rfl ⟨rfl, rfl⟩ dX6_ask_143
            · have hp := ip_f hp c56; have hv := it_f hv c56
              refine z_aload_n dX6_ask_82 rfl ?_
              refine z_get (v := .ref ((sh a 10) 0)) wr_P 0 rfl rfl uin_X6 0 (Nat.le_of_ble_eq_true rfl) tw_f_RX6_10 rfl rfl dX6_ask_83 ?_
              refine z_get (v := .int (R.1 7)) wr_P 3 rfl rfl uin_X4 7 (Nat.le_of_ble_eq_true rfl) tw_f_RX6_166 rfl rfl dX6_ask_86 ?_
              refine z_istore_n (lv' := [(3, .int (R.1 7)), (0, .ref (a 0)), (1, .int x1), (2, .int x2)]) dX6_ask_89 (Nat.le_of_ble_eq_true rfl) rfl ?_
              refine z_aload_n dX6_ask_90 rfl ?_
              refine z_get (v := .ref ((sh a 10) 0)) wr_P 0 rfl rfl uin_X6 0 (Nat.le_of_ble_eq_true rfl) tw_f_RX6_10 rfl rfl dX6_ask_91 ?_
              refine z_iload_n dX6_ask_94 rfl ?_
              refine z_put (fs := rdF (sh a 10) R) (v := .int x2) (ws' := maW G a N ++ rdW G (sh a 10) (rsf R 7 x2)) 3 rfl rfl uin_X4 tyX4 tyX4_ok nmX4 7 (Nat.le_of_ble_eq_true rfl) tw_f_RX6_166 rfl rfl (ty := .int) rfl rfl rfl (Nat.le_of_ble_eq_true rfl) rfl dX6_ask_95 ?_
              refine z_goto (tgt := 142) dX6_ask_98 (by decide) ?_
              refine z_iload_n dX6_ask_142 rfl ?_
              subst hv; exact z_iret_W hQ rfl rfl rfl ⟨rfl, rfl⟩ dX6_ask_143
        · have hp := ip_f hp c48; have hv := it_f hv c48
          refine z_aload_n dX6_ask_48 rfl ?_
          refine z_get (v := .ref ((sh a 10) 0)) wr_P 0 rfl rfl uin_X6 0 (Nat.le_of_ble_eq_true rfl) tw_f_RX6_10 rfl rfl dX6_ask_49 ?_
          refine z_get (v := .int (R.1 6)) wr_P 3 rfl rfl uin_X4 6 (Nat.le_of_ble_eq_true rfl) tw_f_RX6_163 rfl rfl dX6_ask_52 ?_
          refine z_istore_n (lv' := [(3, .int (R.1 6)), (0, .ref (a 0)), (1, .int x1), (2, .int x2)]) dX6_ask_55 (Nat.le_of_ble_eq_true rfl) rfl ?_
          refine z_aload_n dX6_ask_56 rfl ?_
          refine z_get (v := .ref ((sh a 10) 0)) wr_P 0 rfl rfl uin_X6 0 (Nat.le_of_ble_eq_true rfl) tw_f_RX6_10 rfl rfl dX6_ask_57 ?_
          refine z_iload_n dX6_ask_60 rfl ?_
          refine z_put (fs := rdF (sh a 10) R) (v := .int x2) (ws' := maW G a N ++ rdW G (sh a 10) (rsf R 6 x2)) 3 rfl rfl uin_X4 tyX4 tyX4_ok nmX4 6 (Nat.le_of_ble_eq_true rfl) tw_f_RX6_163 rfl rfl (ty := .int) rfl rfl rfl (Nat.le_of_ble_eq_true rfl) rfl dX6_ask_61 ?_
          refine z_goto (tgt := 142) dX6_ask_64 (by decide) ?_
          refine z_iload_n dX6_ask_142 rfl ?_
          subst hv; exact z_iret_W hQ rfl rfl rfl ⟨rfl, rfl⟩ dX6_ask_143
    · have hp := ip_f hp c32; have hv := it_f hv c32
      refine z_aload_n dX6_ask_14 rfl ?_
      refine z_get (v := .ref ((sh a 10) 0)) wr_P 0 rfl rfl uin_X6 0 (Nat.le_of_ble_eq_true rfl) tw_f_RX6_10 rfl rfl dX6_ask_15 ?_
      refine z_get (v := .int (R.1 5)) wr_P 3 rfl rfl uin_X4 5 (Nat.le_of_ble_eq_true rfl) tw_f_RX6_160 rfl rfl dX6_ask_18 ?_
      refine z_istore_n (lv' := [(3, .int (R.1 5)), (0, .ref (a 0)), (1, .int x1), (2, .int x2)]) dX6_ask_21 (Nat.le_of_ble_eq_true rfl) rfl ?_
      refine z_aload_n dX6_ask_22 rfl ?_
      refine z_get (v := .ref ((sh a 10) 0)) wr_P 0 rfl rfl uin_X6 0 (Nat.le_of_ble_eq_true rfl) tw_f_RX6_10 rfl rfl dX6_ask_23 ?_
      refine z_iload_n dX6_ask_26 rfl ?_
      refine z_put (fs := rdF (sh a 10) R) (v := .int x2) (ws' := maW G a N ++ rdW G (sh a 10) (rsf R 5 x2)) 3 rfl rfl uin_X4 tyX4 tyX4_ok nmX4 5 (Nat.le_of_ble_eq_true rfl) tw_f_RX6_160 rfl rfl (ty := .int) rfl rfl rfl (Nat.le_of_ble_eq_true rfl) rfl dX6_ask_27 ?_
      refine z_goto (tgt := 142) dX6_ask_30 (by decide) ?_
      refine z_iload_n dX6_ask_142 rfl ?_
      subst hv; exact z_iret_W hQ rfl rfl rfl ⟨rfl, rfl⟩ dX6_ask_143
theorem dX6_tell_0 : decode cX6_tell 0 = .ok (.aload_n 0, 1) := by decide +kernel
theorem dX6_tell_1 : decode cX6_tell 1 = .ok (.getfield 10, 3) := by decide +kernel
theorem dX6_tell_4 : decode cX6_tell 4 = .ok (.iload_n 1, 1) := by decide +kernel
theorem dX6_tell_5 : decode cX6_tell 5 = .ok (.invokevirtual 121, 3) := by decide +kernel
theorem dX6_tell_8 : decode cX6_tell 8 = .ok (.ifCond .ne 9, 3) := by decide +kernel
theorem dX6_tell_11 : decode cX6_tell 11 = .ok (.aload_n 0, 1) := by decide +kernel
theorem dX6_tell_12 : decode cX6_tell 12 = .ok (.iconst 1, 1) := by decide +kernel
theorem dX6_tell_13 : decode cX6_tell 13 = .ok (.invokevirtual 70, 3) := by decide +kernel
theorem dX6_tell_16 : decode cX6_tell 16 = .ok (.ireturn, 1) := by decide +kernel
theorem dX6_tell_17 : decode cX6_tell 17 = .ok (.iload_n 2, 1) := by decide +kernel
theorem dX6_tell_18 : decode cX6_tell 18 = .ok (.ifCond .ne 37, 3) := by decide +kernel
theorem dX6_tell_21 : decode cX6_tell 21 = .ok (.iload_n 3, 1) := by decide +kernel
theorem dX6_tell_22 : decode cX6_tell 22 = .ok (.iconst 0, 1) := by decide +kernel
theorem dX6_tell_23 : decode cX6_tell 23 = .ok (.bipush 30, 2) := by decide +kernel
theorem dX6_tell_25 : decode cX6_tell 25 = .ok (.invokestatic 74, 3) := by decide +kernel
theorem dX6_tell_28 : decode cX6_tell 28 = .ok (.ifCond .eq 27, 3) := by decide +kernel
theorem dX6_tell_31 : decode cX6_tell 31 = .ok (.aload_n 0, 1) := by decide +kernel
theorem dX6_tell_32 : decode cX6_tell 32 = .ok (.getfield 10, 3) := by decide +kernel
theorem dX6_tell_35 : decode cX6_tell 35 = .ok (.getfield 172, 3) := by decide +kernel
theorem dX6_tell_38 : decode cX6_tell 38 = .ok (.iload_n 1, 1) := by decide +kernel
theorem dX6_tell_39 : decode cX6_tell 39 = .ok (.iaload, 1) := by decide +kernel
theorem dX6_tell_40 : decode cX6_tell 40 = .ok (.istore 4, 2) := by decide +kernel
theorem dX6_tell_42 : decode cX6_tell 42 = .ok (.aload_n 0, 1) := by decide +kernel
theorem dX6_tell_43 : decode cX6_tell 43 = .ok (.getfield 10, 3) := by decide +kernel
theorem dX6_tell_46 : decode cX6_tell 46 = .ok (.getfield 172, 3) := by decide +kernel
theorem dX6_tell_49 : decode cX6_tell 49 = .ok (.iload_n 1, 1) := by decide +kernel
theorem dX6_tell_50 : decode cX6_tell 50 = .ok (.iload_n 3, 1) := by decide +kernel
theorem dX6_tell_51 : decode cX6_tell 51 = .ok (.iastore, 1) := by decide +kernel
theorem dX6_tell_52 : decode cX6_tell 52 = .ok (.goto 89, 3) := by decide +kernel
theorem dX6_tell_55 : decode cX6_tell 55 = .ok (.iload_n 2, 1) := by decide +kernel
theorem dX6_tell_56 : decode cX6_tell 56 = .ok (.iconst 1, 1) := by decide +kernel
theorem dX6_tell_57 : decode cX6_tell 57 = .ok (.if_icmp .ne 38, 3) := by decide +kernel
theorem dX6_tell_60 : decode cX6_tell 60 = .ok (.iload_n 3, 1) := by decide +kernel
theorem dX6_tell_61 : decode cX6_tell 61 = .ok (.iconst 0, 1) := by decide +kernel
theorem dX6_tell_62 : decode cX6_tell 62 = .ok (.sipush 999, 3) := by decide +kernel
theorem dX6_tell_65 : decode cX6_tell 65 = .ok (.invokestatic 74, 3) := by decide +kernel
theorem dX6_tell_68 : decode cX6_tell 68 = .ok (.ifCond .eq 27, 3) := by decide +kernel
theorem dX6_tell_71 : decode cX6_tell 71 = .ok (.aload_n 0, 1) := by decide +kernel
theorem dX6_tell_72 : decode cX6_tell 72 = .ok (.getfield 10, 3) := by decide +kernel
theorem dX6_tell_75 : decode cX6_tell 75 = .ok (.getfield 175, 3) := by decide +kernel
theorem dX6_tell_78 : decode cX6_tell 78 = .ok (.iload_n 1, 1) := by decide +kernel
theorem dX6_tell_79 : decode cX6_tell 79 = .ok (.iaload, 1) := by decide +kernel
theorem dX6_tell_80 : decode cX6_tell 80 = .ok (.istore 4, 2) := by decide +kernel
theorem dX6_tell_82 : decode cX6_tell 82 = .ok (.aload_n 0, 1) := by decide +kernel
theorem dX6_tell_83 : decode cX6_tell 83 = .ok (.getfield 10, 3) := by decide +kernel
theorem dX6_tell_86 : decode cX6_tell 86 = .ok (.getfield 175, 3) := by decide +kernel
theorem dX6_tell_89 : decode cX6_tell 89 = .ok (.iload_n 1, 1) := by decide +kernel
theorem dX6_tell_90 : decode cX6_tell 90 = .ok (.iload_n 3, 1) := by decide +kernel
theorem dX6_tell_91 : decode cX6_tell 91 = .ok (.iastore, 1) := by decide +kernel
theorem dX6_tell_92 : decode cX6_tell 92 = .ok (.goto 49, 3) := by decide +kernel
theorem dX6_tell_95 : decode cX6_tell 95 = .ok (.iload_n 2, 1) := by decide +kernel
theorem dX6_tell_96 : decode cX6_tell 96 = .ok (.iconst 2, 1) := by decide +kernel
theorem dX6_tell_97 : decode cX6_tell 97 = .ok (.if_icmp .ne 37, 3) := by decide +kernel
theorem dX6_tell_100 : decode cX6_tell 100 = .ok (.iload_n 3, 1) := by decide +kernel
theorem dX6_tell_101 : decode cX6_tell 101 = .ok (.iconst 0, 1) := by decide +kernel
theorem dX6_tell_102 : decode cX6_tell 102 = .ok (.bipush 30, 2) := by decide +kernel
theorem dX6_tell_104 : decode cX6_tell 104 = .ok (.invokestatic 74, 3) := by decide +kernel
theorem dX6_tell_107 : decode cX6_tell 107 = .ok (.ifCond .eq 27, 3) := by decide +kernel
theorem dX6_tell_110 : decode cX6_tell 110 = .ok (.aload_n 0, 1) := by decide +kernel
theorem dX6_tell_111 : decode cX6_tell 111 = .ok (.getfield 10, 3) := by decide +kernel
theorem dX6_tell_114 : decode cX6_tell 114 = .ok (.getfield 178, 3) := by decide +kernel
theorem dX6_tell_117 : decode cX6_tell 117 = .ok (.iload_n 1, 1) := by decide +kernel
theorem dX6_tell_118 : decode cX6_tell 118 = .ok (.iaload, 1) := by decide +kernel
theorem dX6_tell_119 : decode cX6_tell 119 = .ok (.istore 4, 2) := by decide +kernel
theorem dX6_tell_121 : decode cX6_tell 121 = .ok (.aload_n 0, 1) := by decide +kernel
theorem dX6_tell_122 : decode cX6_tell 122 = .ok (.getfield 10, 3) := by decide +kernel
theorem dX6_tell_125 : decode cX6_tell 125 = .ok (.getfield 178, 3) := by decide +kernel
theorem dX6_tell_128 : decode cX6_tell 128 = .ok (.iload_n 1, 1) := by decide +kernel
theorem dX6_tell_129 : decode cX6_tell 129 = .ok (.iload_n 3, 1) := by decide +kernel
theorem dX6_tell_130 : decode cX6_tell 130 = .ok (.iastore, 1) := by decide +kernel
theorem dX6_tell_131 : decode cX6_tell 131 = .ok (.goto 10, 3) := by decide +kernel
theorem dX6_tell_134 : decode cX6_tell 134 = .ok (.aload_n 0, 1) := by decide +kernel
theorem dX6_tell_135 : decode cX6_tell 135 = .ok (.bipush 6, 2) := by decide +kernel
theorem dX6_tell_137 : decode cX6_tell 137 = .ok (.invokevirtual 70, 3) := by decide +kernel
theorem dX6_tell_140 : decode cX6_tell 140 = .ok (.ireturn, 1) := by decide +kernel
theorem dX6_tell_141 : decode cX6_tell 141 = .ok (.iload 4, 2) := by decide +kernel
theorem dX6_tell_143 : decode cX6_tell 143 = .ok (.ireturn, 1) := by decide +kernel
abbrev k_X6_tell : zK := (cX6_tell, 5, RX6, (some .int), ({ frames := 2, cells := 0, slots := 0, locals := 42 } : Room))
theorem zc_X6_tell : zcal yX6_tell k_X6_tell.1 k_X6_tell.2.1 k_X6_tell.2.2.2.1 3 := ⟨tw_code_yX6_tell, tw_i_TollForHesitators, ⟨by decide +kernel, by decide +kernel⟩, by decide +kernel⟩
theorem zv_X6_tell : Cond.instanceMethod yX6_tell ∈ TS ∧ Cond.selects RX6 yX6_tell yX6_tell ∈ TS := ⟨tw_inst_yX6_tell, tw_s_yX6_tell⟩
def v_X6_tell (N : nT) (R : rT) (x1 : Int32) (x2 : Int32) (x3 : Int32) : Int32 × nT × rT := if (v_X4_has R x1) = 0 then kk (v_X6_refuse N 1) (fun q48 : Int32 × nT => (q48.1, (q48.2, R))) else if x2 = 0 then if (v_X6_within x3 0 30) = 0 then if x2 = 1 then if (v_X6_within x3 0 999) = 0 then if x2 = 2 then if (v_X6_within x3 0 30) = 0 then kk (v_X6_refuse N 6) (fun q40 : Int32 × nT => (q40.1, (q40.2, R))) else ((R.2.1 3) x1.toNatClampNeg, (N, rsa R 3 (upd (R.2.1 3) x1.toNatClampNeg x3))) else kk (v_X6_refuse N 6) (fun q37 : Int32 × nT => (q37.1, (q37.2, R))) else ((R.2.1 2) x1.toNatClampNeg, (N, rsa R 2 (upd (R.2.1 2) x1.toNatClampNeg x3))) else if x2 = 2 then if (v_X6_within x3 0 30) = 0 then kk (v_X6_refuse N 6) (fun q31 : Int32 × nT => (q31.1, (q31.2, R))) else ((R.2.1 3) x1.toNatClampNeg, (N, rsa R 3 (upd (R.2.1 3) x1.toNatClampNeg x3))) else kk (v_X6_refuse N 6) (fun q28 : Int32 × nT => (q28.1, (q28.2, R))) else ((R.2.1 1) x1.toNatClampNeg, (N, rsa R 1 (upd (R.2.1 1) x1.toNatClampNeg x3))) else if x2 = 1 then if (v_X6_within x3 0 999) = 0 then if x2 = 2 then if (v_X6_within x3 0 30) = 0 then kk (v_X6_refuse N 6) (fun q19 : Int32 × nT => (q19.1, (q19.2, R))) else ((R.2.1 3) x1.toNatClampNeg, (N, rsa R 3 (upd (R.2.1 3) x1.toNatClampNeg x3))) else kk (v_X6_refuse N 6) (fun q16 : Int32 × nT => (q16.1, (q16.2, R))) else ((R.2.1 2) x1.toNatClampNeg, (N, rsa R 2 (upd (R.2.1 2) x1.toNatClampNeg x3))) else if x2 = 2 then if (v_X6_within x3 0 30) = 0 then kk (v_X6_refuse N 6) (fun q10 : Int32 × nT => (q10.1, (q10.2, R))) else ((R.2.1 3) x1.toNatClampNeg, (N, rsa R 3 (upd (R.2.1 3) x1.toNatClampNeg x3))) else kk (v_X6_refuse N 6) (fun q7 : Int32 × nT => (q7.1, (q7.2, R)))
def p_X6_tell (N : nT) (R : rT) (x1 : Int32) (x2 : Int32) (x3 : Int32) : Prop := p_X4_has R x1 ∧ (if (v_X4_has R x1) = 0 then p_X6_refuse N 1 else if x2 = 0 then if (v_X6_within x3 0 30) = 0 then if x2 = 1 then if (v_X6_within x3 0 999) = 0 then if x2 = 2 then if (v_X6_within x3 0 30) = 0 then p_X6_refuse N 6 else vp_in x1 7 ∧ vp_in x1 7 else p_X6_refuse N 6 else vp_in x1 7 ∧ vp_in x1 7 else if x2 = 2 then if (v_X6_within x3 0 30) = 0 then p_X6_refuse N 6 else vp_in x1 7 ∧ vp_in x1 7 else p_X6_refuse N 6 else vp_in x1 7 ∧ vp_in x1 7 else if x2 = 1 then if (v_X6_within x3 0 999) = 0 then if x2 = 2 then if (v_X6_within x3 0 30) = 0 then p_X6_refuse N 6 else vp_in x1 7 ∧ vp_in x1 7 else p_X6_refuse N 6 else vp_in x1 7 ∧ vp_in x1 7 else if x2 = 2 then if (v_X6_within x3 0 30) = 0 then p_X6_refuse N 6 else vp_in x1 7 ∧ vp_in x1 7 else p_X6_refuse N 6)
set_option maxHeartbeats 800000 in
theorem c_X6_tell {l : Launch} (G : zG) (P : pT) (a : Nat → Nat) (sz : Nat) (N : nT) (R : rT) (x1 : Int32) (x2 : Int32) (x3 : Int32) (hp : p_X6_tell N R x1 x2 x3) : Met l yX6_tell (.code yX6_tell k_X6_tell.1 k_X6_tell.2.1 k_X6_tell.2.2.2.1 :: TS) k_X6_tell.2.2.2.2 (Pz G [.ref (a 0), .int x1, .int x2, .int x3] (Fw G (gX G P) (maW G a N ++ rdW G (sh a 10) R) sz)) (Qwi G (fun r w => r = (v_X6_tell N R x1 x2 x3).1 ∧ w = maW G a ((v_X6_tell N R x1 x2 x3).2.1) ++ rdW G (sh a 10) ((v_X6_tell N R x1 x2 x3).2.2)) (va_A (maW G a N ++ rdW G (sh a 10) R) sz)) 0 0 (va_A (maW G a N ++ rdW G (sh a 10) R) sz) := by
  refine zmet (K := k_X6_tell) (by decide +kernel) rfl rfl (fun Γ hl0 hQ hN hF => ?_)
  refine z_start (gX_ok G P) hF (fun hw => ?_)
  generalize va_A (maW G a N ++ rdW G (sh a 10) R) sz = A at hQ hw ⊢
  obtain ⟨res, hv⟩ : ∃ res, v_X6_tell N R x1 x2 x3 = res := ⟨_, rfl⟩
  rw [hv] at hQ
  unfold v_X6_tell at hv
  unfold p_X6_tell at hp
  show Z k_X6_tell G Γ _ 0 0 [(0, .ref (a 0)), (1, .int x1), (2, .int x2), (3, .int x3)] 0 []
  refine z_aload_n dX6_tell_0 rfl ?_
  refine z_get (v := .ref ((sh a 10) 0)) wr_P 0 rfl rfl uin_X6 0 (Nat.le_of_ble_eq_true rfl) tw_f_RX6_10 rfl rfl dX6_tell_1 ?_
  refine z_iload_n dX6_tell_4 rfl ?_
  obtain ⟨q1, hp⟩ := hp
  refine z_cvi (c_X4_has G P (sh a 10) R x1 q1) zc_X4_has zv_X4_has tw_m_RX6_121 (zrec_of wr_P 3 rfl rfl) (fr_all (sub_P wr_P [3, 4, 5, 6, 7] rfl) (wr_G hw)) (zroom_of rfl) rfl (Nat.le_of_ble_eq_true rfl) dX6_tell_5 ?_
  refine z_if_ne (tgt := 17) dX6_tell_8 (by decide) (fun c2 => ?_) (fun c2 => ?_)
  · have hp := ip_f hp c2; have hv := it_f hv c2
    refine z_iload_n dX6_tell_17 rfl ?_
    refine z_if_ne (tgt := 55) dX6_tell_18 (by decide) (fun c3 => ?_) (fun c3 => ?_)
    · have hp := ip_f hp c3; have hv := it_f hv c3
      refine z_iload_n dX6_tell_55 rfl ?_
      refine z_iconst (v := 1) dX6_tell_56 rfl ?_
      refine z_icmp_ne (tgt := 95) dX6_tell_57 (by decide) (fun c4 => ?_) (fun c4 => ?_)
      · have hp := ip_f hp c4; have hv := it_f hv c4
        refine z_iload_n dX6_tell_95 rfl ?_
        refine z_iconst (v := 2) dX6_tell_96 rfl ?_
        refine z_icmp_ne (tgt := 134) dX6_tell_97 (by decide) (fun c5 => ?_) (fun c5 => ?_)
        · have hp := ip_f hp c5; have hv := it_f hv c5
          refine z_aload_n dX6_tell_134 rfl ?_
          refine z_bipush (v := 6) dX6_tell_135 rfl ?_
          have q6 := hp
          refine z_cwviD (ws' := maW G a ((v_X6_refuse N 6).2) ++ rdW G (sh a 10) R) hw (fun sz => c_X6_refuse G P a sz N 6 q6) [0, 1, 2] [3, 4, 5, 6, 7] [5, 6, 7, 0, 1, 2, 3, 4] 8 rfl rfl rfl rfl zc_X6_refuse zv_X6_refuse tw_m_RX6_70 (zrec_of wr_P 0 rfl rfl) (zroom_of rfl) rfl (Nat.le_of_ble_eq_true rfl) dX6_tell_137 ?_
          suffices z49 : ∀ q7 : Int32 × nT, q7 = (v_X6_refuse N 6) → Z k_X6_tell G Γ (wr G A Γ.2.2.1.1.heap (maW G a q7.2 ++ rdW G (sh a 10) R)) 0 0 [(0, .ref (a 0)), (1, .int x1), (2, .int x2), (3, .int x3)] 140 [.int q7.1] from z49 _ rfl
          intro q7 hq7
          have hv := kk_vq hv hq7
          clear hq7
          subst hv; exact z_iret_W hQ rfl rfl rfl ⟨rfl, rfl⟩ dX6_tell_140
        · have hp := ip_t hp c5; have hv := it_t hv c5
          refine z_iload_n dX6_tell_100 rfl ?_
          refine z_iconst (v := 0) dX6_tell_101 rfl ?_
          refine z_bipush (v := 30) dX6_tell_102 rfl ?_
          refine z_csi (c_X6_within G P x3 0 30 ) zc_X6_within tw_st_yX6_within tw_m_RX6_74 (fr_all (sub_P wr_P [] rfl) (wr_G hw)) (zroom_of rfl) rfl (Nat.le_of_ble_eq_true rfl) dX6_tell_104 ?_
          refine z_if_eq (tgt := 134) dX6_tell_107 (by decide) (fun c8 => ?_) (fun c8 => ?_)
          · have hp := ip_t hp c8; have hv := it_t hv c8
            refine z_aload_n dX6_tell_134 rfl ?_
            refine z_bipush (v := 6) dX6_tell_135 rfl ?_
            have q9 := hp
            refine z_cwviD (ws' := maW G a ((v_X6_refuse N 6).2) ++ rdW G (sh a 10) R) hw (fun sz => c_X6_refuse G P a sz N 6 q9) [0, 1, 2] [3, 4, 5, 6, 7] [5, 6, 7, 0, 1, 2, 3, 4] 8 rfl rfl rfl rfl zc_X6_refuse zv_X6_refuse tw_m_RX6_70 (zrec_of wr_P 0 rfl rfl) (zroom_of rfl) rfl (Nat.le_of_ble_eq_true rfl) dX6_tell_137 ?_
            suffices z50 : ∀ q10 : Int32 × nT, q10 = (v_X6_refuse N 6) → Z k_X6_tell G Γ (wr G A Γ.2.2.1.1.heap (maW G a q10.2 ++ rdW G (sh a 10) R)) 0 0 [(0, .ref (a 0)), (1, .int x1), (2, .int x2), (3, .int x3)] 140 [.int q10.1] from z50 _ rfl
            intro q10 hq10
            have hv := kk_vq hv hq10
            clear hq10
            subst hv; exact z_iret_W hQ rfl rfl rfl ⟨rfl, rfl⟩ dX6_tell_140
          · have hp := ip_f hp c8; have hv := it_f hv c8
            refine z_aload_n dX6_tell_110 rfl ?_
            refine z_get (v := .ref ((sh a 10) 0)) wr_P 0 rfl rfl uin_X6 0 (Nat.le_of_ble_eq_true rfl) tw_f_RX6_10 rfl rfl dX6_tell_111 ?_
            refine z_get (v := .ref ((sh a 10) 4)) wr_P 3 rfl rfl uin_X4 3 (Nat.le_of_ble_eq_true rfl) tw_f_RX6_178 rfl rfl dX6_tell_114 ?_
            refine z_iload_n dX6_tell_117 rfl ?_
            obtain ⟨q11, hp⟩ := hp
            refine z_ialdx (x := (R.2.1 3) x1.toNatClampNeg) wr_P 7 rfl q11 rfl dX6_tell_118 ?_
            refine z_istore (lv' := [(4, .int ((R.2.1 3) x1.toNatClampNeg)), (0, .ref (a 0)), (1, .int x1), (2, .int x2), (3, .int x3)]) dX6_tell_119 (Nat.le_of_ble_eq_true rfl) rfl ?_
            refine z_aload_n dX6_tell_121 rfl ?_
            refine z_get (v := .ref ((sh a 10) 0)) wr_P 0 rfl rfl uin_X6 0 (Nat.le_of_ble_eq_true rfl) tw_f_RX6_10 rfl rfl dX6_tell_122 ?_
            refine z_get (v := .ref ((sh a 10) 4)) wr_P 3 rfl rfl uin_X4 3 (Nat.le_of_ble_eq_true rfl) tw_f_RX6_178 rfl rfl dX6_tell_125 ?_
            refine z_iload_n dX6_tell_128 rfl ?_
            refine z_iload_n dX6_tell_129 rfl ?_
            have q12 := hp
            refine z_iastx (F := upd (R.2.1 3) x1.toNatClampNeg x3) (ws' := maW G a N ++ rdW G (sh a 10) (rsa R 3 (upd (R.2.1 3) x1.toNatClampNeg x3))) 7 rfl q12 rfl rfl dX6_tell_130 ?_
            refine z_goto (tgt := 141) dX6_tell_131 (by decide) ?_
            refine z_iload dX6_tell_141 rfl ?_
            subst hv; exact z_iret_W hQ rfl rfl rfl ⟨rfl, rfl⟩ dX6_tell_143
      · have hp := ip_t hp c4; have hv := it_t hv c4
        refine z_iload_n dX6_tell_60 rfl ?_
        refine z_iconst (v := 0) dX6_tell_61 rfl ?_
        refine z_sipush (v := 999) dX6_tell_62 rfl ?_
        refine z_csi (c_X6_within G P x3 0 999 ) zc_X6_within tw_st_yX6_within tw_m_RX6_74 (fr_all (sub_P wr_P [] rfl) (wr_G hw)) (zroom_of rfl) rfl (Nat.le_of_ble_eq_true rfl) dX6_tell_65 ?_
        refine z_if_eq (tgt := 95) dX6_tell_68 (by decide) (fun c13 => ?_) (fun c13 => ?_)
        · have hp := ip_t hp c13; have hv := it_t hv c13
          refine z_iload_n dX6_tell_95 rfl ?_
          refine z_iconst (v := 2) dX6_tell_96 rfl ?_
          refine z_icmp_ne (tgt := 134) dX6_tell_97 (by decide) (fun c14 => ?_) (fun c14 => ?_)
          · have hp := ip_f hp c14; have hv := it_f hv c14
            refine z_aload_n dX6_tell_134 rfl ?_
            refine z_bipush (v := 6) dX6_tell_135 rfl ?_
            have q15 := hp
            refine z_cwviD (ws' := maW G a ((v_X6_refuse N 6).2) ++ rdW G (sh a 10) R) hw (fun sz => c_X6_refuse G P a sz N 6 q15) [0, 1, 2] [3, 4, 5, 6, 7] [5, 6, 7, 0, 1, 2, 3, 4] 8 rfl rfl rfl rfl zc_X6_refuse zv_X6_refuse tw_m_RX6_70 (zrec_of wr_P 0 rfl rfl) (zroom_of rfl) rfl (Nat.le_of_ble_eq_true rfl) dX6_tell_137 ?_
            suffices z51 : ∀ q16 : Int32 × nT, q16 = (v_X6_refuse N 6) → Z k_X6_tell G Γ (wr G A Γ.2.2.1.1.heap (maW G a q16.2 ++ rdW G (sh a 10) R)) 0 0 [(0, .ref (a 0)), (1, .int x1), (2, .int x2), (3, .int x3)] 140 [.int q16.1] from z51 _ rfl
            intro q16 hq16
            have hv := kk_vq hv hq16
            clear hq16
            subst hv; exact z_iret_W hQ rfl rfl rfl ⟨rfl, rfl⟩ dX6_tell_140
          · have hp := ip_t hp c14; have hv := it_t hv c14
            refine z_iload_n dX6_tell_100 rfl ?_
            refine z_iconst (v := 0) dX6_tell_101 rfl ?_
            refine z_bipush (v := 30) dX6_tell_102 rfl ?_
            refine z_csi (c_X6_within G P x3 0 30 ) zc_X6_within tw_st_yX6_within tw_m_RX6_74 (fr_all (sub_P wr_P [] rfl) (wr_G hw)) (zroom_of rfl) rfl (Nat.le_of_ble_eq_true rfl) dX6_tell_104 ?_
            refine z_if_eq (tgt := 134) dX6_tell_107 (by decide) (fun c17 => ?_) (fun c17 => ?_)
            · have hp := ip_t hp c17; have hv := it_t hv c17
              refine z_aload_n dX6_tell_134 rfl ?_
              refine z_bipush (v := 6) dX6_tell_135 rfl ?_
              have q18 := hp
              refine z_cwviD (ws' := maW G a ((v_X6_refuse N 6).2) ++ rdW G (sh a 10) R) hw (fun sz => c_X6_refuse G P a sz N 6 q18) [0, 1, 2] [3, 4, 5, 6, 7] [5, 6, 7, 0, 1, 2, 3, 4] 8 rfl rfl rfl rfl zc_X6_refuse zv_X6_refuse tw_m_RX6_70 (zrec_of wr_P 0 rfl rfl) (zroom_of rfl) rfl (Nat.le_of_ble_eq_true rfl) dX6_tell_137 ?_
              suffices z52 : ∀ q19 : Int32 × nT, q19 = (v_X6_refuse N 6) → Z k_X6_tell G Γ (wr G A Γ.2.2.1.1.heap (maW G a q19.2 ++ rdW G (sh a 10) R)) 0 0 [(0, .ref (a 0)), (1, .int x1), (2, .int x2), (3, .int x3)] 140 [.int q19.1] from z52 _ rfl
              intro q19 hq19
              have hv := kk_vq hv hq19
              clear hq19
              subst hv; exact z_iret_W hQ rfl rfl rfl ⟨rfl, rfl⟩ dX6_tell_140
            · have hp := ip_f hp c17; have hv := it_f hv c17
              refine z_aload_n dX6_tell_110 rfl ?_
              refine z_get (v := .ref ((sh a 10) 0)) wr_P 0 rfl rfl uin_X6 0 (Nat.le_of_ble_eq_true rfl) tw_f_RX6_10 rfl rfl dX6_tell_111 ?_
              refine z_get (v := .ref ((sh a 10) 4)) wr_P 3 rfl rfl uin_X4 3 (Nat.le_of_ble_eq_true rfl) tw_f_RX6_178 rfl rfl dX6_tell_114 ?_
              refine z_iload_n dX6_tell_117 rfl ?_
              obtain ⟨q20, hp⟩ := hp
              refine z_ialdx (x := (R.2.1 3) x1.toNatClampNeg) wr_P 7 rfl q20 rfl dX6_tell_118 ?_
              refine z_istore (lv' := [(4, .int ((R.2.1 3) x1.toNatClampNeg)), (0, .ref (a 0)), (1, .int x1), (2, .int x2), (3, .int x3)]) dX6_tell_119 (Nat.le_of_ble_eq_true rfl) rfl ?_
              refine z_aload_n dX6_tell_121 rfl ?_
              refine z_get (v := .ref ((sh a 10) 0)) wr_P 0 rfl rfl uin_X6 0 (Nat.le_of_ble_eq_true rfl) tw_f_RX6_10 rfl rfl dX6_tell_122 ?_
              refine z_get (v := .ref ((sh a 10) 4)) wr_P 3 rfl rfl uin_X4 3 (Nat.le_of_ble_eq_true rfl) tw_f_RX6_178 rfl rfl dX6_tell_125 ?_
              refine z_iload_n dX6_tell_128 rfl ?_
              refine z_iload_n dX6_tell_129 rfl ?_
              have q21 := hp
              refine z_iastx (F := upd (R.2.1 3) x1.toNatClampNeg x3) (ws' := maW G a N ++ rdW G (sh a 10) (rsa R 3 (upd (R.2.1 3) x1.toNatClampNeg x3))) 7 rfl q21 rfl rfl dX6_tell_130 ?_
              refine z_goto (tgt := 141) dX6_tell_131 (by decide) ?_
              refine z_iload dX6_tell_141 rfl ?_
              subst hv; exact z_iret_W hQ rfl rfl rfl ⟨rfl, rfl⟩ dX6_tell_143
        · have hp := ip_f hp c13; have hv := it_f hv c13
          refine z_aload_n dX6_tell_71 rfl ?_
          refine z_get (v := .ref ((sh a 10) 0)) wr_P 0 rfl rfl uin_X6 0 (Nat.le_of_ble_eq_true rfl) tw_f_RX6_10 rfl rfl dX6_tell_72 ?_
          refine z_get (v := .ref ((sh a 10) 3)) wr_P 3 rfl rfl uin_X4 2 (Nat.le_of_ble_eq_true rfl) tw_f_RX6_175 rfl rfl dX6_tell_75 ?_
          refine z_iload_n dX6_tell_78 rfl ?_
          obtain ⟨q22, hp⟩ := hp
          refine z_ialdx (x := (R.2.1 2) x1.toNatClampNeg) wr_P 6 rfl q22 rfl dX6_tell_79 ?_
          refine z_istore (lv' := [(4, .int ((R.2.1 2) x1.toNatClampNeg)), (0, .ref (a 0)), (1, .int x1), (2, .int x2), (3, .int x3)]) dX6_tell_80 (Nat.le_of_ble_eq_true rfl) rfl ?_
          refine z_aload_n dX6_tell_82 rfl ?_
          refine z_get (v := .ref ((sh a 10) 0)) wr_P 0 rfl rfl uin_X6 0 (Nat.le_of_ble_eq_true rfl) tw_f_RX6_10 rfl rfl dX6_tell_83 ?_
          refine z_get (v := .ref ((sh a 10) 3)) wr_P 3 rfl rfl uin_X4 2 (Nat.le_of_ble_eq_true rfl) tw_f_RX6_175 rfl rfl dX6_tell_86 ?_
          refine z_iload_n dX6_tell_89 rfl ?_
          refine z_iload_n dX6_tell_90 rfl ?_
          have q23 := hp
          refine z_iastx (F := upd (R.2.1 2) x1.toNatClampNeg x3) (ws' := maW G a N ++ rdW G (sh a 10) (rsa R 2 (upd (R.2.1 2) x1.toNatClampNeg x3))) 6 rfl q23 rfl rfl dX6_tell_91 ?_
          refine z_goto (tgt := 141) dX6_tell_92 (by decide) ?_
          refine z_iload dX6_tell_141 rfl ?_
          subst hv; exact z_iret_W hQ rfl rfl rfl ⟨rfl, rfl⟩ dX6_tell_143
    · have hp := ip_t hp c3; have hv := it_t hv c3
      refine z_iload_n dX6_tell_21 rfl ?_
      refine z_iconst (v := 0) dX6_tell_22 rfl ?_
      refine z_bipush (v := 30) dX6_tell_23 rfl ?_
      refine z_csi (c_X6_within G P x3 0 30 ) zc_X6_within tw_st_yX6_within tw_m_RX6_74 (fr_all (sub_P wr_P [] rfl) (wr_G hw)) (zroom_of rfl) rfl (Nat.le_of_ble_eq_true rfl) dX6_tell_25 ?_
      refine z_if_eq (tgt := 55) dX6_tell_28 (by decide) (fun c24 => ?_) (fun c24 => ?_)
      · have hp := ip_t hp c24; have hv := it_t hv c24
        refine z_iload_n dX6_tell_55 rfl ?_
        refine z_iconst (v := 1) dX6_tell_56 rfl ?_
        refine z_icmp_ne (tgt := 95) dX6_tell_57 (by decide) (fun c25 => ?_) (fun c25 => ?_)
        · have hp := ip_f hp c25; have hv := it_f hv c25
          refine z_iload_n dX6_tell_95 rfl ?_
          refine z_iconst (v := 2) dX6_tell_96 rfl ?_
          refine z_icmp_ne (tgt := 134) dX6_tell_97 (by decide) (fun c26 => ?_) (fun c26 => ?_)
          · have hp := ip_f hp c26; have hv := it_f hv c26
            refine z_aload_n dX6_tell_134 rfl ?_
            refine z_bipush (v := 6) dX6_tell_135 rfl ?_
            have q27 := hp
            refine z_cwviD (ws' := maW G a ((v_X6_refuse N 6).2) ++ rdW G (sh a 10) R) hw (fun sz => c_X6_refuse G P a sz N 6 q27) [0, 1, 2] [3, 4, 5, 6, 7] [5, 6, 7, 0, 1, 2, 3, 4] 8 rfl rfl rfl rfl zc_X6_refuse zv_X6_refuse tw_m_RX6_70 (zrec_of wr_P 0 rfl rfl) (zroom_of rfl) rfl (Nat.le_of_ble_eq_true rfl) dX6_tell_137 ?_
            suffices z53 : ∀ q28 : Int32 × nT, q28 = (v_X6_refuse N 6) → Z k_X6_tell G Γ (wr G A Γ.2.2.1.1.heap (maW G a q28.2 ++ rdW G (sh a 10) R)) 0 0 [(0, .ref (a 0)), (1, .int x1), (2, .int x2), (3, .int x3)] 140 [.int q28.1] from z53 _ rfl
            intro q28 hq28
            have hv := kk_vq hv hq28
            clear hq28
            subst hv; exact z_iret_W hQ rfl rfl rfl ⟨rfl, rfl⟩ dX6_tell_140
          · have hp := ip_t hp c26; have hv := it_t hv c26
            refine z_iload_n dX6_tell_100 rfl ?_
            refine z_iconst (v := 0) dX6_tell_101 rfl ?_
            refine z_bipush (v := 30) dX6_tell_102 rfl ?_
            refine z_csi (c_X6_within G P x3 0 30 ) zc_X6_within tw_st_yX6_within tw_m_RX6_74 (fr_all (sub_P wr_P [] rfl) (wr_G hw)) (zroom_of rfl) rfl (Nat.le_of_ble_eq_true rfl) dX6_tell_104 ?_
            refine z_if_eq (tgt := 134) dX6_tell_107 (by decide) (fun c29 => ?_) (fun c29 => ?_)
            · have hp := ip_t hp c29; have hv := it_t hv c29
              refine z_aload_n dX6_tell_134 rfl ?_
              refine z_bipush (v := 6) dX6_tell_135 rfl ?_
              have q30 := hp
              refine z_cwviD (ws' := maW G a ((v_X6_refuse N 6).2) ++ rdW G (sh a 10) R) hw (fun sz => c_X6_refuse G P a sz N 6 q30) [0, 1, 2] [3, 4, 5, 6, 7] [5, 6, 7, 0, 1, 2, 3, 4] 8 rfl rfl rfl rfl zc_X6_refuse zv_X6_refuse tw_m_RX6_70 (zrec_of wr_P 0 rfl rfl) (zroom_of rfl) rfl (Nat.le_of_ble_eq_true rfl) dX6_tell_137 ?_
              suffices z54 : ∀ q31 : Int32 × nT, q31 = (v_X6_refuse N 6) → Z k_X6_tell G Γ (wr G A Γ.2.2.1.1.heap (maW G a q31.2 ++ rdW G (sh a 10) R)) 0 0 [(0, .ref (a 0)), (1, .int x1), (2, .int x2), (3, .int x3)] 140 [.int q31.1] from z54 _ rfl
              intro q31 hq31
              have hv := kk_vq hv hq31
              clear hq31
              subst hv; exact z_iret_W hQ rfl rfl rfl ⟨rfl, rfl⟩ dX6_tell_140
            · have hp := ip_f hp c29; have hv := it_f hv c29
              refine z_aload_n dX6_tell_110 rfl ?_
              refine z_get (v := .ref ((sh a 10) 0)) wr_P 0 rfl rfl uin_X6 0 (Nat.le_of_ble_eq_true rfl) tw_f_RX6_10 rfl rfl dX6_tell_111 ?_
              refine z_get (v := .ref ((sh a 10) 4)) wr_P 3 rfl rfl uin_X4 3 (Nat.le_of_ble_eq_true rfl) tw_f_RX6_178 rfl rfl dX6_tell_114 ?_
              refine z_iload_n dX6_tell_117 rfl ?_
              obtain ⟨q32, hp⟩ := hp
              refine z_ialdx (x := (R.2.1 3) x1.toNatClampNeg) wr_P 7 rfl q32 rfl dX6_tell_118 ?_
              refine z_istore (lv' := [(4, .int ((R.2.1 3) x1.toNatClampNeg)), (0, .ref (a 0)), (1, .int x1), (2, .int x2), (3, .int x3)]) dX6_tell_119 (Nat.le_of_ble_eq_true rfl) rfl ?_
              refine z_aload_n dX6_tell_121 rfl ?_
              refine z_get (v := .ref ((sh a 10) 0)) wr_P 0 rfl rfl uin_X6 0 (Nat.le_of_ble_eq_true rfl) tw_f_RX6_10 rfl rfl dX6_tell_122 ?_
              refine z_get (v := .ref ((sh a 10) 4)) wr_P 3 rfl rfl uin_X4 3 (Nat.le_of_ble_eq_true rfl) tw_f_RX6_178 rfl rfl dX6_tell_125 ?_
              refine z_iload_n dX6_tell_128 rfl ?_
              refine z_iload_n dX6_tell_129 rfl ?_
              have q33 := hp
              refine z_iastx (F := upd (R.2.1 3) x1.toNatClampNeg x3) (ws' := maW G a N ++ rdW G (sh a 10) (rsa R 3 (upd (R.2.1 3) x1.toNatClampNeg x3))) 7 rfl q33 rfl rfl dX6_tell_130 ?_
              refine z_goto (tgt := 141) dX6_tell_131 (by decide) ?_
              refine z_iload dX6_tell_141 rfl ?_
              subst hv; exact z_iret_W hQ rfl rfl rfl ⟨rfl, rfl⟩ dX6_tell_143
        · have hp := ip_t hp c25; have hv := it_t hv c25
          refine z_iload_n dX6_tell_60 rfl ?_
          refine z_iconst (v := 0) dX6_tell_61 rfl ?_
          refine z_sipush (v := 999) dX6_tell_62 rfl ?_
          refine z_csi (c_X6_within G P x3 0 999 ) zc_X6_within tw_st_yX6_within tw_m_RX6_74 (fr_all (sub_P wr_P [] rfl) (wr_G hw)) (zroom_of rfl) rfl (Nat.le_of_ble_eq_true rfl) dX6_tell_65 ?_
          refine z_if_eq (tgt := 95) dX6_tell_68 (by decide) (fun c34 => ?_) (fun c34 => ?_)
          · have hp := ip_t hp c34; have hv := it_t hv c34
            refine z_iload_n dX6_tell_95 rfl ?_
            refine z_iconst (v := 2) dX6_tell_96 rfl ?_
            refine z_icmp_ne (tgt := 134) dX6_tell_97 (by decide) (fun c35 => ?_) (fun c35 => ?_)
            · have hp := ip_f hp c35; have hv := it_f hv c35
              refine z_aload_n dX6_tell_134 rfl ?_
              refine z_bipush (v := 6) dX6_tell_135 rfl ?_
              have q36 := hp
              refine z_cwviD (ws' := maW G a ((v_X6_refuse N 6).2) ++ rdW G (sh a 10) R) hw (fun sz => c_X6_refuse G P a sz N 6 q36) [0, 1, 2] [3, 4, 5, 6, 7] [5, 6, 7, 0, 1, 2, 3, 4] 8 rfl rfl rfl rfl zc_X6_refuse zv_X6_refuse tw_m_RX6_70 (zrec_of wr_P 0 rfl rfl) (zroom_of rfl) rfl (Nat.le_of_ble_eq_true rfl) dX6_tell_137 ?_
              suffices z55 : ∀ q37 : Int32 × nT, q37 = (v_X6_refuse N 6) → Z k_X6_tell G Γ (wr G A Γ.2.2.1.1.heap (maW G a q37.2 ++ rdW G (sh a 10) R)) 0 0 [(0, .ref (a 0)), (1, .int x1), (2, .int x2), (3, .int x3)] 140 [.int q37.1] from z55 _ rfl
              intro q37 hq37
              have hv := kk_vq hv hq37
              clear hq37
              subst hv; exact z_iret_W hQ rfl rfl rfl ⟨rfl, rfl⟩ dX6_tell_140
            · have hp := ip_t hp c35; have hv := it_t hv c35
              refine z_iload_n dX6_tell_100 rfl ?_
              refine z_iconst (v := 0) dX6_tell_101 rfl ?_
              refine z_bipush (v := 30) dX6_tell_102 rfl ?_
              refine z_csi (c_X6_within G P x3 0 30 ) zc_X6_within tw_st_yX6_within tw_m_RX6_74 (fr_all (sub_P wr_P [] rfl) (wr_G hw)) (zroom_of rfl) rfl (Nat.le_of_ble_eq_true rfl) dX6_tell_104 ?_
              refine z_if_eq (tgt := 134) dX6_tell_107 (by decide) (fun c38 => ?_) (fun c38 => ?_)
              · have hp := ip_t hp c38; have hv := it_t hv c38
                refine z_aload_n dX6_tell_134 rfl ?_
                refine z_bipush (v := 6) dX6_tell_135 rfl ?_
                have q39 := hp
                refine z_cwviD (ws' := maW G a ((v_X6_refuse N 6).2) ++ rdW G (sh a 10) R) hw (fun sz => c_X6_refuse G P a sz N 6 q39) [0, 1, 2] [3, 4, 5, 6, 7] [5, 6, 7, 0, 1, 2, 3, 4] 8 rfl rfl rfl rfl zc_X6_refuse zv_X6_refuse tw_m_RX6_70 (zrec_of wr_P 0 rfl rfl) (zroom_of rfl) rfl (Nat.le_of_ble_eq_true rfl) dX6_tell_137 ?_
                suffices z56 : ∀ q40 : Int32 × nT, q40 = (v_X6_refuse N 6) → Z k_X6_tell G Γ (wr G A Γ.2.2.1.1.heap (maW G a q40.2 ++ rdW G (sh a 10) R)) 0 0 [(0, .ref (a 0)), (1, .int x1), (2, .int x2), (3, .int x3)] 140 [.int q40.1] from z56 _ rfl
                intro q40 hq40
                have hv := kk_vq hv hq40
                clear hq40
                subst hv; exact z_iret_W hQ rfl rfl rfl ⟨rfl, rfl⟩ dX6_tell_140
              · have hp := ip_f hp c38; have hv := it_f hv c38
                refine z_aload_n dX6_tell_110 rfl ?_
                refine z_get (v := .ref ((sh a 10) 0)) wr_P 0 rfl rfl uin_X6 0 (Nat.le_of_ble_eq_true rfl) tw_f_RX6_10 rfl rfl dX6_tell_111 ?_
                refine z_get (v := .ref ((sh a 10) 4)) wr_P 3 rfl rfl uin_X4 3 (Nat.le_of_ble_eq_true rfl) tw_f_RX6_178 rfl rfl dX6_tell_114 ?_
                refine z_iload_n dX6_tell_117 rfl ?_
                obtain ⟨q41, hp⟩ := hp
                refine z_ialdx (x := (R.2.1 3) x1.toNatClampNeg) wr_P 7 rfl q41 rfl dX6_tell_118 ?_
                refine z_istore (lv' := [(4, .int ((R.2.1 3) x1.toNatClampNeg)), (0, .ref (a 0)), (1, .int x1), (2, .int x2), (3, .int x3)]) dX6_tell_119 (Nat.le_of_ble_eq_true rfl) rfl ?_
                refine z_aload_n dX6_tell_121 rfl ?_
                refine z_get (v := .ref ((sh a 10) 0)) wr_P 0 rfl rfl uin_X6 0 (Nat.le_of_ble_eq_true rfl) tw_f_RX6_10 rfl rfl dX6_tell_122 ?_
                refine z_get (v := .ref ((sh a 10) 4)) wr_P 3 rfl rfl uin_X4 3 (Nat.le_of_ble_eq_true rfl) tw_f_RX6_178 rfl rfl dX6_tell_125 ?_
                refine z_iload_n dX6_tell_128 rfl ?_
                refine z_iload_n dX6_tell_129 rfl ?_
                have q42 := hp
                refine z_iastx (F := upd (R.2.1 3) x1.toNatClampNeg x3) (ws' := maW G a N ++ rdW G (sh a 10) (rsa R 3 (upd (R.2.1 3) x1.toNatClampNeg x3))) 7 rfl q42 rfl rfl dX6_tell_130 ?_
                refine z_goto (tgt := 141) dX6_tell_131 (by decide) ?_
                refine z_iload dX6_tell_141 rfl ?_
                subst hv; exact z_iret_W hQ rfl rfl rfl ⟨rfl, rfl⟩ dX6_tell_143
          · have hp := ip_f hp c34; have hv := it_f hv c34
            refine z_aload_n dX6_tell_71 rfl ?_
            refine z_get (v := .ref ((sh a 10) 0)) wr_P 0 rfl rfl uin_X6 0 (Nat.le_of_ble_eq_true rfl) tw_f_RX6_10 rfl rfl dX6_tell_72 ?_
            refine z_get (v := .ref ((sh a 10) 3)) wr_P 3 rfl rfl uin_X4 2 (Nat.le_of_ble_eq_true rfl) tw_f_RX6_175 rfl rfl dX6_tell_75 ?_
            refine z_iload_n dX6_tell_78 rfl ?_
            obtain ⟨q43, hp⟩ := hp
            refine z_ialdx (x := (R.2.1 2) x1.toNatClampNeg) wr_P 6 rfl q43 rfl dX6_tell_79 ?_
            refine z_istore (lv' := [(4, .int ((R.2.1 2) x1.toNatClampNeg)), (0, .ref (a 0)), (1, .int x1), (2, .int x2), (3, .int x3)]) dX6_tell_80 (Nat.le_of_ble_eq_true rfl) rfl ?_
            refine z_aload_n dX6_tell_82 rfl ?_
            refine z_get (v := .ref ((sh a 10) 0)) wr_P 0 rfl rfl uin_X6 0 (Nat.le_of_ble_eq_true rfl) tw_f_RX6_10 rfl rfl dX6_tell_83 ?_
            refine z_get (v := .ref ((sh a 10) 3)) wr_P 3 rfl rfl uin_X4 2 (Nat.le_of_ble_eq_true rfl) tw_f_RX6_175 rfl rfl dX6_tell_86 ?_
            refine z_iload_n dX6_tell_89 rfl ?_
            refine z_iload_n dX6_tell_90 rfl ?_
            have q44 := hp
            refine z_iastx (F := upd (R.2.1 2) x1.toNatClampNeg x3) (ws' := maW G a N ++ rdW G (sh a 10) (rsa R 2 (upd (R.2.1 2) x1.toNatClampNeg x3))) 6 rfl q44 rfl rfl dX6_tell_91 ?_
            refine z_goto (tgt := 141) dX6_tell_92 (by decide) ?_
            refine z_iload dX6_tell_141 rfl ?_
            subst hv; exact z_iret_W hQ rfl rfl rfl ⟨rfl, rfl⟩ dX6_tell_143
      · have hp := ip_f hp c24; have hv := it_f hv c24
        refine z_aload_n dX6_tell_31 rfl ?_
        refine z_get (v := .ref ((sh a 10) 0)) wr_P 0 rfl rfl uin_X6 0 (Nat.le_of_ble_eq_true rfl) tw_f_RX6_10 rfl rfl dX6_tell_32 ?_
        refine z_get (v := .ref ((sh a 10) 2)) wr_P 3 rfl rfl uin_X4 1 (Nat.le_of_ble_eq_true rfl) tw_f_RX6_172 rfl rfl dX6_tell_35 ?_
        refine z_iload_n dX6_tell_38 rfl ?_
        obtain ⟨q45, hp⟩ := hp
        refine z_ialdx (x := (R.2.1 1) x1.toNatClampNeg) wr_P 5 rfl q45 rfl dX6_tell_39 ?_
        refine z_istore (lv' := [(4, .int ((R.2.1 1) x1.toNatClampNeg)), (0, .ref (a 0)), (1, .int x1), (2, .int x2), (3, .int x3)]) dX6_tell_40 (Nat.le_of_ble_eq_true rfl) rfl ?_
        refine z_aload_n dX6_tell_42 rfl ?_
        refine z_get (v := .ref ((sh a 10) 0)) wr_P 0 rfl rfl uin_X6 0 (Nat.le_of_ble_eq_true rfl) tw_f_RX6_10 rfl rfl dX6_tell_43 ?_
        refine z_get (v := .ref ((sh a 10) 2)) wr_P 3 rfl rfl uin_X4 1 (Nat.le_of_ble_eq_true rfl) tw_f_RX6_172 rfl rfl dX6_tell_46 ?_
        refine z_iload_n dX6_tell_49 rfl ?_
        refine z_iload_n dX6_tell_50 rfl ?_
        have q46 := hp
        refine z_iastx (F := upd (R.2.1 1) x1.toNatClampNeg x3) (ws' := maW G a N ++ rdW G (sh a 10) (rsa R 1 (upd (R.2.1 1) x1.toNatClampNeg x3))) 5 rfl q46 rfl rfl dX6_tell_51 ?_
        refine z_goto (tgt := 141) dX6_tell_52 (by decide) ?_
        refine z_iload dX6_tell_141 rfl ?_
        subst hv; exact z_iret_W hQ rfl rfl rfl ⟨rfl, rfl⟩ dX6_tell_143
  · have hp := ip_t hp c2; have hv := it_t hv c2
    refine z_aload_n dX6_tell_11 rfl ?_
    refine z_iconst (v := 1) dX6_tell_12 rfl ?_
    have q47 := hp
    refine z_cwviD (ws' := maW G a ((v_X6_refuse N 1).2) ++ rdW G (sh a 10) R) hw (fun sz => c_X6_refuse G P a sz N 1 q47) [0, 1, 2] [3, 4, 5, 6, 7] [5, 6, 7, 0, 1, 2, 3, 4] 8 rfl rfl rfl rfl zc_X6_refuse zv_X6_refuse tw_m_RX6_70 (zrec_of wr_P 0 rfl rfl) (zroom_of rfl) rfl (Nat.le_of_ble_eq_true rfl) dX6_tell_13 ?_
    suffices z57 : ∀ q48 : Int32 × nT, q48 = (v_X6_refuse N 1) → Z k_X6_tell G Γ (wr G A Γ.2.2.1.1.heap (maW G a q48.2 ++ rdW G (sh a 10) R)) 0 0 [(0, .ref (a 0)), (1, .int x1), (2, .int x2), (3, .int x3)] 16 [.int q48.1] from z57 _ rfl
    intro q48 hq48
    have hv := kk_vq hv hq48
    clear hq48
    subst hv; exact z_iret_W hQ rfl rfl rfl ⟨rfl, rfl⟩ dX6_tell_16
theorem dX6_comerOf_0 : decode cX6_comerOf 0 = .ok (.aload_n 0, 1) := by decide +kernel
theorem dX6_comerOf_1 : decode cX6_comerOf 1 = .ok (.getfield 10, 3) := by decide +kernel
theorem dX6_comerOf_4 : decode cX6_comerOf 4 = .ok (.iload_n 1, 1) := by decide +kernel
theorem dX6_comerOf_5 : decode cX6_comerOf 5 = .ok (.invokevirtual 128, 3) := by decide +kernel
theorem dX6_comerOf_8 : decode cX6_comerOf 8 = .ok (.astore_n 3, 1) := by decide +kernel
theorem dX6_comerOf_9 : decode cX6_comerOf 9 = .ok (.aload_n 3, 1) := by decide +kernel
theorem dX6_comerOf_10 : decode cX6_comerOf 10 = .ok (.ifnonnull 9, 3) := by decide +kernel
theorem dX6_comerOf_13 : decode cX6_comerOf 13 = .ok (.aload_n 0, 1) := by decide +kernel
theorem dX6_comerOf_14 : decode cX6_comerOf 14 = .ok (.iconst 5, 1) := by decide +kernel
theorem dX6_comerOf_15 : decode cX6_comerOf 15 = .ok (.invokevirtual 70, 3) := by decide +kernel
theorem dX6_comerOf_18 : decode cX6_comerOf 18 = .ok (.ireturn, 1) := by decide +kernel
theorem dX6_comerOf_19 : decode cX6_comerOf 19 = .ok (.iload_n 2, 1) := by decide +kernel
theorem dX6_comerOf_20 : decode cX6_comerOf 20 = .ok (.tableswitch 94 0 6 #[44, 49, 54, 64, 69, 74, 84], 44) := by decide +kernel
theorem dX6_comerOf_64 : decode cX6_comerOf 64 = .ok (.aload_n 3, 1) := by decide +kernel
theorem dX6_comerOf_65 : decode cX6_comerOf 65 = .ok (.getfield 181, 3) := by decide +kernel
theorem dX6_comerOf_68 : decode cX6_comerOf 68 = .ok (.ireturn, 1) := by decide +kernel
theorem dX6_comerOf_69 : decode cX6_comerOf 69 = .ok (.aload_n 3, 1) := by decide +kernel
theorem dX6_comerOf_70 : decode cX6_comerOf 70 = .ok (.getfield 184, 3) := by decide +kernel
theorem dX6_comerOf_73 : decode cX6_comerOf 73 = .ok (.ireturn, 1) := by decide +kernel
theorem dX6_comerOf_74 : decode cX6_comerOf 74 = .ok (.aload_n 0, 1) := by decide +kernel
theorem dX6_comerOf_75 : decode cX6_comerOf 75 = .ok (.getfield 10, 3) := by decide +kernel
theorem dX6_comerOf_78 : decode cX6_comerOf 78 = .ok (.getfield 172, 3) := by decide +kernel
theorem dX6_comerOf_81 : decode cX6_comerOf 81 = .ok (.iload_n 1, 1) := by decide +kernel
theorem dX6_comerOf_82 : decode cX6_comerOf 82 = .ok (.iaload, 1) := by decide +kernel
theorem dX6_comerOf_83 : decode cX6_comerOf 83 = .ok (.ireturn, 1) := by decide +kernel
theorem dX6_comerOf_84 : decode cX6_comerOf 84 = .ok (.aload_n 3, 1) := by decide +kernel
theorem dX6_comerOf_85 : decode cX6_comerOf 85 = .ok (.getfield 140, 3) := by decide +kernel
theorem dX6_comerOf_88 : decode cX6_comerOf 88 = .ok (.ireturn, 1) := by decide +kernel
theorem dX6_comerOf_89 : decode cX6_comerOf 89 = .ok (.aload_n 3, 1) := by decide +kernel
theorem dX6_comerOf_90 : decode cX6_comerOf 90 = .ok (.getfield 137, 3) := by decide +kernel
theorem dX6_comerOf_93 : decode cX6_comerOf 93 = .ok (.ireturn, 1) := by decide +kernel
theorem dX6_comerOf_94 : decode cX6_comerOf 94 = .ok (.aload_n 0, 1) := by decide +kernel
theorem dX6_comerOf_95 : decode cX6_comerOf 95 = .ok (.getfield 10, 3) := by decide +kernel
theorem dX6_comerOf_98 : decode cX6_comerOf 98 = .ok (.getfield 175, 3) := by decide +kernel
theorem dX6_comerOf_101 : decode cX6_comerOf 101 = .ok (.iload_n 1, 1) := by decide +kernel
theorem dX6_comerOf_102 : decode cX6_comerOf 102 = .ok (.iaload, 1) := by decide +kernel
theorem dX6_comerOf_103 : decode cX6_comerOf 103 = .ok (.ireturn, 1) := by decide +kernel
theorem dX6_comerOf_104 : decode cX6_comerOf 104 = .ok (.aload_n 0, 1) := by decide +kernel
theorem dX6_comerOf_105 : decode cX6_comerOf 105 = .ok (.getfield 10, 3) := by decide +kernel
theorem dX6_comerOf_108 : decode cX6_comerOf 108 = .ok (.getfield 178, 3) := by decide +kernel
theorem dX6_comerOf_111 : decode cX6_comerOf 111 = .ok (.iload_n 1, 1) := by decide +kernel
theorem dX6_comerOf_112 : decode cX6_comerOf 112 = .ok (.iaload, 1) := by decide +kernel
theorem dX6_comerOf_113 : decode cX6_comerOf 113 = .ok (.ireturn, 1) := by decide +kernel
theorem dX6_comerOf_114 : decode cX6_comerOf 114 = .ok (.aload_n 0, 1) := by decide +kernel
theorem dX6_comerOf_115 : decode cX6_comerOf 115 = .ok (.iconst 5, 1) := by decide +kernel
theorem dX6_comerOf_116 : decode cX6_comerOf 116 = .ok (.invokevirtual 70, 3) := by decide +kernel
theorem dX6_comerOf_119 : decode cX6_comerOf 119 = .ok (.ireturn, 1) := by decide +kernel
abbrev k_X6_comerOf : zK := (cX6_comerOf, 4, RX6, (some .int), ({ frames := 1, cells := 0, slots := 0, locals := 21 } : Room))
theorem zc_X6_comerOf : zcal yX6_comerOf k_X6_comerOf.1 k_X6_comerOf.2.1 k_X6_comerOf.2.2.2.1 2 := ⟨tw_code_yX6_comerOf, tw_i_TollForHesitators, ⟨by decide +kernel, by decide +kernel⟩, by decide +kernel⟩
theorem zv_X6_comerOf : Cond.instanceMethod yX6_comerOf ∈ TS ∧ Cond.selects RX6 yX6_comerOf yX6_comerOf ∈ TS := ⟨tw_inst_yX6_comerOf, tw_s_yX6_comerOf⟩
def v_X6_comerOf (P : pT) (N : nT) (R : rT) (x1 : Int32) (x2 : Int32) : Int32 × nT := oc (v_X4_at R x1) (kk (v_X6_refuse N 5) (fun q4 : Int32 × nT => (q4.1, q4.2))) (fun r2 : Nat => if x2 = 0 then (P.2 r2 1, N) else if x2 = 1 then (P.2 r2 2, N) else if x2 = 2 then ((R.2.1 1) x1.toNatClampNeg, N) else if x2 = 3 then (P.2 r2 3, N) else if x2 = 4 then (P.2 r2 4, N) else if x2 = 5 then ((R.2.1 2) x1.toNatClampNeg, N) else if x2 = 6 then ((R.2.1 3) x1.toNatClampNeg, N) else kk (v_X6_refuse N 5) (fun q20 : Int32 × nT => (q20.1, q20.2)))
def p_X6_comerOf (P : pT) (N : nT) (R : rT) (x1 : Int32) (x2 : Int32) : Prop := p_X4_at R x1 ∧ (oc (v_X4_at R x1) (p_X6_refuse N 5) (fun r2 : Nat => if x2 = 0 then r2 ∈ P.1 else if x2 = 1 then r2 ∈ P.1 else if x2 = 2 then vp_in x1 7 else if x2 = 3 then r2 ∈ P.1 else if x2 = 4 then r2 ∈ P.1 else if x2 = 5 then vp_in x1 7 else if x2 = 6 then vp_in x1 7 else p_X6_refuse N 5))
set_option maxHeartbeats 800000 in
theorem c_X6_comerOf {l : Launch} (G : zG) (P : pT) (a : Nat → Nat) (sz : Nat) (N : nT) (R : rT) (x1 : Int32) (x2 : Int32) (hp : p_X6_comerOf P N R x1 x2) : Met l yX6_comerOf (.code yX6_comerOf k_X6_comerOf.1 k_X6_comerOf.2.1 k_X6_comerOf.2.2.2.1 :: TS) k_X6_comerOf.2.2.2.2 (Pz G [.ref (a 0), .int x1, .int x2] (Fw G (gX G P) (maW G a N ++ rdW G (sh a 10) R) sz)) (Qwi G (fun r w => r = (v_X6_comerOf P N R x1 x2).1 ∧ w = maW G a ((v_X6_comerOf P N R x1 x2).2) ++ rdW G (sh a 10) R) (va_A (maW G a N ++ rdW G (sh a 10) R) sz)) 0 0 (va_A (maW G a N ++ rdW G (sh a 10) R) sz) := by
  refine zmet (K := k_X6_comerOf) (by decide +kernel) rfl rfl (fun Γ hl0 hQ hN hF => ?_)
  refine z_start (gX_ok G P) hF (fun hw => ?_)
  generalize va_A (maW G a N ++ rdW G (sh a 10) R) sz = A at hQ hw ⊢
  obtain ⟨res, hv⟩ : ∃ res, v_X6_comerOf P N R x1 x2 = res := ⟨_, rfl⟩
  rw [hv] at hQ
  unfold v_X6_comerOf at hv
  unfold p_X6_comerOf at hp
  show Z k_X6_comerOf G Γ _ 0 0 [(0, .ref (a 0)), (1, .int x1), (2, .int x2)] 0 []
  refine z_aload_n dX6_comerOf_0 rfl ?_
  refine z_get (v := .ref ((sh a 10) 0)) wr_P 0 rfl rfl uin_X6 0 (Nat.le_of_ble_eq_true rfl) tw_f_RX6_10 rfl rfl dX6_comerOf_1 ?_
  refine z_iload_n dX6_comerOf_4 rfl ?_
  obtain ⟨q1, hp⟩ := hp
  refine z_cvq (c_X4_at G P (sh a 10) R x1 q1) zc_X4_at zv_X4_at tw_m_RX6_128 (zrec_of wr_P 3 rfl rfl) (fr_all (sub_P wr_P [3, 4, 5, 6, 7] rfl) (wr_G hw)) (zroom_of rfl) rfl (Nat.le_of_ble_eq_true rfl) dX6_comerOf_5 ?_
  suffices z21 : ∀ r2 : Option Nat, r2 = (v_X4_at R x1) → Z k_X6_comerOf G Γ (wr G A Γ.2.2.1.1.heap (maW G a N ++ rdW G (sh a 10) R)) 0 0 [(0, .ref (a 0)), (1, .int x1), (2, .int x2)] 8 [va_rf r2] from z21 _ rfl
  intro r2 hr2
  have hp := oc_pq hp hr2
  have hv := oc_vq hv hr2
  clear hr2
  rcases r2 with _ | r2
  · have hp := oc_pn hp; have hv := oc_n hv
    refine z_astore_nN (lv' := [(3, .null), (0, .ref (a 0)), (1, .int x1), (2, .int x2)]) dX6_comerOf_8 (Nat.le_of_ble_eq_true rfl) rfl ?_
    refine z_aload_nN dX6_comerOf_9 rfl ?_
    refine z_ifnonnullN dX6_comerOf_10 ?_
    refine z_aload_n dX6_comerOf_13 rfl ?_
    refine z_iconst (v := 5) dX6_comerOf_14 rfl ?_
    have q3 := hp
    refine z_cwviD (ws' := maW G a ((v_X6_refuse N 5).2) ++ rdW G (sh a 10) R) hw (fun sz => c_X6_refuse G P a sz N 5 q3) [0, 1, 2] [3, 4, 5, 6, 7] [5, 6, 7, 0, 1, 2, 3, 4] 8 rfl rfl rfl rfl zc_X6_refuse zv_X6_refuse tw_m_RX6_70 (zrec_of wr_P 0 rfl rfl) (zroom_of rfl) rfl (Nat.le_of_ble_eq_true rfl) dX6_comerOf_15 ?_
    suffices z22 : ∀ q4 : Int32 × nT, q4 = (v_X6_refuse N 5) → Z k_X6_comerOf G Γ (wr G A Γ.2.2.1.1.heap (maW G a q4.2 ++ rdW G (sh a 10) R)) 0 0 [(3, .null), (0, .ref (a 0)), (1, .int x1), (2, .int x2)] 18 [.int q4.1] from z22 _ rfl
    intro q4 hq4
    have hv := kk_vq hv hq4
    clear hq4
    subst hv; exact z_iret_W hQ rfl rfl rfl ⟨rfl, rfl⟩ dX6_comerOf_18
  · have hp := oc_ps hp; have hv := oc_s hv
    refine z_astore_n (lv' := [(3, .ref r2), (0, .ref (a 0)), (1, .int x1), (2, .int x2)]) dX6_comerOf_8 (Nat.le_of_ble_eq_true rfl) rfl ?_
    refine z_aload_n dX6_comerOf_9 rfl ?_
    refine z_ifnonnull (tgt := 19) dX6_comerOf_10 (by decide) ?_
    refine z_iload_n dX6_comerOf_19 rfl ?_
    by_cases c6 : x2 = 0
    · have hp := ip_t hp c6; have hv := it_t hv c6
      refine z_tableIn (tgt := 64) dX6_comerOf_20 0 c6 (by decide) (by decide) rfl (by decide) ?_
      refine z_aload_n dX6_comerOf_64 rfl ?_
      have q5 := hp
      skip
      refine z_get (v := .int (P.2 r2 1)) (cm_P (wr_G hw) q5) 0 rfl rfl uin_X0 1 (Nat.le_of_ble_eq_true rfl) tw_f_RX6_181 rfl rfl dX6_comerOf_65 ?_
      subst hv; exact z_iret_W hQ rfl rfl rfl ⟨rfl, rfl⟩ dX6_comerOf_68
    have hp := ip_f hp c6
    have hv := it_f hv c6
    by_cases c8 : x2 = 1
    · have hp := ip_t hp c8; have hv := it_t hv c8
      refine z_tableIn (tgt := 69) dX6_comerOf_20 1 c8 (by decide) (by decide) rfl (by decide) ?_
      refine z_aload_n dX6_comerOf_69 rfl ?_
      have q7 := hp
      skip
      refine z_get (v := .int (P.2 r2 2)) (cm_P (wr_G hw) q7) 0 rfl rfl uin_X0 2 (Nat.le_of_ble_eq_true rfl) tw_f_RX6_184 rfl rfl dX6_comerOf_70 ?_
      subst hv; exact z_iret_W hQ rfl rfl rfl ⟨rfl, rfl⟩ dX6_comerOf_73
    have hp := ip_f hp c8
    have hv := it_f hv c8
    by_cases c10 : x2 = 2
    · have hp := ip_t hp c10; have hv := it_t hv c10
      refine z_tableIn (tgt := 74) dX6_comerOf_20 2 c10 (by decide) (by decide) rfl (by decide) ?_
      refine z_aload_n dX6_comerOf_74 rfl ?_
      refine z_get (v := .ref ((sh a 10) 0)) wr_P 0 rfl rfl uin_X6 0 (Nat.le_of_ble_eq_true rfl) tw_f_RX6_10 rfl rfl dX6_comerOf_75 ?_
      refine z_get (v := .ref ((sh a 10) 2)) wr_P 3 rfl rfl uin_X4 1 (Nat.le_of_ble_eq_true rfl) tw_f_RX6_172 rfl rfl dX6_comerOf_78 ?_
      refine z_iload_n dX6_comerOf_81 rfl ?_
      have q9 := hp
      refine z_ialdx (x := (R.2.1 1) x1.toNatClampNeg) wr_P 5 rfl q9 rfl dX6_comerOf_82 ?_
      subst hv; exact z_iret_W hQ rfl rfl rfl ⟨rfl, rfl⟩ dX6_comerOf_83
    have hp := ip_f hp c10
    have hv := it_f hv c10
    by_cases c12 : x2 = 3
    · have hp := ip_t hp c12; have hv := it_t hv c12
      refine z_tableIn (tgt := 84) dX6_comerOf_20 3 c12 (by decide) (by decide) rfl (by decide) ?_
      refine z_aload_n dX6_comerOf_84 rfl ?_
      have q11 := hp
      skip
      refine z_get (v := .int (P.2 r2 3)) (cm_P (wr_G hw) q11) 0 rfl rfl uin_X0 3 (Nat.le_of_ble_eq_true rfl) tw_f_RX6_140 rfl rfl dX6_comerOf_85 ?_
      subst hv; exact z_iret_W hQ rfl rfl rfl ⟨rfl, rfl⟩ dX6_comerOf_88
    have hp := ip_f hp c12
    have hv := it_f hv c12
    by_cases c14 : x2 = 4
    · have hp := ip_t hp c14; have hv := it_t hv c14
      refine z_tableIn (tgt := 89) dX6_comerOf_20 4 c14 (by decide) (by decide) rfl (by decide) ?_
      refine z_aload_n dX6_comerOf_89 rfl ?_
      have q13 := hp
      skip
      refine z_get (v := .int (P.2 r2 4)) (cm_P (wr_G hw) q13) 0 rfl rfl uin_X0 4 (Nat.le_of_ble_eq_true rfl) tw_f_RX6_137 rfl rfl dX6_comerOf_90 ?_
      subst hv; exact z_iret_W hQ rfl rfl rfl ⟨rfl, rfl⟩ dX6_comerOf_93
    have hp := ip_f hp c14
    have hv := it_f hv c14
    by_cases c16 : x2 = 5
    · have hp := ip_t hp c16; have hv := it_t hv c16
      refine z_tableIn (tgt := 94) dX6_comerOf_20 5 c16 (by decide) (by decide) rfl (by decide) ?_
      refine z_aload_n dX6_comerOf_94 rfl ?_
      refine z_get (v := .ref ((sh a 10) 0)) wr_P 0 rfl rfl uin_X6 0 (Nat.le_of_ble_eq_true rfl) tw_f_RX6_10 rfl rfl dX6_comerOf_95 ?_
      refine z_get (v := .ref ((sh a 10) 3)) wr_P 3 rfl rfl uin_X4 2 (Nat.le_of_ble_eq_true rfl) tw_f_RX6_175 rfl rfl dX6_comerOf_98 ?_
      refine z_iload_n dX6_comerOf_101 rfl ?_
      have q15 := hp
      refine z_ialdx (x := (R.2.1 2) x1.toNatClampNeg) wr_P 6 rfl q15 rfl dX6_comerOf_102 ?_
      subst hv; exact z_iret_W hQ rfl rfl rfl ⟨rfl, rfl⟩ dX6_comerOf_103
    have hp := ip_f hp c16
    have hv := it_f hv c16
    by_cases c18 : x2 = 6
    · have hp := ip_t hp c18; have hv := it_t hv c18
      refine z_tableIn (tgt := 104) dX6_comerOf_20 6 c18 (by decide) (by decide) rfl (by decide) ?_
      refine z_aload_n dX6_comerOf_104 rfl ?_
      refine z_get (v := .ref ((sh a 10) 0)) wr_P 0 rfl rfl uin_X6 0 (Nat.le_of_ble_eq_true rfl) tw_f_RX6_10 rfl rfl dX6_comerOf_105 ?_
      refine z_get (v := .ref ((sh a 10) 4)) wr_P 3 rfl rfl uin_X4 3 (Nat.le_of_ble_eq_true rfl) tw_f_RX6_178 rfl rfl dX6_comerOf_108 ?_
      refine z_iload_n dX6_comerOf_111 rfl ?_
      have q17 := hp
      refine z_ialdx (x := (R.2.1 3) x1.toNatClampNeg) wr_P 7 rfl q17 rfl dX6_comerOf_112 ?_
      subst hv; exact z_iret_W hQ rfl rfl rfl ⟨rfl, rfl⟩ dX6_comerOf_113
    have hp := ip_f hp c18
    have hv := it_f hv c18
    refine z_tableOut (tgt := 114) dX6_comerOf_20 (zout7_0 c6 c8 c10 c12 c14 c16 c18) (by decide) ?_
    refine z_aload_n dX6_comerOf_114 rfl ?_
    refine z_iconst (v := 5) dX6_comerOf_115 rfl ?_
    have q19 := hp
    refine z_cwviD (ws' := maW G a ((v_X6_refuse N 5).2) ++ rdW G (sh a 10) R) hw (fun sz => c_X6_refuse G P a sz N 5 q19) [0, 1, 2] [3, 4, 5, 6, 7] [5, 6, 7, 0, 1, 2, 3, 4] 8 rfl rfl rfl rfl zc_X6_refuse zv_X6_refuse tw_m_RX6_70 (zrec_of wr_P 0 rfl rfl) (zroom_of rfl) rfl (Nat.le_of_ble_eq_true rfl) dX6_comerOf_116 ?_
    suffices z23 : ∀ q20 : Int32 × nT, q20 = (v_X6_refuse N 5) → Z k_X6_comerOf G Γ (wr G A Γ.2.2.1.1.heap (maW G a q20.2 ++ rdW G (sh a 10) R)) 0 0 [(3, .ref r2), (0, .ref (a 0)), (1, .int x1), (2, .int x2)] 119 [.int q20.1] from z23 _ rfl
    intro q20 hq20
    have hv := kk_vq hv hq20
    clear hq20
    subst hv; exact z_iret_W hQ rfl rfl rfl ⟨rfl, rfl⟩ dX6_comerOf_119
theorem dX6_fault_0 : decode cX6_fault 0 = .ok (.aload_n 0, 1) := by decide +kernel
theorem dX6_fault_1 : decode cX6_fault 1 = .ok (.getfield 62, 3) := by decide +kernel
theorem dX6_fault_4 : decode cX6_fault 4 = .ok (.ireturn, 1) := by decide +kernel
abbrev k_X6_fault : zK := (cX6_fault, 1, RX6, (some .int), ({ frames := 0, cells := 0, slots := 0, locals := 0 } : Room))
theorem zc_X6_fault : zcal yX6_fault k_X6_fault.1 k_X6_fault.2.1 k_X6_fault.2.2.2.1 0 := ⟨tw_code_yX6_fault, tw_i_TollForHesitators, ⟨by decide +kernel, by decide +kernel⟩, by decide +kernel⟩
theorem zv_X6_fault : Cond.instanceMethod yX6_fault ∈ TS ∧ Cond.selects RX6 yX6_fault yX6_fault ∈ TS := ⟨tw_inst_yX6_fault, tw_s_yX6_fault⟩
def v_X6_fault (N : nT) : Int32 := N.1 10
set_option maxHeartbeats 800000 in
theorem c_X6_fault {l : Launch} (G : zG) (P : pT) (a : Nat → Nat) (N : nT) : Met l yX6_fault (.code yX6_fault k_X6_fault.1 k_X6_fault.2.1 k_X6_fault.2.2.2.1 :: TS) k_X6_fault.2.2.2.2 (Pz G [.ref (a 0)] (Fr G P (maW G a N))) (vp_Si (fun r => r = v_X6_fault N)) 0 0 (fun _ => False) := by
  refine zmet (K := k_X6_fault) (by decide +kernel) rfl rfl (fun Γ hl0 hQ hN hF => ?_)
  have hI := rd_P (G := G) hF.1
  have hG := rd_F hF.2
  obtain ⟨res, hv⟩ : ∃ res, v_X6_fault N = res := ⟨_, rfl⟩
  rw [hv] at hQ
  unfold v_X6_fault at hv
  show Z k_X6_fault G Γ _ 0 0 [(0, .ref (a 0))] 0 []
  refine z_aload_n dX6_fault_0 rfl ?_
  refine z_get (v := .int (N.1 10)) hI 0 rfl rfl uin_X6 10 (Nat.le_of_ble_eq_true rfl) tw_f_RX6_62 rfl rfl dX6_fault_1 ?_
  exact z_iret_S hQ rfl hv dX6_fault_4
theorem dX6_looks_0 : decode cX6_looks 0 = .ok (.aload_n 0, 1) := by decide +kernel
theorem dX6_looks_1 : decode cX6_looks 1 = .ok (.getfield 10, 3) := by decide +kernel
theorem dX6_looks_4 : decode cX6_looks 4 = .ok (.iload_n 1, 1) := by decide +kernel
theorem dX6_looks_5 : decode cX6_looks 5 = .ok (.invokevirtual 128, 3) := by decide +kernel
theorem dX6_looks_8 : decode cX6_looks 8 = .ok (.astore_n 3, 1) := by decide +kernel
theorem dX6_looks_9 : decode cX6_looks 9 = .ok (.aload_n 3, 1) := by decide +kernel
theorem dX6_looks_10 : decode cX6_looks 10 = .ok (.ifnonnull 9, 3) := by decide +kernel
theorem dX6_looks_13 : decode cX6_looks 13 = .ok (.aload_n 0, 1) := by decide +kernel
theorem dX6_looks_14 : decode cX6_looks 14 = .ok (.iconst 1, 1) := by decide +kernel
theorem dX6_looks_15 : decode cX6_looks 15 = .ok (.invokevirtual 70, 3) := by decide +kernel
theorem dX6_looks_18 : decode cX6_looks 18 = .ok (.ireturn, 1) := by decide +kernel
theorem dX6_looks_19 : decode cX6_looks 19 = .ok (.iload_n 2, 1) := by decide +kernel
theorem dX6_looks_20 : decode cX6_looks 20 = .ok (.tableswitch 77 0 3 #[32, 44, 49, 61], 32) := by decide +kernel
theorem dX6_looks_52 : decode cX6_looks 52 = .ok (.aload_n 3, 1) := by decide +kernel
theorem dX6_looks_53 : decode cX6_looks 53 = .ok (.aload_n 0, 1) := by decide +kernel
theorem dX6_looks_54 : decode cX6_looks 54 = .ok (.getfield 10, 3) := by decide +kernel
theorem dX6_looks_57 : decode cX6_looks 57 = .ok (.getfield 160, 3) := by decide +kernel
theorem dX6_looks_60 : decode cX6_looks 60 = .ok (.invokevirtual 200, 3) := by decide +kernel
theorem dX6_looks_63 : decode cX6_looks 63 = .ok (.ireturn, 1) := by decide +kernel
theorem dX6_looks_64 : decode cX6_looks 64 = .ok (.aload_n 3, 1) := by decide +kernel
theorem dX6_looks_65 : decode cX6_looks 65 = .ok (.invokevirtual 143, 3) := by decide +kernel
theorem dX6_looks_68 : decode cX6_looks 68 = .ok (.ireturn, 1) := by decide +kernel
theorem dX6_looks_69 : decode cX6_looks 69 = .ok (.aload_n 3, 1) := by decide +kernel
theorem dX6_looks_70 : decode cX6_looks 70 = .ok (.aload_n 0, 1) := by decide +kernel
theorem dX6_looks_71 : decode cX6_looks 71 = .ok (.getfield 10, 3) := by decide +kernel
theorem dX6_looks_74 : decode cX6_looks 74 = .ok (.getfield 163, 3) := by decide +kernel
theorem dX6_looks_77 : decode cX6_looks 77 = .ok (.invokevirtual 203, 3) := by decide +kernel
theorem dX6_looks_80 : decode cX6_looks 80 = .ok (.ireturn, 1) := by decide +kernel
theorem dX6_looks_81 : decode cX6_looks 81 = .ok (.aload_n 3, 1) := by decide +kernel
theorem dX6_looks_82 : decode cX6_looks 82 = .ok (.aload_n 0, 1) := by decide +kernel
theorem dX6_looks_83 : decode cX6_looks 83 = .ok (.getfield 10, 3) := by decide +kernel
theorem dX6_looks_86 : decode cX6_looks 86 = .ok (.getfield 172, 3) := by decide +kernel
theorem dX6_looks_89 : decode cX6_looks 89 = .ok (.iload_n 1, 1) := by decide +kernel
theorem dX6_looks_90 : decode cX6_looks 90 = .ok (.iaload, 1) := by decide +kernel
theorem dX6_looks_91 : decode cX6_looks 91 = .ok (.iconst 0, 1) := by decide +kernel
theorem dX6_looks_92 : decode cX6_looks 92 = .ok (.iconst 0, 1) := by decide +kernel
theorem dX6_looks_93 : decode cX6_looks 93 = .ok (.invokevirtual 206, 3) := by decide +kernel
theorem dX6_looks_96 : decode cX6_looks 96 = .ok (.ireturn, 1) := by decide +kernel
theorem dX6_looks_97 : decode cX6_looks 97 = .ok (.aload_n 0, 1) := by decide +kernel
theorem dX6_looks_98 : decode cX6_looks 98 = .ok (.iconst 5, 1) := by decide +kernel
theorem dX6_looks_99 : decode cX6_looks 99 = .ok (.invokevirtual 70, 3) := by decide +kernel
theorem dX6_looks_102 : decode cX6_looks 102 = .ok (.ireturn, 1) := by decide +kernel
abbrev k_X6_looks : zK := (cX6_looks, 4, RX6, (some .int), ({ frames := 2, cells := 0, slots := 0, locals := 36 } : Room))
theorem zc_X6_looks : zcal yX6_looks k_X6_looks.1 k_X6_looks.2.1 k_X6_looks.2.2.2.1 2 := ⟨tw_code_yX6_looks, tw_i_TollForHesitators, ⟨by decide +kernel, by decide +kernel⟩, by decide +kernel⟩
theorem zv_X6_looks : Cond.instanceMethod yX6_looks ∈ TS ∧ Cond.selects RX6 yX6_looks yX6_looks ∈ TS := ⟨tw_inst_yX6_looks, tw_s_yX6_looks⟩
def v_X6_looks (P : pT) (N : nT) (R : rT) (x1 : Int32) (x2 : Int32) : Int32 × nT := oc (v_X4_at R x1) (kk (v_X6_refuse N 1) (fun q4 : Int32 × nT => (q4.1, q4.2))) (fun r2 : Nat => if x2 = 0 then ((v_X0_looksOn (P.2 r2) (R.1 5)), N) else if x2 = 1 then ((v_X0_step (P.2 r2)), N) else if x2 = 2 then ((v_X0_burden (P.2 r2) (R.1 6)), N) else if x2 = 3 then ((v_X0_courage (P.2 r2) ((R.2.1 1) x1.toNatClampNeg) 0 0), N) else kk (v_X6_refuse N 5) (fun q16 : Int32 × nT => (q16.1, q16.2)))
def p_X6_looks (P : pT) (N : nT) (R : rT) (x1 : Int32) (x2 : Int32) : Prop := p_X4_at R x1 ∧ (oc (v_X4_at R x1) (p_X6_refuse N 1) (fun r2 : Nat => if x2 = 0 then (r2 ∈ P.1) ∧ (p_X0_looksOn (P.2 r2) (R.1 5)) else if x2 = 1 then r2 ∈ P.1 else if x2 = 2 then r2 ∈ P.1 else if x2 = 3 then vp_in x1 7 ∧ (r2 ∈ P.1) else p_X6_refuse N 5))
set_option maxHeartbeats 800000 in
theorem c_X6_looks {l : Launch} (G : zG) (P : pT) (a : Nat → Nat) (sz : Nat) (N : nT) (R : rT) (x1 : Int32) (x2 : Int32) (hp : p_X6_looks P N R x1 x2) : Met l yX6_looks (.code yX6_looks k_X6_looks.1 k_X6_looks.2.1 k_X6_looks.2.2.2.1 :: TS) k_X6_looks.2.2.2.2 (Pz G [.ref (a 0), .int x1, .int x2] (Fw G (gX G P) (maW G a N ++ rdW G (sh a 10) R) sz)) (Qwi G (fun r w => r = (v_X6_looks P N R x1 x2).1 ∧ w = maW G a ((v_X6_looks P N R x1 x2).2) ++ rdW G (sh a 10) R) (va_A (maW G a N ++ rdW G (sh a 10) R) sz)) 0 0 (va_A (maW G a N ++ rdW G (sh a 10) R) sz) := by
  refine zmet (K := k_X6_looks) (by decide +kernel) rfl rfl (fun Γ hl0 hQ hN hF => ?_)
  refine z_start (gX_ok G P) hF (fun hw => ?_)
  generalize va_A (maW G a N ++ rdW G (sh a 10) R) sz = A at hQ hw ⊢
  obtain ⟨res, hv⟩ : ∃ res, v_X6_looks P N R x1 x2 = res := ⟨_, rfl⟩
  rw [hv] at hQ
  unfold v_X6_looks at hv
  unfold p_X6_looks at hp
  show Z k_X6_looks G Γ _ 0 0 [(0, .ref (a 0)), (1, .int x1), (2, .int x2)] 0 []
  refine z_aload_n dX6_looks_0 rfl ?_
  refine z_get (v := .ref ((sh a 10) 0)) wr_P 0 rfl rfl uin_X6 0 (Nat.le_of_ble_eq_true rfl) tw_f_RX6_10 rfl rfl dX6_looks_1 ?_
  refine z_iload_n dX6_looks_4 rfl ?_
  obtain ⟨q1, hp⟩ := hp
  refine z_cvq (c_X4_at G P (sh a 10) R x1 q1) zc_X4_at zv_X4_at tw_m_RX6_128 (zrec_of wr_P 3 rfl rfl) (fr_all (sub_P wr_P [3, 4, 5, 6, 7] rfl) (wr_G hw)) (zroom_of rfl) rfl (Nat.le_of_ble_eq_true rfl) dX6_looks_5 ?_
  suffices z17 : ∀ r2 : Option Nat, r2 = (v_X4_at R x1) → Z k_X6_looks G Γ (wr G A Γ.2.2.1.1.heap (maW G a N ++ rdW G (sh a 10) R)) 0 0 [(0, .ref (a 0)), (1, .int x1), (2, .int x2)] 8 [va_rf r2] from z17 _ rfl
  intro r2 hr2
  have hp := oc_pq hp hr2
  have hv := oc_vq hv hr2
  clear hr2
  rcases r2 with _ | r2
  · have hp := oc_pn hp; have hv := oc_n hv
    refine z_astore_nN (lv' := [(3, .null), (0, .ref (a 0)), (1, .int x1), (2, .int x2)]) dX6_looks_8 (Nat.le_of_ble_eq_true rfl) rfl ?_
    refine z_aload_nN dX6_looks_9 rfl ?_
    refine z_ifnonnullN dX6_looks_10 ?_
    refine z_aload_n dX6_looks_13 rfl ?_
    refine z_iconst (v := 1) dX6_looks_14 rfl ?_
    have q3 := hp
    refine z_cwviD (ws' := maW G a ((v_X6_refuse N 1).2) ++ rdW G (sh a 10) R) hw (fun sz => c_X6_refuse G P a sz N 1 q3) [0, 1, 2] [3, 4, 5, 6, 7] [5, 6, 7, 0, 1, 2, 3, 4] 8 rfl rfl rfl rfl zc_X6_refuse zv_X6_refuse tw_m_RX6_70 (zrec_of wr_P 0 rfl rfl) (zroom_of rfl) rfl (Nat.le_of_ble_eq_true rfl) dX6_looks_15 ?_
    suffices z18 : ∀ q4 : Int32 × nT, q4 = (v_X6_refuse N 1) → Z k_X6_looks G Γ (wr G A Γ.2.2.1.1.heap (maW G a q4.2 ++ rdW G (sh a 10) R)) 0 0 [(3, .null), (0, .ref (a 0)), (1, .int x1), (2, .int x2)] 18 [.int q4.1] from z18 _ rfl
    intro q4 hq4
    have hv := kk_vq hv hq4
    clear hq4
    subst hv; exact z_iret_W hQ rfl rfl rfl ⟨rfl, rfl⟩ dX6_looks_18
  · have hp := oc_ps hp; have hv := oc_s hv
    refine z_astore_n (lv' := [(3, .ref r2), (0, .ref (a 0)), (1, .int x1), (2, .int x2)]) dX6_looks_8 (Nat.le_of_ble_eq_true rfl) rfl ?_
    refine z_aload_n dX6_looks_9 rfl ?_
    refine z_ifnonnull (tgt := 19) dX6_looks_10 (by decide) ?_
    refine z_iload_n dX6_looks_19 rfl ?_
    by_cases c7 : x2 = 0
    · have hp := ip_t hp c7; have hv := it_t hv c7
      refine z_tableIn (tgt := 52) dX6_looks_20 0 c7 (by decide) (by decide) rfl (by decide) ?_
      refine z_aload_n dX6_looks_52 rfl ?_
      refine z_aload_n dX6_looks_53 rfl ?_
      refine z_get (v := .ref ((sh a 10) 0)) wr_P 0 rfl rfl uin_X6 0 (Nat.le_of_ble_eq_true rfl) tw_f_RX6_10 rfl rfl dX6_looks_54 ?_
      refine z_get (v := .int (R.1 5)) wr_P 3 rfl rfl uin_X4 5 (Nat.le_of_ble_eq_true rfl) tw_f_RX6_160 rfl rfl dX6_looks_57 ?_
      obtain ⟨q6, hp⟩ := hp
      skip
      have q5 := hp
      refine z_cvi (c_X0_looksOn G P r2 (P.2 r2) (R.1 5) q5) zc_X0_looksOn zv_X0_looksOn tw_m_RX6_200 (zrec_of (cm_P (wr_G hw) q6) 0 rfl rfl) (fr_all (cm_P (wr_G hw) q6) (wr_G hw)) (zroom_of rfl) rfl (Nat.le_of_ble_eq_true rfl) dX6_looks_60 ?_
      subst hv; exact z_iret_W hQ rfl rfl rfl ⟨rfl, rfl⟩ dX6_looks_63
    have hp := ip_f hp c7
    have hv := it_f hv c7
    by_cases c9 : x2 = 1
    · have hp := ip_t hp c9; have hv := it_t hv c9
      refine z_tableIn (tgt := 64) dX6_looks_20 1 c9 (by decide) (by decide) rfl (by decide) ?_
      refine z_aload_n dX6_looks_64 rfl ?_
      have q8 := hp
      skip
      refine z_cvi (c_X0_step G P r2 (P.2 r2) ) zc_X0_step zv_X0_step tw_m_RX6_143 (zrec_of (cm_P (wr_G hw) q8) 0 rfl rfl) (fr_all (cm_P (wr_G hw) q8) (wr_G hw)) (zroom_of rfl) rfl (Nat.le_of_ble_eq_true rfl) dX6_looks_65 ?_
      subst hv; exact z_iret_W hQ rfl rfl rfl ⟨rfl, rfl⟩ dX6_looks_68
    have hp := ip_f hp c9
    have hv := it_f hv c9
    by_cases c11 : x2 = 2
    · have hp := ip_t hp c11; have hv := it_t hv c11
      refine z_tableIn (tgt := 69) dX6_looks_20 2 c11 (by decide) (by decide) rfl (by decide) ?_
      refine z_aload_n dX6_looks_69 rfl ?_
      refine z_aload_n dX6_looks_70 rfl ?_
      refine z_get (v := .ref ((sh a 10) 0)) wr_P 0 rfl rfl uin_X6 0 (Nat.le_of_ble_eq_true rfl) tw_f_RX6_10 rfl rfl dX6_looks_71 ?_
      refine z_get (v := .int (R.1 6)) wr_P 3 rfl rfl uin_X4 6 (Nat.le_of_ble_eq_true rfl) tw_f_RX6_163 rfl rfl dX6_looks_74 ?_
      have q10 := hp
      skip
      refine z_cvi (c_X0_burden G P r2 (P.2 r2) (R.1 6) ) zc_X0_burden zv_X0_burden tw_m_RX6_203 (zrec_of (cm_P (wr_G hw) q10) 0 rfl rfl) (fr_all (cm_P (wr_G hw) q10) (wr_G hw)) (zroom_of rfl) rfl (Nat.le_of_ble_eq_true rfl) dX6_looks_77 ?_
      subst hv; exact z_iret_W hQ rfl rfl rfl ⟨rfl, rfl⟩ dX6_looks_80
    have hp := ip_f hp c11
    have hv := it_f hv c11
    by_cases c14 : x2 = 3
    · have hp := ip_t hp c14; have hv := it_t hv c14
      refine z_tableIn (tgt := 81) dX6_looks_20 3 c14 (by decide) (by decide) rfl (by decide) ?_
      refine z_aload_n dX6_looks_81 rfl ?_
      refine z_aload_n dX6_looks_82 rfl ?_
      refine z_get (v := .ref ((sh a 10) 0)) wr_P 0 rfl rfl uin_X6 0 (Nat.le_of_ble_eq_true rfl) tw_f_RX6_10 rfl rfl dX6_looks_83 ?_
      refine z_get (v := .ref ((sh a 10) 2)) wr_P 3 rfl rfl uin_X4 1 (Nat.le_of_ble_eq_true rfl) tw_f_RX6_172 rfl rfl dX6_looks_86 ?_
      refine z_iload_n dX6_looks_89 rfl ?_
      obtain ⟨q12, hp⟩ := hp
      refine z_ialdx (x := (R.2.1 1) x1.toNatClampNeg) wr_P 5 rfl q12 rfl dX6_looks_90 ?_
      refine z_iconst (v := 0) dX6_looks_91 rfl ?_
      refine z_iconst (v := 0) dX6_looks_92 rfl ?_
      have q13 := hp
      skip
      refine z_cvi (c_X0_courage G P r2 (P.2 r2) ((R.2.1 1) x1.toNatClampNeg) 0 0 ) zc_X0_courage zv_X0_courage tw_m_RX6_206 (zrec_of (cm_P (wr_G hw) q13) 0 rfl rfl) (fr_all (cm_P (wr_G hw) q13) (wr_G hw)) (zroom_of rfl) rfl (Nat.le_of_ble_eq_true rfl) dX6_looks_93 ?_
      subst hv; exact z_iret_W hQ rfl rfl rfl ⟨rfl, rfl⟩ dX6_looks_96
    have hp := ip_f hp c14
    have hv := it_f hv c14
    refine z_tableOut (tgt := 97) dX6_looks_20 (zout4_0 c7 c9 c11 c14) (by decide) ?_
    refine z_aload_n dX6_looks_97 rfl ?_
    refine z_iconst (v := 5) dX6_looks_98 rfl ?_
    have q15 := hp
    refine z_cwviD (ws' := maW G a ((v_X6_refuse N 5).2) ++ rdW G (sh a 10) R) hw (fun sz => c_X6_refuse G P a sz N 5 q15) [0, 1, 2] [3, 4, 5, 6, 7] [5, 6, 7, 0, 1, 2, 3, 4] 8 rfl rfl rfl rfl zc_X6_refuse zv_X6_refuse tw_m_RX6_70 (zrec_of wr_P 0 rfl rfl) (zroom_of rfl) rfl (Nat.le_of_ble_eq_true rfl) dX6_looks_99 ?_
    suffices z19 : ∀ q16 : Int32 × nT, q16 = (v_X6_refuse N 5) → Z k_X6_looks G Γ (wr G A Γ.2.2.1.1.heap (maW G a q16.2 ++ rdW G (sh a 10) R)) 0 0 [(3, .ref r2), (0, .ref (a 0)), (1, .int x1), (2, .int x2)] 102 [.int q16.1] from z19 _ rfl
    intro q16 hq16
    have hv := kk_vq hv hq16
    clear hq16
    subst hv; exact z_iret_W hQ rfl rfl rfl ⟨rfl, rfl⟩ dX6_looks_102
theorem dX6_slow_0 : decode cX6_slow 0 = .ok (.aload_n 0, 1) := by decide +kernel
theorem dX6_slow_1 : decode cX6_slow 1 = .ok (.getfield 10, 3) := by decide +kernel
theorem dX6_slow_4 : decode cX6_slow 4 = .ok (.iload_n 1, 1) := by decide +kernel
theorem dX6_slow_5 : decode cX6_slow 5 = .ok (.invokevirtual 121, 3) := by decide +kernel
theorem dX6_slow_8 : decode cX6_slow 8 = .ok (.ifCond .ne 12, 3) := by decide +kernel
theorem dX6_slow_11 : decode cX6_slow 11 = .ok (.aload_n 0, 1) := by decide +kernel
theorem dX6_slow_12 : decode cX6_slow 12 = .ok (.iconst 1, 1) := by decide +kernel
theorem dX6_slow_13 : decode cX6_slow 13 = .ok (.invokevirtual 70, 3) := by decide +kernel
theorem dX6_slow_16 : decode cX6_slow 16 = .ok (.bipush 10, 2) := by decide +kernel
theorem dX6_slow_18 : decode cX6_slow 18 = .ok (.isub, 1) := by decide +kernel
theorem dX6_slow_19 : decode cX6_slow 19 = .ok (.ireturn, 1) := by decide +kernel
theorem dX6_slow_20 : decode cX6_slow 20 = .ok (.iload_n 2, 1) := by decide +kernel
theorem dX6_slow_21 : decode cX6_slow 21 = .ok (.iconst 0, 1) := by decide +kernel
theorem dX6_slow_22 : decode cX6_slow 22 = .ok (.bipush 9, 2) := by decide +kernel
theorem dX6_slow_24 : decode cX6_slow 24 = .ok (.invokestatic 74, 3) := by decide +kernel
theorem dX6_slow_27 : decode cX6_slow 27 = .ok (.ifCond .ne 13, 3) := by decide +kernel
theorem dX6_slow_30 : decode cX6_slow 30 = .ok (.aload_n 0, 1) := by decide +kernel
theorem dX6_slow_31 : decode cX6_slow 31 = .ok (.bipush 6, 2) := by decide +kernel
theorem dX6_slow_33 : decode cX6_slow 33 = .ok (.invokevirtual 70, 3) := by decide +kernel
theorem dX6_slow_36 : decode cX6_slow 36 = .ok (.bipush 10, 2) := by decide +kernel
theorem dX6_slow_38 : decode cX6_slow 38 = .ok (.isub, 1) := by decide +kernel
theorem dX6_slow_39 : decode cX6_slow 39 = .ok (.ireturn, 1) := by decide +kernel
theorem dX6_slow_40 : decode cX6_slow 40 = .ok (.aload_n 0, 1) := by decide +kernel
theorem dX6_slow_41 : decode cX6_slow 41 = .ok (.getfield 10, 3) := by decide +kernel
theorem dX6_slow_44 : decode cX6_slow 44 = .ok (.iload_n 1, 1) := by decide +kernel
theorem dX6_slow_45 : decode cX6_slow 45 = .ok (.iload_n 2, 1) := by decide +kernel
theorem dX6_slow_46 : decode cX6_slow 46 = .ok (.aload_n 0, 1) := by decide +kernel
theorem dX6_slow_47 : decode cX6_slow 47 = .ok (.getfield 10, 3) := by decide +kernel
theorem dX6_slow_50 : decode cX6_slow 50 = .ok (.getfield 172, 3) := by decide +kernel
theorem dX6_slow_53 : decode cX6_slow 53 = .ok (.iload_n 1, 1) := by decide +kernel
theorem dX6_slow_54 : decode cX6_slow 54 = .ok (.iaload, 1) := by decide +kernel
theorem dX6_slow_55 : decode cX6_slow 55 = .ok (.invokevirtual 210, 3) := by decide +kernel
theorem dX6_slow_58 : decode cX6_slow 58 = .ok (.ireturn, 1) := by decide +kernel
abbrev k_X6_slow : zK := (cX6_slow, 3, RX6, (some .int), ({ frames := 4, cells := 0, slots := 0, locals := 89 } : Room))
theorem zc_X6_slow : zcal yX6_slow k_X6_slow.1 k_X6_slow.2.1 k_X6_slow.2.2.2.1 2 := ⟨tw_code_yX6_slow, tw_i_TollForHesitators, ⟨by decide +kernel, by decide +kernel⟩, by decide +kernel⟩
theorem zv_X6_slow : Cond.instanceMethod yX6_slow ∈ TS ∧ Cond.selects RX6 yX6_slow yX6_slow ∈ TS := ⟨tw_inst_yX6_slow, tw_s_yX6_slow⟩
def v_X6_slow (P : pT) (N : nT) (R : rT) (x1 : Int32) (x2 : Int32) : Int32 × nT := if (v_X4_has R x1) = 0 then kk (v_X6_refuse N 1) (fun q9 : Int32 × nT => (q9.1 - 10, q9.2)) else if (v_X6_within x2 0 9) = 0 then kk (v_X6_refuse N 6) (fun q7 : Int32 × nT => (q7.1 - 10, q7.2)) else ((v_X4_slowAlone P R x1 x2 ((R.2.1 1) x1.toNatClampNeg)), N)
def p_X6_slow (P : pT) (N : nT) (R : rT) (x1 : Int32) (x2 : Int32) : Prop := p_X4_has R x1 ∧ (if (v_X4_has R x1) = 0 then p_X6_refuse N 1 else if (v_X6_within x2 0 9) = 0 then p_X6_refuse N 6 else vp_in x1 7 ∧ (p_X4_slowAlone P R x1 x2 ((R.2.1 1) x1.toNatClampNeg)))
set_option maxHeartbeats 800000 in
theorem c_X6_slow {l : Launch} (G : zG) (P : pT) (a : Nat → Nat) (sz : Nat) (N : nT) (R : rT) (x1 : Int32) (x2 : Int32) (hp : p_X6_slow P N R x1 x2) : Met l yX6_slow (.code yX6_slow k_X6_slow.1 k_X6_slow.2.1 k_X6_slow.2.2.2.1 :: TS) k_X6_slow.2.2.2.2 (Pz G [.ref (a 0), .int x1, .int x2] (Fw G (gX G P) (maW G a N ++ rdW G (sh a 10) R) sz)) (Qwi G (fun r w => r = (v_X6_slow P N R x1 x2).1 ∧ w = maW G a ((v_X6_slow P N R x1 x2).2) ++ rdW G (sh a 10) R) (va_A (maW G a N ++ rdW G (sh a 10) R) sz)) 0 0 (va_A (maW G a N ++ rdW G (sh a 10) R) sz) := by
  refine zmet (K := k_X6_slow) (by decide +kernel) rfl rfl (fun Γ hl0 hQ hN hF => ?_)
  refine z_start (gX_ok G P) hF (fun hw => ?_)
  generalize va_A (maW G a N ++ rdW G (sh a 10) R) sz = A at hQ hw ⊢
  obtain ⟨res, hv⟩ : ∃ res, v_X6_slow P N R x1 x2 = res := ⟨_, rfl⟩
  rw [hv] at hQ
  unfold v_X6_slow at hv
  unfold p_X6_slow at hp
  show Z k_X6_slow G Γ _ 0 0 [(0, .ref (a 0)), (1, .int x1), (2, .int x2)] 0 []
  refine z_aload_n dX6_slow_0 rfl ?_
  refine z_get (v := .ref ((sh a 10) 0)) wr_P 0 rfl rfl uin_X6 0 (Nat.le_of_ble_eq_true rfl) tw_f_RX6_10 rfl rfl dX6_slow_1 ?_
  refine z_iload_n dX6_slow_4 rfl ?_
  obtain ⟨q1, hp⟩ := hp
  refine z_cvi (c_X4_has G P (sh a 10) R x1 q1) zc_X4_has zv_X4_has tw_m_RX6_121 (zrec_of wr_P 3 rfl rfl) (fr_all (sub_P wr_P [3, 4, 5, 6, 7] rfl) (wr_G hw)) (zroom_of rfl) rfl (Nat.le_of_ble_eq_true rfl) dX6_slow_5 ?_
  refine z_if_ne (tgt := 20) dX6_slow_8 (by decide) (fun c2 => ?_) (fun c2 => ?_)
  · have hp := ip_f hp c2; have hv := it_f hv c2
    refine z_iload_n dX6_slow_20 rfl ?_
    refine z_iconst (v := 0) dX6_slow_21 rfl ?_
    refine z_bipush (v := 9) dX6_slow_22 rfl ?_
    refine z_csi (c_X6_within G P x2 0 9 ) zc_X6_within tw_st_yX6_within tw_m_RX6_74 (fr_all (sub_P wr_P [] rfl) (wr_G hw)) (zroom_of rfl) rfl (Nat.le_of_ble_eq_true rfl) dX6_slow_24 ?_
    refine z_if_ne (tgt := 40) dX6_slow_27 (by decide) (fun c3 => ?_) (fun c3 => ?_)
    · have hp := ip_f hp c3; have hv := it_f hv c3
      refine z_aload_n dX6_slow_40 rfl ?_
      refine z_get (v := .ref ((sh a 10) 0)) wr_P 0 rfl rfl uin_X6 0 (Nat.le_of_ble_eq_true rfl) tw_f_RX6_10 rfl rfl dX6_slow_41 ?_
      refine z_iload_n dX6_slow_44 rfl ?_
      refine z_iload_n dX6_slow_45 rfl ?_
      refine z_aload_n dX6_slow_46 rfl ?_
      refine z_get (v := .ref ((sh a 10) 0)) wr_P 0 rfl rfl uin_X6 0 (Nat.le_of_ble_eq_true rfl) tw_f_RX6_10 rfl rfl dX6_slow_47 ?_
      refine z_get (v := .ref ((sh a 10) 2)) wr_P 3 rfl rfl uin_X4 1 (Nat.le_of_ble_eq_true rfl) tw_f_RX6_172 rfl rfl dX6_slow_50 ?_
      refine z_iload_n dX6_slow_53 rfl ?_
      obtain ⟨q4, hp⟩ := hp
      refine z_ialdx (x := (R.2.1 1) x1.toNatClampNeg) wr_P 5 rfl q4 rfl dX6_slow_54 ?_
      have q5 := hp
      refine z_cvi (c_X4_slowAlone G P (sh a 10) R x1 x2 ((R.2.1 1) x1.toNatClampNeg) q5) zc_X4_slowAlone zv_X4_slowAlone tw_m_RX6_210 (zrec_of wr_P 3 rfl rfl) (fr_all (sub_P wr_P [3, 4, 5, 6, 7] rfl) (wr_G hw)) (zroom_of rfl) rfl (Nat.le_of_ble_eq_true rfl) dX6_slow_55 ?_
      subst hv; exact z_iret_W hQ rfl rfl rfl ⟨rfl, rfl⟩ dX6_slow_58
    · have hp := ip_t hp c3; have hv := it_t hv c3
      refine z_aload_n dX6_slow_30 rfl ?_
      refine z_bipush (v := 6) dX6_slow_31 rfl ?_
      have q6 := hp
      refine z_cwviD (ws' := maW G a ((v_X6_refuse N 6).2) ++ rdW G (sh a 10) R) hw (fun sz => c_X6_refuse G P a sz N 6 q6) [0, 1, 2] [3, 4, 5, 6, 7] [5, 6, 7, 0, 1, 2, 3, 4] 8 rfl rfl rfl rfl zc_X6_refuse zv_X6_refuse tw_m_RX6_70 (zrec_of wr_P 0 rfl rfl) (zroom_of rfl) rfl (Nat.le_of_ble_eq_true rfl) dX6_slow_33 ?_
      suffices z10 : ∀ q7 : Int32 × nT, q7 = (v_X6_refuse N 6) → Z k_X6_slow G Γ (wr G A Γ.2.2.1.1.heap (maW G a q7.2 ++ rdW G (sh a 10) R)) 0 0 [(0, .ref (a 0)), (1, .int x1), (2, .int x2)] 36 [.int q7.1] from z10 _ rfl
      intro q7 hq7
      have hv := kk_vq hv hq7
      clear hq7
      refine z_bipush (v := 10) dX6_slow_36 rfl ?_
      refine z_isub dX6_slow_38 ?_
      subst hv; exact z_iret_W hQ rfl rfl rfl ⟨rfl, rfl⟩ dX6_slow_39
  · have hp := ip_t hp c2; have hv := it_t hv c2
    refine z_aload_n dX6_slow_11 rfl ?_
    refine z_iconst (v := 1) dX6_slow_12 rfl ?_
    have q8 := hp
    refine z_cwviD (ws' := maW G a ((v_X6_refuse N 1).2) ++ rdW G (sh a 10) R) hw (fun sz => c_X6_refuse G P a sz N 1 q8) [0, 1, 2] [3, 4, 5, 6, 7] [5, 6, 7, 0, 1, 2, 3, 4] 8 rfl rfl rfl rfl zc_X6_refuse zv_X6_refuse tw_m_RX6_70 (zrec_of wr_P 0 rfl rfl) (zroom_of rfl) rfl (Nat.le_of_ble_eq_true rfl) dX6_slow_13 ?_
    suffices z11 : ∀ q9 : Int32 × nT, q9 = (v_X6_refuse N 1) → Z k_X6_slow G Γ (wr G A Γ.2.2.1.1.heap (maW G a q9.2 ++ rdW G (sh a 10) R)) 0 0 [(0, .ref (a 0)), (1, .int x1), (2, .int x2)] 16 [.int q9.1] from z11 _ rfl
    intro q9 hq9
    have hv := kk_vq hv hq9
    clear hq9
    refine z_bipush (v := 10) dX6_slow_16 rfl ?_
    refine z_isub dX6_slow_18 ?_
    subst hv; exact z_iret_W hQ rfl rfl rfl ⟨rfl, rfl⟩ dX6_slow_19
theorem dX6_brave_0 : decode cX6_brave 0 = .ok (.iload_n 1, 1) := by decide +kernel
theorem dX6_brave_1 : decode cX6_brave 1 = .ok (.iconst (-1), 1) := by decide +kernel
theorem dX6_brave_2 : decode cX6_brave 2 = .ok (.if_icmp .ne 51, 3) := by decide +kernel
theorem dX6_brave_5 : decode cX6_brave 5 = .ok (.iconst 0, 1) := by decide +kernel
theorem dX6_brave_6 : decode cX6_brave 6 = .ok (.istore_n 2, 1) := by decide +kernel
theorem dX6_brave_7 : decode cX6_brave 7 = .ok (.iconst 0, 1) := by decide +kernel
theorem dX6_brave_8 : decode cX6_brave 8 = .ok (.istore_n 3, 1) := by decide +kernel
theorem dX6_brave_9 : decode cX6_brave 9 = .ok (.iload_n 3, 1) := by decide +kernel
theorem dX6_brave_10 : decode cX6_brave 10 = .ok (.aload_n 0, 1) := by decide +kernel
theorem dX6_brave_11 : decode cX6_brave 11 = .ok (.getfield 10, 3) := by decide +kernel
theorem dX6_brave_14 : decode cX6_brave 14 = .ok (.getfield 157, 3) := by decide +kernel
theorem dX6_brave_17 : decode cX6_brave 17 = .ok (.if_icmp .ge 34, 3) := by decide +kernel
theorem dX6_brave_20 : decode cX6_brave 20 = .ok (.aload_n 0, 1) := by decide +kernel
theorem dX6_brave_21 : decode cX6_brave 21 = .ok (.getfield 10, 3) := by decide +kernel
theorem dX6_brave_24 : decode cX6_brave 24 = .ok (.iload_n 3, 1) := by decide +kernel
theorem dX6_brave_25 : decode cX6_brave 25 = .ok (.aload_n 0, 1) := by decide +kernel
theorem dX6_brave_26 : decode cX6_brave 26 = .ok (.getfield 10, 3) := by decide +kernel
theorem dX6_brave_29 : decode cX6_brave 29 = .ok (.iload_n 3, 1) := by decide +kernel
theorem dX6_brave_30 : decode cX6_brave 30 = .ok (.invokevirtual 147, 3) := by decide +kernel
theorem dX6_brave_33 : decode cX6_brave 33 = .ok (.invokevirtual 213, 3) := by decide +kernel
theorem dX6_brave_36 : decode cX6_brave 36 = .ok (.ifCond .ne 9, 3) := by decide +kernel
theorem dX6_brave_39 : decode cX6_brave 39 = .ok (.iload_n 2, 1) := by decide +kernel
theorem dX6_brave_40 : decode cX6_brave 40 = .ok (.iconst 1, 1) := by decide +kernel
theorem dX6_brave_41 : decode cX6_brave 41 = .ok (.iload_n 3, 1) := by decide +kernel
theorem dX6_brave_42 : decode cX6_brave 42 = .ok (.ishl, 1) := by decide +kernel
theorem dX6_brave_43 : decode cX6_brave 43 = .ok (.ior, 1) := by decide +kernel
theorem dX6_brave_44 : decode cX6_brave 44 = .ok (.istore_n 2, 1) := by decide +kernel
theorem dX6_brave_45 : decode cX6_brave 45 = .ok (.iinc 3 1, 3) := by decide +kernel
theorem dX6_brave_48 : decode cX6_brave 48 = .ok (.goto (-39), 3) := by decide +kernel
theorem dX6_brave_51 : decode cX6_brave 51 = .ok (.iload_n 2, 1) := by decide +kernel
theorem dX6_brave_52 : decode cX6_brave 52 = .ok (.ireturn, 1) := by decide +kernel
theorem dX6_brave_53 : decode cX6_brave 53 = .ok (.aload_n 0, 1) := by decide +kernel
theorem dX6_brave_54 : decode cX6_brave 54 = .ok (.getfield 10, 3) := by decide +kernel
theorem dX6_brave_57 : decode cX6_brave 57 = .ok (.iload_n 1, 1) := by decide +kernel
theorem dX6_brave_58 : decode cX6_brave 58 = .ok (.invokevirtual 121, 3) := by decide +kernel
theorem dX6_brave_61 : decode cX6_brave 61 = .ok (.ifCond .ne 9, 3) := by decide +kernel
theorem dX6_brave_64 : decode cX6_brave 64 = .ok (.aload_n 0, 1) := by decide +kernel
theorem dX6_brave_65 : decode cX6_brave 65 = .ok (.iconst 1, 1) := by decide +kernel
theorem dX6_brave_66 : decode cX6_brave 66 = .ok (.invokevirtual 70, 3) := by decide +kernel
theorem dX6_brave_69 : decode cX6_brave 69 = .ok (.ireturn, 1) := by decide +kernel
theorem dX6_brave_70 : decode cX6_brave 70 = .ok (.aload_n 0, 1) := by decide +kernel
theorem dX6_brave_71 : decode cX6_brave 71 = .ok (.getfield 10, 3) := by decide +kernel
theorem dX6_brave_74 : decode cX6_brave 74 = .ok (.iload_n 1, 1) := by decide +kernel
theorem dX6_brave_75 : decode cX6_brave 75 = .ok (.aload_n 0, 1) := by decide +kernel
theorem dX6_brave_76 : decode cX6_brave 76 = .ok (.getfield 10, 3) := by decide +kernel
theorem dX6_brave_79 : decode cX6_brave 79 = .ok (.getfield 172, 3) := by decide +kernel
theorem dX6_brave_82 : decode cX6_brave 82 = .ok (.iload_n 1, 1) := by decide +kernel
theorem dX6_brave_83 : decode cX6_brave 83 = .ok (.iaload, 1) := by decide +kernel
theorem dX6_brave_84 : decode cX6_brave 84 = .ok (.invokevirtual 213, 3) := by decide +kernel
theorem dX6_brave_87 : decode cX6_brave 87 = .ok (.ireturn, 1) := by decide +kernel
abbrev k_X6_brave : zK := (cX6_brave, 4, RX6, (some .int), ({ frames := 5, cells := 0, slots := 0, locals := 113 } : Room))
theorem zc_X6_brave : zcal yX6_brave k_X6_brave.1 k_X6_brave.2.1 k_X6_brave.2.2.2.1 1 := ⟨tw_code_yX6_brave, tw_i_TollForHesitators, ⟨by decide +kernel, by decide +kernel⟩, by decide +kernel⟩
theorem zv_X6_brave : Cond.instanceMethod yX6_brave ∈ TS ∧ Cond.selects RX6 yX6_brave yX6_brave ∈ TS := ⟨tw_inst_yX6_brave, tw_s_yX6_brave⟩
def v_X6_brave_r (P : pT) (R : rT) : Nat → nT → Int32 → Int32 → Int32 × nT
  | 0, N, _, _ => (0, N)
  | n + 1, N, v2, v3 => if (R.1 4) ≤ v3 then (v2, N) else kk (if (v_X4_fogsOf P R v3 (v_X4_nerveOf R v3)) = 0 then v2 ||| (1 <<< (v3 &&& 31)) else v2) (fun m16 : Int32 => v_X6_brave_r P R n N m16 (v3 + 1))
def p_X6_brave_r (P : pT) (R : rT) : Nat → nT → Int32 → Int32 → Prop
  | 0, _, _, _ => False
  | n + 1, N, v2, v3 => if (R.1 4) ≤ v3 then True else p_X4_nerveOf R v3 ∧ ((p_X4_fogsOf P R v3 (v_X4_nerveOf R v3)) ∧ (kk (if (v_X4_fogsOf P R v3 (v_X4_nerveOf R v3)) = 0 then v2 ||| (1 <<< (v3 &&& 31)) else v2) (fun m16 : Int32 => p_X6_brave_r P R n N m16 (v3 + 1))))
def v_X6_brave (P : pT) (N : nT) (R : rT) (x1 : Int32) : Int32 × nT := if x1 = (-1) then v_X6_brave_r P R 200 N 0 0 else if (v_X4_has R x1) = 0 then kk (v_X6_refuse N 1) (fun q7 : Int32 × nT => (q7.1, q7.2)) else ((v_X4_fogsOf P R x1 ((R.2.1 1) x1.toNatClampNeg)), N)
def p_X6_brave (P : pT) (N : nT) (R : rT) (x1 : Int32) : Prop := if x1 = (-1) then p_X6_brave_r P R 200 N 0 0 else p_X4_has R x1 ∧ (if (v_X4_has R x1) = 0 then p_X6_refuse N 1 else vp_in x1 7 ∧ (p_X4_fogsOf P R x1 ((R.2.1 1) x1.toNatClampNeg)))
set_option maxHeartbeats 800000 in
theorem w_X6_brave {G : zG} {P : pT} {Γ : zT} {A : Nat → Prop} {res : Int32 × nT} (a : Nat → Nat) (R : rT) (hw : wk (gX G P) A Γ.2.2.1.1.heap) (hQ : zQ Γ (Qwi G (fun r w => r = (res).1 ∧ w = maW G a ((res).2) ++ rdW G (sh a 10) R) A) 0 0 A) : ∀ n : Nat, (∀ (N : nT) (v2 : Int32) (v3 : Int32), p_X6_brave_r P R n N v2 v3 → v_X6_brave_r P R n N v2 v3 = res → Z k_X6_brave G Γ (wr G A Γ.2.2.1.1.heap (maW G a N ++ rdW G (sh a 10) R)) 0 0 [(0, .ref (a 0)), (2, .int v2), (3, .int v3)] 9 []) := by
  intro n
  induction n with
  | zero => exact fun N v2 v3 hp => absurd hp (by rw [p_X6_brave_r]; exact not_false)
  | succ n ih =>
    intro N v2 v3 hp hv
    rw [p_X6_brave_r] at hp
    rw [v_X6_brave_r] at hv
    refine z_iload_n dX6_brave_9 rfl ?_
    refine z_aload_n dX6_brave_10 rfl ?_
    refine z_get (v := .ref ((sh a 10) 0)) wr_P 0 rfl rfl uin_X6 0 (Nat.le_of_ble_eq_true rfl) tw_f_RX6_10 rfl rfl dX6_brave_11 ?_
    refine z_get (v := .int (R.1 4)) wr_P 3 rfl rfl uin_X4 4 (Nat.le_of_ble_eq_true rfl) tw_f_RX6_157 rfl rfl dX6_brave_14 ?_
    refine z_icmp_ge (tgt := 51) dX6_brave_17 (by decide) (fun c8 => ?_) (fun c8 => ?_)
    · have hp := ip_t hp c8; have hv := it_t hv c8
      refine z_iload_n dX6_brave_51 rfl ?_
      subst hv; exact z_iret_W hQ rfl rfl rfl ⟨rfl, rfl⟩ dX6_brave_52
    · have hp := ip_f hp c8; have hv := it_f hv c8
      refine z_aload_n dX6_brave_20 rfl ?_
      refine z_get (v := .ref ((sh a 10) 0)) wr_P 0 rfl rfl uin_X6 0 (Nat.le_of_ble_eq_true rfl) tw_f_RX6_10 rfl rfl dX6_brave_21 ?_
      refine z_iload_n dX6_brave_24 rfl ?_
      refine z_aload_n dX6_brave_25 rfl ?_
      refine z_get (v := .ref ((sh a 10) 0)) wr_P 0 rfl rfl uin_X6 0 (Nat.le_of_ble_eq_true rfl) tw_f_RX6_10 rfl rfl dX6_brave_26 ?_
      refine z_iload_n dX6_brave_29 rfl ?_
      obtain ⟨q13, hp⟩ := hp
      refine z_cvi (c_X4_nerveOf G P (sh a 10) R v3 q13) zc_X4_nerveOf zv_X4_nerveOf tw_m_RX6_147 (zrec_of wr_P 3 rfl rfl) (fr_all (sub_P wr_P [3, 4, 5, 6, 7] rfl) (wr_G hw)) (zroom_of rfl) rfl (Nat.le_of_ble_eq_true rfl) dX6_brave_30 ?_
      obtain ⟨q14, hp⟩ := hp
      refine z_cvi (c_X4_fogsOf G P (sh a 10) R v3 (v_X4_nerveOf R v3) q14) zc_X4_fogsOf zv_X4_fogsOf tw_m_RX6_213 (zrec_of wr_P 3 rfl rfl) (fr_all (sub_P wr_P [3, 4, 5, 6, 7] rfl) (wr_G hw)) (zroom_of rfl) rfl (Nat.le_of_ble_eq_true rfl) dX6_brave_33 ?_
      have J17 : ∀ m16 : Int32, m16 = (if (v_X4_fogsOf P R v3 (v_X4_nerveOf R v3)) = 0 then v2 ||| (1 <<< (v3 &&& 31)) else v2) → Z k_X6_brave G Γ (wr G A Γ.2.2.1.1.heap (maW G a N ++ rdW G (sh a 10) R)) 0 0 [(2, .int m16), (0, .ref (a 0)), (3, .int v3)] 45 [] := by
        intro m16 em16
        have hp := kk_pq hp em16
        have hv := kk_vq hv em16
        clear em16
        refine z_iinc (v := v3 + 1) (lv' := [(3, .int (v3 + 1)), (2, .int m16), (0, .ref (a 0))]) dX6_brave_45 2 rfl rfl (Nat.le_of_ble_eq_true rfl) rfl ?_
        refine z_goto (tgt := 9) dX6_brave_48 (by decide) ?_
        exact z_lv rfl ((ih) N m16 (v3 + 1) hp hv)
      refine z_if_ne (tgt := 45) dX6_brave_36 (by decide) (fun c15 => ?_) (fun c15 => ?_)
      · skip
        exact z_lv rfl (J17 _ (if_neg c15).symm)
      · skip
        refine z_iload_n dX6_brave_39 rfl ?_
        refine z_iconst (v := 1) dX6_brave_40 rfl ?_
        refine z_iload_n dX6_brave_41 rfl ?_
        refine z_ishl dX6_brave_42 ?_
        refine z_ior dX6_brave_43 ?_
        refine z_istore_n (lv' := [(2, .int (v2 ||| (1 <<< (v3 &&& 31)))), (0, .ref (a 0)), (3, .int v3)]) dX6_brave_44 (Nat.le_of_ble_eq_true rfl) rfl ?_
        exact z_lv rfl (J17 _ (if_pos c15).symm)
set_option maxHeartbeats 800000 in
theorem c_X6_brave {l : Launch} (G : zG) (P : pT) (a : Nat → Nat) (sz : Nat) (N : nT) (R : rT) (x1 : Int32) (hp : p_X6_brave P N R x1) : Met l yX6_brave (.code yX6_brave k_X6_brave.1 k_X6_brave.2.1 k_X6_brave.2.2.2.1 :: TS) k_X6_brave.2.2.2.2 (Pz G [.ref (a 0), .int x1] (Fw G (gX G P) (maW G a N ++ rdW G (sh a 10) R) sz)) (Qwi G (fun r w => r = (v_X6_brave P N R x1).1 ∧ w = maW G a ((v_X6_brave P N R x1).2) ++ rdW G (sh a 10) R) (va_A (maW G a N ++ rdW G (sh a 10) R) sz)) 0 0 (va_A (maW G a N ++ rdW G (sh a 10) R) sz) := by
  refine zmet (K := k_X6_brave) (by decide +kernel) rfl rfl (fun Γ hl0 hQ hN hF => ?_)
  refine z_start (gX_ok G P) hF (fun hw => ?_)
  generalize va_A (maW G a N ++ rdW G (sh a 10) R) sz = A at hQ hw ⊢
  obtain ⟨res, hv⟩ : ∃ res, v_X6_brave P N R x1 = res := ⟨_, rfl⟩
  rw [hv] at hQ
  unfold v_X6_brave at hv
  unfold p_X6_brave at hp
  show Z k_X6_brave G Γ _ 0 0 [(0, .ref (a 0)), (1, .int x1)] 0 []
  refine z_iload_n dX6_brave_0 rfl ?_
  refine z_iconst (v := (-1)) dX6_brave_1 rfl ?_
  refine z_icmp_ne (tgt := 53) dX6_brave_2 (by decide) (fun c1 => ?_) (fun c1 => ?_)
  · have hp := ip_f hp c1; have hv := it_f hv c1
    refine z_aload_n dX6_brave_53 rfl ?_
    refine z_get (v := .ref ((sh a 10) 0)) wr_P 0 rfl rfl uin_X6 0 (Nat.le_of_ble_eq_true rfl) tw_f_RX6_10 rfl rfl dX6_brave_54 ?_
    refine z_iload_n dX6_brave_57 rfl ?_
    obtain ⟨q2, hp⟩ := hp
    refine z_cvi (c_X4_has G P (sh a 10) R x1 q2) zc_X4_has zv_X4_has tw_m_RX6_121 (zrec_of wr_P 3 rfl rfl) (fr_all (sub_P wr_P [3, 4, 5, 6, 7] rfl) (wr_G hw)) (zroom_of rfl) rfl (Nat.le_of_ble_eq_true rfl) dX6_brave_58 ?_
    refine z_if_ne (tgt := 70) dX6_brave_61 (by decide) (fun c3 => ?_) (fun c3 => ?_)
    · have hp := ip_f hp c3; have hv := it_f hv c3
      refine z_aload_n dX6_brave_70 rfl ?_
      refine z_get (v := .ref ((sh a 10) 0)) wr_P 0 rfl rfl uin_X6 0 (Nat.le_of_ble_eq_true rfl) tw_f_RX6_10 rfl rfl dX6_brave_71 ?_
      refine z_iload_n dX6_brave_74 rfl ?_
      refine z_aload_n dX6_brave_75 rfl ?_
      refine z_get (v := .ref ((sh a 10) 0)) wr_P 0 rfl rfl uin_X6 0 (Nat.le_of_ble_eq_true rfl) tw_f_RX6_10 rfl rfl dX6_brave_76 ?_
      refine z_get (v := .ref ((sh a 10) 2)) wr_P 3 rfl rfl uin_X4 1 (Nat.le_of_ble_eq_true rfl) tw_f_RX6_172 rfl rfl dX6_brave_79 ?_
      refine z_iload_n dX6_brave_82 rfl ?_
      obtain ⟨q4, hp⟩ := hp
      refine z_ialdx (x := (R.2.1 1) x1.toNatClampNeg) wr_P 5 rfl q4 rfl dX6_brave_83 ?_
      have q5 := hp
      refine z_cvi (c_X4_fogsOf G P (sh a 10) R x1 ((R.2.1 1) x1.toNatClampNeg) q5) zc_X4_fogsOf zv_X4_fogsOf tw_m_RX6_213 (zrec_of wr_P 3 rfl rfl) (fr_all (sub_P wr_P [3, 4, 5, 6, 7] rfl) (wr_G hw)) (zroom_of rfl) rfl (Nat.le_of_ble_eq_true rfl) dX6_brave_84 ?_
      subst hv; exact z_iret_W hQ rfl rfl rfl ⟨rfl, rfl⟩ dX6_brave_87
    · have hp := ip_t hp c3; have hv := it_t hv c3
      refine z_aload_n dX6_brave_64 rfl ?_
      refine z_iconst (v := 1) dX6_brave_65 rfl ?_
      have q6 := hp
      refine z_cwviD (ws' := maW G a ((v_X6_refuse N 1).2) ++ rdW G (sh a 10) R) hw (fun sz => c_X6_refuse G P a sz N 1 q6) [0, 1, 2] [3, 4, 5, 6, 7] [5, 6, 7, 0, 1, 2, 3, 4] 8 rfl rfl rfl rfl zc_X6_refuse zv_X6_refuse tw_m_RX6_70 (zrec_of wr_P 0 rfl rfl) (zroom_of rfl) rfl (Nat.le_of_ble_eq_true rfl) dX6_brave_66 ?_
      suffices z18 : ∀ q7 : Int32 × nT, q7 = (v_X6_refuse N 1) → Z k_X6_brave G Γ (wr G A Γ.2.2.1.1.heap (maW G a q7.2 ++ rdW G (sh a 10) R)) 0 0 [(0, .ref (a 0)), (1, .int x1)] 69 [.int q7.1] from z18 _ rfl
      intro q7 hq7
      have hv := kk_vq hv hq7
      clear hq7
      subst hv; exact z_iret_W hQ rfl rfl rfl ⟨rfl, rfl⟩ dX6_brave_69
  · have hp := ip_t hp c1; have hv := it_t hv c1
    refine z_iconst (v := 0) dX6_brave_5 rfl ?_
    refine z_istore_n (lv' := [(2, .int 0), (0, .ref (a 0)), (1, .int x1)]) dX6_brave_6 (Nat.le_of_ble_eq_true rfl) rfl ?_
    refine z_iconst (v := 0) dX6_brave_7 rfl ?_
    refine z_istore_n (lv' := [(3, .int 0), (2, .int 0), (0, .ref (a 0)), (1, .int x1)]) dX6_brave_8 (Nat.le_of_ble_eq_true rfl) rfl ?_
    exact z_lv rfl ((w_X6_brave a R hw hQ 200) N 0 0 hp hv)
