theorem tw_f_RX0_15 : Cond.fieldLink RX0 15 RX0 "kind" "I" ∈ TS := ts_mem 425 (by decide +kernel) rfl
theorem tw_f_RX0_21 : Cond.fieldLink RX0 21 RX0 "pace" "I" ∈ TS := ts_mem 431 (by decide +kernel) rfl
theorem tw_code_yX0_looksOn : Cond.code yX0_looksOn cX0_looksOn 2 (some .int) ∈ TS := ts_mem 590 (by decide +kernel) rfl
theorem tw_i_TollForHesitators_Comer : Cond.initialized RX0 ∈ TS := ts_mem 77 (by decide +kernel) rfl
theorem tw_inst_yX0_looksOn : Cond.instanceMethod yX0_looksOn ∈ TS := ts_mem 588 (by decide +kernel) rfl
theorem tw_s_yX0_looksOn : Cond.selects RX0 yX0_looksOn yX0_looksOn ∈ TS := ts_mem 589 (by decide +kernel) rfl
theorem tw_f_RX0_18 : Cond.fieldLink RX0 18 RX0 "a" "I" ∈ TS := ts_mem 428 (by decide +kernel) rfl
theorem tw_code_yX0_step : Cond.code yX0_step cX0_step 1 (some .int) ∈ TS := ts_mem 400 (by decide +kernel) rfl
theorem tw_inst_yX0_step : Cond.instanceMethod yX0_step ∈ TS := ts_mem 398 (by decide +kernel) rfl
theorem tw_s_yX0_step : Cond.selects RX0 yX0_step yX0_step ∈ TS := ts_mem 399 (by decide +kernel) rfl
theorem tw_f_RX0_24 : Cond.fieldLink RX0 24 RX0 "load" "I" ∈ TS := ts_mem 433 (by decide +kernel) rfl
theorem tw_code_yX0_burden : Cond.code yX0_burden cX0_burden 2 (some .int) ∈ TS := ts_mem 594 (by decide +kernel) rfl
theorem tw_inst_yX0_burden : Cond.instanceMethod yX0_burden ∈ TS := ts_mem 592 (by decide +kernel) rfl
theorem tw_s_yX0_burden : Cond.selects RX0 yX0_burden yX0_burden ∈ TS := ts_mem 593 (by decide +kernel) rfl
theorem tw_m_RX0_35 : Cond.methodLink RX0 35 yJ9_max_7cf53 ∈ TS := ts_mem 599 (by decide +kernel) rfl
theorem tw_st_yJ9_max_7cf53 : Cond.static yJ9_max_7cf53 ∈ TS := ts_mem 317 (by decide +kernel) rfl
theorem tw_i_java_lang_Math : Cond.initialized RJ9 ∈ TS := ts_mem 75 (by decide +kernel) rfl
theorem tw_code_yJ9_max_7cf53 : Cond.code yJ9_max_7cf53 Lib.Math.max.code 2 (some .int) ∈ TS := ts_mem 318 (by decide +kernel) rfl
theorem tw_code_yX0_courage : Cond.code yX0_courage cX0_courage 4 (some .int) ∈ TS := ts_mem 598 (by decide +kernel) rfl
theorem tw_inst_yX0_courage : Cond.instanceMethod yX0_courage ∈ TS := ts_mem 596 (by decide +kernel) rfl
theorem tw_s_yX0_courage : Cond.selects RX0 yX0_courage yX0_courage ∈ TS := ts_mem 597 (by decide +kernel) rfl
theorem tw_f_RX0_27 : Cond.fieldLink RX0 27 RX0 "ABOVE" "[I" ∈ TS := ts_mem 392 (by decide +kernel) rfl
theorem tw_code_yX0_above : Cond.code yX0_above cX0_above 1 (some .int) ∈ TS := ts_mem 396 (by decide +kernel) rfl
theorem tw_st_yX0_above : Cond.static yX0_above ∈ TS := ts_mem 395 (by decide +kernel) rfl
theorem tw_m_RX0_31 : Cond.methodLink RX0 31 yX0_above ∈ TS := ts_mem 394 (by decide +kernel) rfl
theorem tw_code_yX0_isOf : Cond.code yX0_isOf cX0_isOf 4 (some .boolean) ∈ TS := ts_mem 391 (by decide +kernel) rfl
theorem tw_inst_yX0_isOf : Cond.instanceMethod yX0_isOf ∈ TS := ts_mem 389 (by decide +kernel) rfl
theorem tw_s_yX0_isOf : Cond.selects RX0 yX0_isOf yX0_isOf ∈ TS := ts_mem 390 (by decide +kernel) rfl
theorem tw_f_RX5_15 : Cond.fieldLink RX5 15 RX5 "held" "I" ∈ TS := ts_mem 162 (by decide +kernel) rfl
theorem tw_code_yX5_isRow : Cond.code yX5_isRow cX5_isRow 1 (some .boolean) ∈ TS := ts_mem 334 (by decide +kernel) rfl
theorem tw_i_TollForHesitators_Shelf : Cond.initialized RX5 ∈ TS := ts_mem 70 (by decide +kernel) rfl
theorem tw_inst_yX5_isRow : Cond.instanceMethod yX5_isRow ∈ TS := ts_mem 332 (by decide +kernel) rfl
theorem tw_s_yX5_isRow : Cond.selects RX5 yX5_isRow yX5_isRow ∈ TS := ts_mem 333 (by decide +kernel) rfl
theorem tw_code_yX5_isComer : Cond.code yX5_isComer cX5_isComer 1 (some .boolean) ∈ TS := ts_mem 330 (by decide +kernel) rfl
theorem tw_inst_yX5_isComer : Cond.instanceMethod yX5_isComer ∈ TS := ts_mem 328 (by decide +kernel) rfl
theorem tw_s_yX5_isComer : Cond.selects RX5 yX5_isComer yX5_isComer ∈ TS := ts_mem 329 (by decide +kernel) rfl
theorem tw_f_RX5_19 : Cond.fieldLink RX5 19 RX5 "length" "I" ∈ TS := ts_mem 164 (by decide +kernel) rfl
theorem tw_f_RX5_9 : Cond.fieldLink RX5 9 RX5 "elements" "[J" ∈ TS := ts_mem 159 (by decide +kernel) rfl
theorem tw_code_yX5_hasElement : Cond.code yX5_hasElement cX5_hasElement 2 (some .boolean) ∈ TS := ts_mem 338 (by decide +kernel) rfl
theorem tw_inst_yX5_hasElement : Cond.instanceMethod yX5_hasElement ∈ TS := ts_mem 336 (by decide +kernel) rfl
theorem tw_s_yX5_hasElement : Cond.selects RX5 yX5_hasElement yX5_hasElement ∈ TS := ts_mem 337 (by decide +kernel) rfl
theorem tw_code_yX5_spans : Cond.code yX5_spans cX5_spans 4 (some .boolean) ∈ TS := ts_mem 351 (by decide +kernel) rfl
theorem tw_inst_yX5_spans : Cond.instanceMethod yX5_spans ∈ TS := ts_mem 349 (by decide +kernel) rfl
theorem tw_s_yX5_spans : Cond.selects RX5 yX5_spans yX5_spans ∈ TS := ts_mem 350 (by decide +kernel) rfl
theorem tw_code_yX5_longAt : Cond.code yX5_longAt cX5_longAt 2 (some .long) ∈ TS := ts_mem 362 (by decide +kernel) rfl
theorem tw_inst_yX5_longAt : Cond.instanceMethod yX5_longAt ∈ TS := ts_mem 360 (by decide +kernel) rfl
theorem tw_s_yX5_longAt : Cond.selects RX5 yX5_longAt yX5_longAt ∈ TS := ts_mem 361 (by decide +kernel) rfl
theorem tw_m_RX5_35 : Cond.methodLink RX5 35 yX5_longAt ∈ TS := ts_mem 642 (by decide +kernel) rfl
theorem tw_code_yX5_intAt : Cond.code yX5_intAt cX5_intAt 2 (some .int) ∈ TS := ts_mem 641 (by decide +kernel) rfl
theorem tw_inst_yX5_intAt : Cond.instanceMethod yX5_intAt ∈ TS := ts_mem 639 (by decide +kernel) rfl
theorem tw_s_yX5_intAt : Cond.selects RX5 yX5_intAt yX5_intAt ∈ TS := ts_mem 640 (by decide +kernel) rfl
theorem tw_code_yX5_hold : Cond.code yX5_hold cX5_hold 2 none ∈ TS := ts_mem 378 (by decide +kernel) rfl
theorem tw_inst_yX5_hold : Cond.instanceMethod yX5_hold ∈ TS := ts_mem 376 (by decide +kernel) rfl
theorem tw_s_yX5_hold : Cond.selects RX5 yX5_hold yX5_hold ∈ TS := ts_mem 377 (by decide +kernel) rfl
theorem tw_m_RX5_22 : Cond.methodLink RX5 22 yJ9_min_7cf53 ∈ TS := ts_mem 313 (by decide +kernel) rfl
theorem tw_st_yJ9_min_7cf53 : Cond.static yJ9_min_7cf53 ∈ TS := ts_mem 314 (by decide +kernel) rfl
theorem tw_code_yJ9_min_7cf53 : Cond.code yJ9_min_7cf53 Lib.Math.min.code 2 (some .int) ∈ TS := ts_mem 315 (by decide +kernel) rfl
theorem tw_m_RX5_28 : Cond.methodLink RX5 28 yJ9_max_7cf53 ∈ TS := ts_mem 316 (by decide +kernel) rfl
theorem tw_code_yX5_startRow : Cond.code yX5_startRow cX5_startRow 4 none ∈ TS := ts_mem 312 (by decide +kernel) rfl
theorem tw_inst_yX5_startRow : Cond.instanceMethod yX5_startRow ∈ TS := ts_mem 310 (by decide +kernel) rfl
theorem tw_s_yX5_startRow : Cond.selects RX5 yX5_startRow yX5_startRow ∈ TS := ts_mem 311 (by decide +kernel) rfl
theorem tw_m_RX5_31 : Cond.methodLink RX5 31 yX5_hasElement ∈ TS := ts_mem 343 (by decide +kernel) rfl
theorem tw_code_yX5_put : Cond.code yX5_put cX5_put 4 none ∈ TS := ts_mem 342 (by decide +kernel) rfl
theorem tw_inst_yX5_put : Cond.instanceMethod yX5_put ∈ TS := ts_mem 340 (by decide +kernel) rfl
theorem tw_s_yX5_put : Cond.selects RX5 yX5_put yX5_put ∈ TS := ts_mem 341 (by decide +kernel) rfl
theorem tw_f_RX4_27 : Cond.fieldLink RX4 27 RX4 "count" "I" ∈ TS := ts_mem 107 (by decide +kernel) rfl
theorem tw_f_RX4_11 : Cond.fieldLink RX4 11 RX4 "comers" "[LTollForHesitators$Comer;" ∈ TS := ts_mem 99 (by decide +kernel) rfl
theorem tw_code_yX4_at : Cond.code yX4_at cX4_at 2 (some (.object RX0)) ∈ TS := ts_mem 374 (by decide +kernel) rfl
theorem tw_i_TollForHesitators_Road : Cond.initialized RX4 ∈ TS := ts_mem 69 (by decide +kernel) rfl
theorem tw_inst_yX4_at : Cond.instanceMethod yX4_at ∈ TS := ts_mem 372 (by decide +kernel) rfl
theorem tw_s_yX4_at : Cond.selects RX4 yX4_at yX4_at ∈ TS := ts_mem 373 (by decide +kernel) rfl
theorem tw_m_RX4_49 : Cond.methodLink RX4 49 yX4_at ∈ TS := ts_mem 371 (by decide +kernel) rfl
theorem tw_code_yX4_has : Cond.code yX4_has cX4_has 2 (some .boolean) ∈ TS := ts_mem 370 (by decide +kernel) rfl
theorem tw_inst_yX4_has : Cond.instanceMethod yX4_has ∈ TS := ts_mem 368 (by decide +kernel) rfl
theorem tw_s_yX4_has : Cond.selects RX4 yX4_has yX4_has ∈ TS := ts_mem 369 (by decide +kernel) rfl
theorem tw_code_yX4_isFull : Cond.code yX4_isFull cX4_isFull 1 (some .boolean) ∈ TS := ts_mem 413 (by decide +kernel) rfl
theorem tw_inst_yX4_isFull : Cond.instanceMethod yX4_isFull ∈ TS := ts_mem 411 (by decide +kernel) rfl
theorem tw_s_yX4_isFull : Cond.selects RX4 yX4_isFull yX4_isFull ∈ TS := ts_mem 412 (by decide +kernel) rfl
theorem tw_m_RX4_53 : Cond.methodLink RX4 53 yX4_has ∈ TS := ts_mem 405 (by decide +kernel) rfl
theorem tw_f_RX4_17 : Cond.fieldLink RX4 17 RX4 "nerve" "[I" ∈ TS := ts_mem 100 (by decide +kernel) rfl
theorem tw_code_yX4_nerveOf : Cond.code yX4_nerveOf cX4_nerveOf 2 (some .int) ∈ TS := ts_mem 404 (by decide +kernel) rfl
theorem tw_inst_yX4_nerveOf : Cond.instanceMethod yX4_nerveOf ∈ TS := ts_mem 402 (by decide +kernel) rfl
theorem tw_s_yX4_nerveOf : Cond.selects RX4 yX4_nerveOf yX4_nerveOf ∈ TS := ts_mem 403 (by decide +kernel) rfl
theorem tw_m_RX4_60 : Cond.methodLink RX4 60 yX0_courage ∈ TS := ts_mem 612 (by decide +kernel) rfl
theorem tw_f_RX4_24 : Cond.fieldLink RX4 24 RX4 "doubt" "[I" ∈ TS := ts_mem 104 (by decide +kernel) rfl
theorem tw_m_RX4_64 : Cond.methodLink RX4 64 yX0_burden ∈ TS := ts_mem 613 (by decide +kernel) rfl
theorem tw_m_RX4_68 : Cond.methodLink RX4 68 yX0_step ∈ TS := ts_mem 614 (by decide +kernel) rfl
theorem tw_f_RX4_31 : Cond.fieldLink RX4 31 RX4 "way" "I" ∈ TS := ts_mem 111 (by decide +kernel) rfl
theorem tw_m_RX4_72 : Cond.methodLink RX4 72 yX0_looksOn ∈ TS := ts_mem 615 (by decide +kernel) rfl
theorem tw_code_yX4_slowAt : Cond.code yX4_slowAt cX4_slowAt 11 (some .int) ∈ TS := ts_mem 611 (by decide +kernel) rfl
theorem tw_inst_yX4_slowAt : Cond.instanceMethod yX4_slowAt ∈ TS := ts_mem 609 (by decide +kernel) rfl
theorem tw_s_yX4_slowAt : Cond.selects RX4 yX4_slowAt yX4_slowAt ∈ TS := ts_mem 610 (by decide +kernel) rfl
theorem tw_m_RX4_75 : Cond.methodLink RX4 75 yX4_slowAt ∈ TS := ts_mem 608 (by decide +kernel) rfl
theorem tw_code_yX4_slowAlone : Cond.code yX4_slowAlone cX4_slowAlone 4 (some .int) ∈ TS := ts_mem 607 (by decide +kernel) rfl
theorem tw_inst_yX4_slowAlone : Cond.instanceMethod yX4_slowAlone ∈ TS := ts_mem 605 (by decide +kernel) rfl
theorem tw_s_yX4_slowAlone : Cond.selects RX4 yX4_slowAlone yX4_slowAlone ∈ TS := ts_mem 606 (by decide +kernel) rfl
theorem tw_m_RX4_79 : Cond.methodLink RX4 79 yX4_slowAlone ∈ TS := ts_mem 624 (by decide +kernel) rfl
theorem tw_code_yX4_fogsOf : Cond.code yX4_fogsOf cX4_fogsOf 5 (some .int) ∈ TS := ts_mem 623 (by decide +kernel) rfl
theorem tw_inst_yX4_fogsOf : Cond.instanceMethod yX4_fogsOf ∈ TS := ts_mem 621 (by decide +kernel) rfl
theorem tw_s_yX4_fogsOf : Cond.selects RX4 yX4_fogsOf yX4_fogsOf ∈ TS := ts_mem 622 (by decide +kernel) rfl
theorem tw_f_RX4_34 : Cond.fieldLink RX4 34 RX4 "fog" "I" ∈ TS := ts_mem 114 (by decide +kernel) rfl
theorem tw_f_RX4_21 : Cond.fieldLink RX4 21 RX4 "purse" "[I" ∈ TS := ts_mem 102 (by decide +kernel) rfl
theorem tw_f_RX4_37 : Cond.fieldLink RX4 37 RX4 "toll" "I" ∈ TS := ts_mem 117 (by decide +kernel) rfl
theorem tw_code_yX4_comesTo : Cond.code yX4_comesTo cX4_comesTo 5 (some .int) ∈ TS := ts_mem 675 (by decide +kernel) rfl
theorem tw_inst_yX4_comesTo : Cond.instanceMethod yX4_comesTo ∈ TS := ts_mem 673 (by decide +kernel) rfl
theorem tw_s_yX4_comesTo : Cond.selects RX4 yX4_comesTo yX4_comesTo ∈ TS := ts_mem 674 (by decide +kernel) rfl
theorem tw_code_yX4_weightOf : Cond.code yX4_weightOf cX4_weightOf 2 (some .int) ∈ TS := ts_mem 703 (by decide +kernel) rfl
theorem tw_inst_yX4_weightOf : Cond.instanceMethod yX4_weightOf ∈ TS := ts_mem 701 (by decide +kernel) rfl
theorem tw_s_yX4_weightOf : Cond.selects RX4 yX4_weightOf yX4_weightOf ∈ TS := ts_mem 702 (by decide +kernel) rfl
theorem dX0_looksOn_0 : decode cX0_looksOn 0 = .ok (.aload_n 0, 1) := by decide +kernel
theorem dX0_looksOn_1 : decode cX0_looksOn 1 = .ok (.getfield 15, 3) := by decide +kernel
theorem dX0_looksOn_4 : decode cX0_looksOn 4 = .ok (.bipush 6, 2) := by decide +kernel
theorem dX0_looksOn_6 : decode cX0_looksOn 6 = .ok (.if_icmp .eq 11, 3) := by decide +kernel
theorem dX0_looksOn_9 : decode cX0_looksOn 9 = .ok (.aload_n 0, 1) := by decide +kernel
theorem dX0_looksOn_10 : decode cX0_looksOn 10 = .ok (.getfield 21, 3) := by decide +kernel
theorem dX0_looksOn_13 : decode cX0_looksOn 13 = .ok (.iconst 1, 1) := by decide +kernel
theorem dX0_looksOn_14 : decode cX0_looksOn 14 = .ok (.if_icmp .ge 7, 3) := by decide +kernel
theorem dX0_looksOn_17 : decode cX0_looksOn 17 = .ok (.iconst 1, 1) := by decide +kernel
theorem dX0_looksOn_18 : decode cX0_looksOn 18 = .ok (.goto 16, 3) := by decide +kernel
theorem dX0_looksOn_21 : decode cX0_looksOn 21 = .ok (.iload_n 1, 1) := by decide +kernel
theorem dX0_looksOn_22 : decode cX0_looksOn 22 = .ok (.aload_n 0, 1) := by decide +kernel
theorem dX0_looksOn_23 : decode cX0_looksOn 23 = .ok (.getfield 21, 3) := by decide +kernel
theorem dX0_looksOn_26 : decode cX0_looksOn 26 = .ok (.iadd, 1) := by decide +kernel
theorem dX0_looksOn_27 : decode cX0_looksOn 27 = .ok (.iconst 1, 1) := by decide +kernel
theorem dX0_looksOn_28 : decode cX0_looksOn 28 = .ok (.isub, 1) := by decide +kernel
theorem dX0_looksOn_29 : decode cX0_looksOn 29 = .ok (.aload_n 0, 1) := by decide +kernel
theorem dX0_looksOn_30 : decode cX0_looksOn 30 = .ok (.getfield 21, 3) := by decide +kernel
theorem dX0_looksOn_33 : decode cX0_looksOn 33 = .ok (.idiv, 1) := by decide +kernel
theorem dX0_looksOn_34 : decode cX0_looksOn 34 = .ok (.ireturn, 1) := by decide +kernel
abbrev k_X0_looksOn : zK := (cX0_looksOn, 2, RX0, (some .int), ({ frames := 0, cells := 0, slots := 0, locals := 0 } : Room))
theorem zc_X0_looksOn : zcal yX0_looksOn k_X0_looksOn.1 k_X0_looksOn.2.1 k_X0_looksOn.2.2.2.1 1 := ⟨tw_code_yX0_looksOn, tw_i_TollForHesitators_Comer, ⟨by decide +kernel, by decide +kernel⟩, by decide +kernel⟩
theorem zv_X0_looksOn : Cond.instanceMethod yX0_looksOn ∈ TS ∧ Cond.selects RX0 yX0_looksOn yX0_looksOn ∈ TS := ⟨tw_inst_yX0_looksOn, tw_s_yX0_looksOn⟩
def v_X0_looksOn (o : (Nat → Int32)) (x1 : Int32) : Int32 := (if (o 1) = 6 then 1 else (if 1 ≤ (o 3) then ((x1 + (o 3)) - 1) / (o 3) else 1))
def p_X0_looksOn (o : (Nat → Int32)) (x1 : Int32) : Prop := if (o 1) = 6 then True else if 1 ≤ (o 3) then ¬ (o 3) = 0 else True
set_option maxHeartbeats 4000000 in
theorem c_X0_looksOn {l : Launch} (G : zG) (P : pT) (a : Nat) (o : (Nat → Int32)) (x1 : Int32) (hp : p_X0_looksOn o x1) : Met l yX0_looksOn (.code yX0_looksOn k_X0_looksOn.1 k_X0_looksOn.2.1 k_X0_looksOn.2.2.2.1 :: TS) k_X0_looksOn.2.2.2.2 (Pz G [.ref (a), .int x1] (Fr G P (cmW a o))) (vp_Si (fun r => r = v_X0_looksOn o x1)) 0 0 (fun _ => False) := by
  refine zmet (K := k_X0_looksOn) (by decide +kernel) rfl rfl (fun Γ hl0 hQ hN hF => ?_)
  have hI := rd_P (G := G) hF.1
  have hG := rd_F hF.2
  obtain ⟨res, hv⟩ : ∃ res, v_X0_looksOn o x1 = res := ⟨_, rfl⟩
  rw [hv] at hQ
  unfold v_X0_looksOn at hv
  unfold p_X0_looksOn at hp
  show Z k_X0_looksOn G Γ _ 0 0 [(0, .ref a), (1, .int x1)] 0 []
  refine z_aload_n dX0_looksOn_0 rfl ?_
  refine z_get (v := .int (o 1)) hI 0 rfl rfl uin_X0 1 (Nat.le_of_ble_eq_true rfl) tw_f_RX0_15 rfl rfl dX0_looksOn_1 ?_
  refine z_bipush (v := 6) dX0_looksOn_4 rfl ?_
  have hpm := hp
  have J6 : ∀ m5 : Int32, m5 = (if (o 1) = 6 then 1 else (if 1 ≤ (o 3) then ((x1 + (o 3)) - 1) / (o 3) else 1)) → Z k_X0_looksOn G Γ (rd Γ.2.2.1.1.heap) 0 0 [(0, .ref a), (1, .int x1)] 34 [.int m5] := by
    intro m5 em5
    rewrite [em5]; clear em5
    exact z_iret_S hQ rfl hv dX0_looksOn_34
  refine z_icmp_eq (tgt := 17) dX0_looksOn_6 (by decide) (fun c1 => ?_) (fun c1 => ?_)
  · have hp := ip_t hpm c1
    refine z_iconst (v := 1) dX0_looksOn_17 rfl ?_
    refine z_goto (tgt := 34) dX0_looksOn_18 (by decide) ?_
    exact z_lv rfl (J6 _ (if_pos c1).symm)
  · have hp := ip_f hpm c1
    refine z_aload_n dX0_looksOn_9 rfl ?_
    refine z_get (v := .int (o 3)) hI 0 rfl rfl uin_X0 3 (Nat.le_of_ble_eq_true rfl) tw_f_RX0_21 rfl rfl dX0_looksOn_10 ?_
    refine z_iconst (v := 1) dX0_looksOn_13 rfl ?_
    have hpm := hp
    have J7 : ∀ m4 : Int32, m4 = (if 1 ≤ (o 3) then ((x1 + (o 3)) - 1) / (o 3) else 1) → Z k_X0_looksOn G Γ (rd Γ.2.2.1.1.heap) 0 0 [(0, .ref a), (1, .int x1)] 34 [.int m4] := by
      intro m4 em4
      rewrite [em4]; clear em4
      exact z_lv rfl (J6 _ (if_neg c1).symm)
    refine z_icmp_ge (tgt := 21) dX0_looksOn_14 (by decide) (fun c2 => ?_) (fun c2 => ?_)
    · have hp := ip_t hpm c2
      refine z_iload_n dX0_looksOn_21 rfl ?_
      refine z_aload_n dX0_looksOn_22 rfl ?_
      refine z_get (v := .int (o 3)) hI 0 rfl rfl uin_X0 3 (Nat.le_of_ble_eq_true rfl) tw_f_RX0_21 rfl rfl dX0_looksOn_23 ?_
      refine z_iadd dX0_looksOn_26 ?_
      refine z_iconst (v := 1) dX0_looksOn_27 rfl ?_
      refine z_isub dX0_looksOn_28 ?_
      refine z_aload_n dX0_looksOn_29 rfl ?_
      refine z_get (v := .int (o 3)) hI 0 rfl rfl uin_X0 3 (Nat.le_of_ble_eq_true rfl) tw_f_RX0_21 rfl rfl dX0_looksOn_30 ?_
      have q3 := hp
      refine z_idiv dX0_looksOn_33 q3 ?_
      exact z_lv rfl (J7 _ (if_pos c2).symm)
    · have hp := ip_f hpm c2
      refine z_iconst (v := 1) dX0_looksOn_17 rfl ?_
      refine z_goto (tgt := 34) dX0_looksOn_18 (by decide) ?_
      exact z_lv rfl (J7 _ (if_neg c2).symm)
theorem dX0_step_0 : decode cX0_step 0 = .ok (.aload_n 0, 1) := by decide +kernel
theorem dX0_step_1 : decode cX0_step 1 = .ok (.getfield 15, 3) := by decide +kernel
theorem dX0_step_4 : decode cX0_step 4 = .ok (.tableswitch 56 1 6 #[40, 56, 56, 47, 49, 42], 40) := by decide +kernel
theorem dX0_step_44 : decode cX0_step 44 = .ok (.iconst 0, 1) := by decide +kernel
theorem dX0_step_45 : decode cX0_step 45 = .ok (.ireturn, 1) := by decide +kernel
theorem dX0_step_46 : decode cX0_step 46 = .ok (.aload_n 0, 1) := by decide +kernel
theorem dX0_step_47 : decode cX0_step 47 = .ok (.getfield 18, 3) := by decide +kernel
theorem dX0_step_50 : decode cX0_step 50 = .ok (.ireturn, 1) := by decide +kernel
theorem dX0_step_51 : decode cX0_step 51 = .ok (.iconst 2, 1) := by decide +kernel
theorem dX0_step_52 : decode cX0_step 52 = .ok (.ireturn, 1) := by decide +kernel
theorem dX0_step_53 : decode cX0_step 53 = .ok (.iconst 2, 1) := by decide +kernel
theorem dX0_step_54 : decode cX0_step 54 = .ok (.aload_n 0, 1) := by decide +kernel
theorem dX0_step_55 : decode cX0_step 55 = .ok (.getfield 18, 3) := by decide +kernel
theorem dX0_step_58 : decode cX0_step 58 = .ok (.iadd, 1) := by decide +kernel
theorem dX0_step_59 : decode cX0_step 59 = .ok (.ireturn, 1) := by decide +kernel
theorem dX0_step_60 : decode cX0_step 60 = .ok (.iconst 1, 1) := by decide +kernel
theorem dX0_step_61 : decode cX0_step 61 = .ok (.ireturn, 1) := by decide +kernel
abbrev k_X0_step : zK := (cX0_step, 1, RX0, (some .int), ({ frames := 0, cells := 0, slots := 0, locals := 0 } : Room))
theorem zc_X0_step : zcal yX0_step k_X0_step.1 k_X0_step.2.1 k_X0_step.2.2.2.1 0 := ⟨tw_code_yX0_step, tw_i_TollForHesitators_Comer, ⟨by decide +kernel, by decide +kernel⟩, by decide +kernel⟩
theorem zv_X0_step : Cond.instanceMethod yX0_step ∈ TS ∧ Cond.selects RX0 yX0_step yX0_step ∈ TS := ⟨tw_inst_yX0_step, tw_s_yX0_step⟩
def v_X0_step (o : (Nat → Int32)) : Int32 := if (o 1) = 1 then 0 else if (o 1) = 4 then 2 else if (o 1) = 5 then 2 + (o 2) else if (o 1) = 6 then o 2 else if (o 1) = 2 then 1 else if (o 1) = 3 then 1 else 1
set_option maxHeartbeats 4000000 in
theorem c_X0_step {l : Launch} (G : zG) (P : pT) (a : Nat) (o : (Nat → Int32)) : Met l yX0_step (.code yX0_step k_X0_step.1 k_X0_step.2.1 k_X0_step.2.2.2.1 :: TS) k_X0_step.2.2.2.2 (Pz G [.ref (a)] (Fr G P (cmW a o))) (vp_Si (fun r => r = v_X0_step o)) 0 0 (fun _ => False) := by
  refine zmet (K := k_X0_step) (by decide +kernel) rfl rfl (fun Γ hl0 hQ hN hF => ?_)
  have hI := rd_P (G := G) hF.1
  have hG := rd_F hF.2
  obtain ⟨res, hv⟩ : ∃ res, v_X0_step o = res := ⟨_, rfl⟩
  rw [hv] at hQ
  unfold v_X0_step at hv
  show Z k_X0_step G Γ _ 0 0 [(0, .ref a)] 0 []
  refine z_aload_n dX0_step_0 rfl ?_
  refine z_get (v := .int (o 1)) hI 0 rfl rfl uin_X0 1 (Nat.le_of_ble_eq_true rfl) tw_f_RX0_15 rfl rfl dX0_step_1 ?_
  by_cases c1 : (o 1) = 1
  · have hv := it_t hv c1
    refine z_tableIn (tgt := 44) dX0_step_4 1 c1 (by decide) (by decide) rfl (by decide) ?_
    refine z_iconst (v := 0) dX0_step_44 rfl ?_
    exact z_iret_S hQ rfl hv dX0_step_45
  have hv := it_f hv c1
  by_cases c2 : (o 1) = 4
  · have hv := it_t hv c2
    refine z_tableIn (tgt := 51) dX0_step_4 4 c2 (by decide) (by decide) rfl (by decide) ?_
    refine z_iconst (v := 2) dX0_step_51 rfl ?_
    exact z_iret_S hQ rfl hv dX0_step_52
  have hv := it_f hv c2
  by_cases c3 : (o 1) = 5
  · have hv := it_t hv c3
    refine z_tableIn (tgt := 53) dX0_step_4 5 c3 (by decide) (by decide) rfl (by decide) ?_
    refine z_iconst (v := 2) dX0_step_53 rfl ?_
    refine z_aload_n dX0_step_54 rfl ?_
    refine z_get (v := .int (o 2)) hI 0 rfl rfl uin_X0 2 (Nat.le_of_ble_eq_true rfl) tw_f_RX0_18 rfl rfl dX0_step_55 ?_
    refine z_iadd dX0_step_58 ?_
    exact z_iret_S hQ rfl hv dX0_step_59
  have hv := it_f hv c3
  by_cases c4 : (o 1) = 6
  · have hv := it_t hv c4
    refine z_tableIn (tgt := 46) dX0_step_4 6 c4 (by decide) (by decide) rfl (by decide) ?_
    refine z_aload_n dX0_step_46 rfl ?_
    refine z_get (v := .int (o 2)) hI 0 rfl rfl uin_X0 2 (Nat.le_of_ble_eq_true rfl) tw_f_RX0_18 rfl rfl dX0_step_47 ?_
    exact z_iret_S hQ rfl hv dX0_step_50
  have hv := it_f hv c4
  by_cases c5 : (o 1) = 2
  · have hv := it_t hv c5
    refine z_tableIn (tgt := 60) dX0_step_4 2 c5 (by decide) (by decide) rfl (by decide) ?_
    refine z_iconst (v := 1) dX0_step_60 rfl ?_
    exact z_iret_S hQ rfl hv dX0_step_61
  have hv := it_f hv c5
  by_cases c6 : (o 1) = 3
  · have hv := it_t hv c6
    refine z_tableIn (tgt := 60) dX0_step_4 3 c6 (by decide) (by decide) rfl (by decide) ?_
    refine z_iconst (v := 1) dX0_step_60 rfl ?_
    exact z_iret_S hQ rfl hv dX0_step_61
  have hv := it_f hv c6
  refine z_tableOut (tgt := 60) dX0_step_4 (zout6_1 c1 c5 c6 c2 c3 c4) (by decide) ?_
  refine z_iconst (v := 1) dX0_step_60 rfl ?_
  exact z_iret_S hQ rfl hv dX0_step_61
theorem dX0_burden_0 : decode cX0_burden 0 = .ok (.aload_n 0, 1) := by decide +kernel
theorem dX0_burden_1 : decode cX0_burden 1 = .ok (.getfield 15, 3) := by decide +kernel
theorem dX0_burden_4 : decode cX0_burden 4 = .ok (.iconst 1, 1) := by decide +kernel
theorem dX0_burden_5 : decode cX0_burden 5 = .ok (.if_icmp .eq 12, 3) := by decide +kernel
theorem dX0_burden_8 : decode cX0_burden 8 = .ok (.aload_n 0, 1) := by decide +kernel
theorem dX0_burden_9 : decode cX0_burden 9 = .ok (.getfield 15, 3) := by decide +kernel
theorem dX0_burden_12 : decode cX0_burden 12 = .ok (.bipush 6, 2) := by decide +kernel
theorem dX0_burden_14 : decode cX0_burden 14 = .ok (.if_icmp .ne 12, 3) := by decide +kernel
theorem dX0_burden_17 : decode cX0_burden 17 = .ok (.iconst 2, 1) := by decide +kernel
theorem dX0_burden_18 : decode cX0_burden 18 = .ok (.aload_n 0, 1) := by decide +kernel
theorem dX0_burden_19 : decode cX0_burden 19 = .ok (.getfield 24, 3) := by decide +kernel
theorem dX0_burden_22 : decode cX0_burden 22 = .ok (.imul, 1) := by decide +kernel
theorem dX0_burden_23 : decode cX0_burden 23 = .ok (.goto 9, 3) := by decide +kernel
theorem dX0_burden_26 : decode cX0_burden 26 = .ok (.iload_n 1, 1) := by decide +kernel
theorem dX0_burden_27 : decode cX0_burden 27 = .ok (.aload_n 0, 1) := by decide +kernel
theorem dX0_burden_28 : decode cX0_burden 28 = .ok (.getfield 24, 3) := by decide +kernel
theorem dX0_burden_31 : decode cX0_burden 31 = .ok (.iadd, 1) := by decide +kernel
theorem dX0_burden_32 : decode cX0_burden 32 = .ok (.ireturn, 1) := by decide +kernel
abbrev k_X0_burden : zK := (cX0_burden, 2, RX0, (some .int), ({ frames := 0, cells := 0, slots := 0, locals := 0 } : Room))
theorem zc_X0_burden : zcal yX0_burden k_X0_burden.1 k_X0_burden.2.1 k_X0_burden.2.2.2.1 1 := ⟨tw_code_yX0_burden, tw_i_TollForHesitators_Comer, ⟨by decide +kernel, by decide +kernel⟩, by decide +kernel⟩
theorem zv_X0_burden : Cond.instanceMethod yX0_burden ∈ TS ∧ Cond.selects RX0 yX0_burden yX0_burden ∈ TS := ⟨tw_inst_yX0_burden, tw_s_yX0_burden⟩
def v_X0_burden (o : (Nat → Int32)) (x1 : Int32) : Int32 := (if (o 1) = 1 then 2 * (o 4) else (if (o 1) = 6 then 2 * (o 4) else x1 + (o 4)))
set_option maxHeartbeats 4000000 in
theorem c_X0_burden {l : Launch} (G : zG) (P : pT) (a : Nat) (o : (Nat → Int32)) (x1 : Int32) : Met l yX0_burden (.code yX0_burden k_X0_burden.1 k_X0_burden.2.1 k_X0_burden.2.2.2.1 :: TS) k_X0_burden.2.2.2.2 (Pz G [.ref (a), .int x1] (Fr G P (cmW a o))) (vp_Si (fun r => r = v_X0_burden o x1)) 0 0 (fun _ => False) := by
  refine zmet (K := k_X0_burden) (by decide +kernel) rfl rfl (fun Γ hl0 hQ hN hF => ?_)
  have hI := rd_P (G := G) hF.1
  have hG := rd_F hF.2
  obtain ⟨res, hv⟩ : ∃ res, v_X0_burden o x1 = res := ⟨_, rfl⟩
  rw [hv] at hQ
  unfold v_X0_burden at hv
  show Z k_X0_burden G Γ _ 0 0 [(0, .ref a), (1, .int x1)] 0 []
  refine z_aload_n dX0_burden_0 rfl ?_
  refine z_get (v := .int (o 1)) hI 0 rfl rfl uin_X0 1 (Nat.le_of_ble_eq_true rfl) tw_f_RX0_15 rfl rfl dX0_burden_1 ?_
  refine z_iconst (v := 1) dX0_burden_4 rfl ?_
  have J5 : ∀ m4 : Int32, m4 = (if (o 1) = 1 then 2 * (o 4) else (if (o 1) = 6 then 2 * (o 4) else x1 + (o 4))) → Z k_X0_burden G Γ (rd Γ.2.2.1.1.heap) 0 0 [(0, .ref a), (1, .int x1)] 32 [.int m4] := by
    intro m4 em4
    rewrite [em4]; clear em4
    exact z_iret_S hQ rfl hv dX0_burden_32
  refine z_icmp_eq (tgt := 17) dX0_burden_5 (by decide) (fun c1 => ?_) (fun c1 => ?_)
  · skip
    refine z_iconst (v := 2) dX0_burden_17 rfl ?_
    refine z_aload_n dX0_burden_18 rfl ?_
    refine z_get (v := .int (o 4)) hI 0 rfl rfl uin_X0 4 (Nat.le_of_ble_eq_true rfl) tw_f_RX0_24 rfl rfl dX0_burden_19 ?_
    refine z_imul dX0_burden_22 ?_
    refine z_goto (tgt := 32) dX0_burden_23 (by decide) ?_
    exact z_lv rfl (J5 _ (if_pos c1).symm)
  · skip
    refine z_aload_n dX0_burden_8 rfl ?_
    refine z_get (v := .int (o 1)) hI 0 rfl rfl uin_X0 1 (Nat.le_of_ble_eq_true rfl) tw_f_RX0_15 rfl rfl dX0_burden_9 ?_
    refine z_bipush (v := 6) dX0_burden_12 rfl ?_
    have J6 : ∀ m3 : Int32, m3 = (if (o 1) = 6 then 2 * (o 4) else x1 + (o 4)) → Z k_X0_burden G Γ (rd Γ.2.2.1.1.heap) 0 0 [(0, .ref a), (1, .int x1)] 32 [.int m3] := by
      intro m3 em3
      rewrite [em3]; clear em3
      exact z_lv rfl (J5 _ (if_neg c1).symm)
    refine z_icmp_ne (tgt := 26) dX0_burden_14 (by decide) (fun c2 => ?_) (fun c2 => ?_)
    · skip
      refine z_iload_n dX0_burden_26 rfl ?_
      refine z_aload_n dX0_burden_27 rfl ?_
      refine z_get (v := .int (o 4)) hI 0 rfl rfl uin_X0 4 (Nat.le_of_ble_eq_true rfl) tw_f_RX0_24 rfl rfl dX0_burden_28 ?_
      refine z_iadd dX0_burden_31 ?_
      exact z_lv rfl (J6 _ (if_neg c2).symm)
    · skip
      refine z_iconst (v := 2) dX0_burden_17 rfl ?_
      refine z_aload_n dX0_burden_18 rfl ?_
      refine z_get (v := .int (o 4)) hI 0 rfl rfl uin_X0 4 (Nat.le_of_ble_eq_true rfl) tw_f_RX0_24 rfl rfl dX0_burden_19 ?_
      refine z_imul dX0_burden_22 ?_
      refine z_goto (tgt := 32) dX0_burden_23 (by decide) ?_
      exact z_lv rfl (J6 _ (if_pos c2).symm)
theorem dX0_courage_0 : decode cX0_courage 0 = .ok (.aload_n 0, 1) := by decide +kernel
theorem dX0_courage_1 : decode cX0_courage 1 = .ok (.getfield 15, 3) := by decide +kernel
theorem dX0_courage_4 : decode cX0_courage 4 = .ok (.lookupswitch 44 #[(2, 28), (3, 34)], 28) := by decide +kernel
theorem dX0_courage_32 : decode cX0_courage 32 = .ok (.iload_n 1, 1) := by decide +kernel
theorem dX0_courage_33 : decode cX0_courage 33 = .ok (.iload_n 2, 1) := by decide +kernel
theorem dX0_courage_34 : decode cX0_courage 34 = .ok (.invokestatic 35, 3) := by decide +kernel
theorem dX0_courage_37 : decode cX0_courage 37 = .ok (.ireturn, 1) := by decide +kernel
theorem dX0_courage_38 : decode cX0_courage 38 = .ok (.iload_n 1, 1) := by decide +kernel
theorem dX0_courage_39 : decode cX0_courage 39 = .ok (.iload_n 2, 1) := by decide +kernel
theorem dX0_courage_40 : decode cX0_courage 40 = .ok (.invokestatic 35, 3) := by decide +kernel
theorem dX0_courage_43 : decode cX0_courage 43 = .ok (.iload_n 3, 1) := by decide +kernel
theorem dX0_courage_44 : decode cX0_courage 44 = .ok (.iconst 2, 1) := by decide +kernel
theorem dX0_courage_45 : decode cX0_courage 45 = .ok (.idiv, 1) := by decide +kernel
theorem dX0_courage_46 : decode cX0_courage 46 = .ok (.iadd, 1) := by decide +kernel
theorem dX0_courage_47 : decode cX0_courage 47 = .ok (.ireturn, 1) := by decide +kernel
theorem dX0_courage_48 : decode cX0_courage 48 = .ok (.iload_n 1, 1) := by decide +kernel
theorem dX0_courage_49 : decode cX0_courage 49 = .ok (.ireturn, 1) := by decide +kernel
abbrev k_X0_courage : zK := (cX0_courage, 4, RX0, (some .int), ({ frames := 1, cells := 0, slots := 0, locals := 13 } : Room))
theorem zc_X0_courage : zcal yX0_courage k_X0_courage.1 k_X0_courage.2.1 k_X0_courage.2.2.2.1 3 := ⟨tw_code_yX0_courage, tw_i_TollForHesitators_Comer, ⟨by decide +kernel, by decide +kernel⟩, by decide +kernel⟩
theorem zv_X0_courage : Cond.instanceMethod yX0_courage ∈ TS ∧ Cond.selects RX0 yX0_courage yX0_courage ∈ TS := ⟨tw_inst_yX0_courage, tw_s_yX0_courage⟩
def v_X0_courage (o : (Nat → Int32)) (x1 : Int32) (x2 : Int32) (x3 : Int32) : Int32 := if (o 1) = 2 then (if x1 < x2 then x2 else x1) else if (o 1) = 3 then (if x1 < x2 then x2 else x1) + (x3 / 2) else x1
set_option maxHeartbeats 4000000 in
theorem c_X0_courage {l : Launch} (G : zG) (P : pT) (a : Nat) (o : (Nat → Int32)) (x1 : Int32) (x2 : Int32) (x3 : Int32) : Met l yX0_courage (.code yX0_courage k_X0_courage.1 k_X0_courage.2.1 k_X0_courage.2.2.2.1 :: TS) k_X0_courage.2.2.2.2 (Pz G [.ref (a), .int x1, .int x2, .int x3] (Fr G P (cmW a o))) (vp_Si (fun r => r = v_X0_courage o x1 x2 x3)) 0 0 (fun _ => False) := by
  refine zmet (K := k_X0_courage) (by decide +kernel) rfl rfl (fun Γ hl0 hQ hN hF => ?_)
  have hI := rd_P (G := G) hF.1
  have hG := rd_F hF.2
  obtain ⟨res, hv⟩ : ∃ res, v_X0_courage o x1 x2 x3 = res := ⟨_, rfl⟩
  rw [hv] at hQ
  unfold v_X0_courage at hv
  show Z k_X0_courage G Γ _ 0 0 [(0, .ref a), (1, .int x1), (2, .int x2), (3, .int x3)] 0 []
  refine z_aload_n dX0_courage_0 rfl ?_
  refine z_get (v := .int (o 1)) hI 0 rfl rfl uin_X0 1 (Nat.le_of_ble_eq_true rfl) tw_f_RX0_15 rfl rfl dX0_courage_1 ?_
  by_cases c1 : (o 1) = 2
  · have hv := it_t hv c1
    refine z_lookup (tgt := 32) dX0_courage_4 (by decide) (look_in c1 rfl) (by decide) ?_
    refine z_iload_n dX0_courage_32 rfl ?_
    refine z_iload_n dX0_courage_33 rfl ?_
    refine z_max tw_m_RX0_35 tw_st_yJ9_max_7cf53 tw_i_java_lang_Math tw_code_yJ9_max_7cf53 ⟨Nat.le_of_ble_eq_true rfl, Nat.le_of_ble_eq_true rfl, Nat.le_of_ble_eq_true rfl, Nat.le_of_ble_eq_true rfl⟩ dX0_courage_34 ?_
    exact z_iret_S hQ rfl hv dX0_courage_37
  have hv := it_f hv c1
  by_cases c2 : (o 1) = 3
  · have hv := it_t hv c2
    refine z_lookup (tgt := 38) dX0_courage_4 (by decide) (look_in c2 rfl) (by decide) ?_
    refine z_iload_n dX0_courage_38 rfl ?_
    refine z_iload_n dX0_courage_39 rfl ?_
    refine z_max tw_m_RX0_35 tw_st_yJ9_max_7cf53 tw_i_java_lang_Math tw_code_yJ9_max_7cf53 ⟨Nat.le_of_ble_eq_true rfl, Nat.le_of_ble_eq_true rfl, Nat.le_of_ble_eq_true rfl, Nat.le_of_ble_eq_true rfl⟩ dX0_courage_40 ?_
    refine z_iload_n dX0_courage_43 rfl ?_
    refine z_iconst (v := 2) dX0_courage_44 rfl ?_
    refine z_idiv dX0_courage_45 (by decide) ?_
    refine z_iadd dX0_courage_46 ?_
    exact z_iret_S hQ rfl hv dX0_courage_47
  have hv := it_f hv c2
  refine z_lookup (tgt := 48) dX0_courage_4 (by decide) (look_c c1 rfl (look_c c2 rfl look_n)) (by decide) ?_
  refine z_iload_n dX0_courage_48 rfl ?_
  exact z_iret_S hQ rfl hv dX0_courage_49
theorem dX0_above_0 : decode cX0_above 0 = .ok (.iload_n 0, 1) := by decide +kernel
theorem dX0_above_1 : decode cX0_above 1 = .ok (.ifCond .lt 11, 3) := by decide +kernel
theorem dX0_above_4 : decode cX0_above 4 = .ok (.iload_n 0, 1) := by decide +kernel
theorem dX0_above_5 : decode cX0_above 5 = .ok (.getstatic 27, 3) := by decide +kernel
theorem dX0_above_8 : decode cX0_above 8 = .ok (.arraylength, 1) := by decide +kernel
theorem dX0_above_9 : decode cX0_above 9 = .ok (.if_icmp .lt 7, 3) := by decide +kernel
theorem dX0_above_12 : decode cX0_above 12 = .ok (.iconst (-1), 1) := by decide +kernel
theorem dX0_above_13 : decode cX0_above 13 = .ok (.goto 8, 3) := by decide +kernel
theorem dX0_above_16 : decode cX0_above 16 = .ok (.getstatic 27, 3) := by decide +kernel
theorem dX0_above_19 : decode cX0_above 19 = .ok (.iload_n 0, 1) := by decide +kernel
theorem dX0_above_20 : decode cX0_above 20 = .ok (.iaload, 1) := by decide +kernel
theorem dX0_above_21 : decode cX0_above 21 = .ok (.ireturn, 1) := by decide +kernel
abbrev k_X0_above : zK := (cX0_above, 1, RX0, (some .int), ({ frames := 0, cells := 0, slots := 0, locals := 0 } : Room))
theorem zc_X0_above : zcal yX0_above k_X0_above.1 k_X0_above.2.1 k_X0_above.2.2.2.1 1 := ⟨tw_code_yX0_above, tw_i_TollForHesitators_Comer, ⟨by decide +kernel, by decide +kernel⟩, by decide +kernel⟩
def v_X0_above (x0 : Int32) : Int32 := (if x0 < 0 then (-1) else (if x0 < 7 then t_above x0.toNatClampNeg else (-1)))
def p_X0_above (x0 : Int32) : Prop := if x0 < 0 then True else if x0 < 7 then vp_in x0 7 else True
set_option maxHeartbeats 4000000 in
theorem c_X0_above {l : Launch} (G : zG) (P : pT) (x0 : Int32) (hp : p_X0_above x0) : Met l yX0_above (.code yX0_above k_X0_above.1 k_X0_above.2.1 k_X0_above.2.2.2.1 :: TS) k_X0_above.2.2.2.2 (Pz G [.int x0] (Fr G P ([]))) (vp_Si (fun r => r = v_X0_above x0)) 0 0 (fun _ => False) := by
  refine zmet (K := k_X0_above) (by decide +kernel) rfl rfl (fun Γ hl0 hQ hN hF => ?_)
  have hI := rd_P (G := G) hF.1
  have hG := rd_F hF.2
  obtain ⟨res, hv⟩ : ∃ res, v_X0_above x0 = res := ⟨_, rfl⟩
  rw [hv] at hQ
  unfold v_X0_above at hv
  unfold p_X0_above at hp
  show Z k_X0_above G Γ _ 0 0 [(0, .int x0)] 0 []
  refine z_iload_n dX0_above_0 rfl ?_
  have hpm := hp
  have J6 : ∀ m5 : Int32, m5 = (if x0 < 0 then (-1) else (if x0 < 7 then t_above x0.toNatClampNeg else (-1))) → Z k_X0_above G Γ (rd Γ.2.2.1.1.heap) 0 0 [(0, .int x0)] 21 [.int m5] := by
    intro m5 em5
    rewrite [em5]; clear em5
    exact z_iret_S hQ rfl hv dX0_above_21
  refine z_if_lt (tgt := 12) dX0_above_1 (by decide) (fun c1 => ?_) (fun c1 => ?_)
  · have hp := ip_t hpm c1
    refine z_iconst (v := (-1)) dX0_above_12 rfl ?_
    refine z_goto (tgt := 21) dX0_above_13 (by decide) ?_
    exact z_lv rfl (J6 _ (if_pos c1).symm)
  · have hp := ip_f hpm c1
    refine z_iload_n dX0_above_4 rfl ?_
    refine z_gsrow (fun H locs hi => (hG H locs hi).1.1) tw_f_RX0_27 dX0_above_5 ?_
    refine z_tlen (v := 7) (fun H locs hi => (hG H locs hi).1.1) rfl dX0_above_8 ?_
    have hpm := hp
    have J7 : ∀ m4 : Int32, m4 = (if x0 < 7 then t_above x0.toNatClampNeg else (-1)) → Z k_X0_above G Γ (rd Γ.2.2.1.1.heap) 0 0 [(0, .int x0)] 21 [.int m4] := by
      intro m4 em4
      rewrite [em4]; clear em4
      exact z_lv rfl (J6 _ (if_neg c1).symm)
    refine z_icmp_lt (tgt := 16) dX0_above_9 (by decide) (fun c2 => ?_) (fun c2 => ?_)
    · have hp := ip_t hpm c2
      refine z_gsrow (fun H locs hi => (hG H locs hi).1.1) tw_f_RX0_27 dX0_above_16 ?_
      refine z_iload_n dX0_above_19 rfl ?_
      have q3 := hp
      refine z_tald (x := t_above x0.toNatClampNeg) (fun H locs hi => (hG H locs hi).1.1) q3 rfl dX0_above_20 ?_
      exact z_lv rfl (J7 _ (if_pos c2).symm)
    · have hp := ip_f hpm c2
      refine z_iconst (v := (-1)) dX0_above_12 rfl ?_
      refine z_goto (tgt := 21) dX0_above_13 (by decide) ?_
      exact z_lv rfl (J7 _ (if_neg c2).symm)
theorem dX0_isOf_0 : decode cX0_isOf 0 = .ok (.aload_n 0, 1) := by decide +kernel
theorem dX0_isOf_1 : decode cX0_isOf 1 = .ok (.getfield 15, 3) := by decide +kernel
theorem dX0_isOf_4 : decode cX0_isOf 4 = .ok (.istore_n 2, 1) := by decide +kernel
theorem dX0_isOf_5 : decode cX0_isOf 5 = .ok (.iconst 0, 1) := by decide +kernel
theorem dX0_isOf_6 : decode cX0_isOf 6 = .ok (.istore_n 3, 1) := by decide +kernel
theorem dX0_isOf_7 : decode cX0_isOf 7 = .ok (.iload_n 3, 1) := by decide +kernel
theorem dX0_isOf_8 : decode cX0_isOf 8 = .ok (.getstatic 27, 3) := by decide +kernel
theorem dX0_isOf_11 : decode cX0_isOf 11 = .ok (.arraylength, 1) := by decide +kernel
theorem dX0_isOf_12 : decode cX0_isOf 12 = .ok (.if_icmp .ge 19, 3) := by decide +kernel
theorem dX0_isOf_15 : decode cX0_isOf 15 = .ok (.iload_n 2, 1) := by decide +kernel
theorem dX0_isOf_16 : decode cX0_isOf 16 = .ok (.iload_n 1, 1) := by decide +kernel
theorem dX0_isOf_17 : decode cX0_isOf 17 = .ok (.if_icmp .eq 14, 3) := by decide +kernel
theorem dX0_isOf_20 : decode cX0_isOf 20 = .ok (.iload_n 2, 1) := by decide +kernel
theorem dX0_isOf_21 : decode cX0_isOf 21 = .ok (.invokestatic 31, 3) := by decide +kernel
theorem dX0_isOf_24 : decode cX0_isOf 24 = .ok (.istore_n 2, 1) := by decide +kernel
theorem dX0_isOf_25 : decode cX0_isOf 25 = .ok (.iinc 3 1, 3) := by decide +kernel
theorem dX0_isOf_28 : decode cX0_isOf 28 = .ok (.goto (-21), 3) := by decide +kernel
theorem dX0_isOf_31 : decode cX0_isOf 31 = .ok (.iload_n 2, 1) := by decide +kernel
theorem dX0_isOf_32 : decode cX0_isOf 32 = .ok (.iload_n 1, 1) := by decide +kernel
theorem dX0_isOf_33 : decode cX0_isOf 33 = .ok (.if_icmp .ne 7, 3) := by decide +kernel
theorem dX0_isOf_36 : decode cX0_isOf 36 = .ok (.iconst 1, 1) := by decide +kernel
theorem dX0_isOf_37 : decode cX0_isOf 37 = .ok (.goto 4, 3) := by decide +kernel
theorem dX0_isOf_40 : decode cX0_isOf 40 = .ok (.iconst 0, 1) := by decide +kernel
theorem dX0_isOf_41 : decode cX0_isOf 41 = .ok (.ireturn, 1) := by decide +kernel
abbrev k_X0_isOf : zK := (cX0_isOf, 4, RX0, (some .boolean), ({ frames := 1, cells := 0, slots := 0, locals := 20 } : Room))
theorem zc_X0_isOf : zcal yX0_isOf k_X0_isOf.1 k_X0_isOf.2.1 k_X0_isOf.2.2.2.1 1 := ⟨tw_code_yX0_isOf, tw_i_TollForHesitators_Comer, ⟨by decide +kernel, by decide +kernel⟩, by decide +kernel⟩
theorem zv_X0_isOf : Cond.instanceMethod yX0_isOf ∈ TS ∧ Cond.selects RX0 yX0_isOf yX0_isOf ∈ TS := ⟨tw_inst_yX0_isOf, tw_s_yX0_isOf⟩
def v_X0_isOf_r (o : (Nat → Int32)) : Nat → Int32 → Int32 → Int32 → Int32
  | 0, _, _, _ => 0
  | n + 1, v1, v2, v3 => if 7 ≤ v3 then (if v2 = v1 then (1 : Int32) else 0) else if v2 = v1 then (if v2 = v1 then (1 : Int32) else 0) else v_X0_isOf_r o n v1 (v_X0_above v2) (v3 + 1)
def p_X0_isOf_r (o : (Nat → Int32)) : Nat → Int32 → Int32 → Int32 → Prop
  | 0, _, _, _ => False
  | n + 1, v1, v2, v3 => if 7 ≤ v3 then True else if v2 = v1 then True else p_X0_above v2 ∧ (p_X0_isOf_r o n v1 (v_X0_above v2) (v3 + 1))
def v_X0_isOf (o : (Nat → Int32)) (x1 : Int32) : Int32 := v_X0_isOf_r o 200 x1 (o 1) 0
def p_X0_isOf (o : (Nat → Int32)) (x1 : Int32) : Prop := p_X0_isOf_r o 200 x1 (o 1) 0
set_option maxHeartbeats 4000000 in
theorem w_X0_isOf {G : zG} {P : pT} {Γ : zT} {res : Int32} (a : Nat) (o : (Nat → Int32)) (hF : Fr G P (cmW a o) Γ.2.2.1.1.heap) (hQ : zQ Γ (vp_Si (fun r => r = res)) 0 0 (fun _ => False)) : ∀ n : Nat, (∀ (v1 : Int32) (v2 : Int32) (v3 : Int32), p_X0_isOf_r o n v1 v2 v3 → v_X0_isOf_r o n v1 v2 v3 = res → Z k_X0_isOf G Γ (rd Γ.2.2.1.1.heap) 0 0 [(0, .ref a), (1, .int v1), (2, .int v2), (3, .int v3)] 7 []) := by
  have hI := rd_P (G := G) hF.1
  have hG := rd_F hF.2
  intro n
  induction n with
  | zero => exact fun v1 v2 v3 hp => absurd hp (by rw [p_X0_isOf_r]; exact not_false)
  | succ n ih =>
    intro v1 v2 v3 hp hv
    rw [p_X0_isOf_r] at hp
    rw [v_X0_isOf_r] at hv
    refine z_iload_n dX0_isOf_7 rfl ?_
    refine z_gsrow (fun H locs hi => (hG H locs hi).1.1) tw_f_RX0_27 dX0_isOf_8 ?_
    refine z_tlen (v := 7) (fun H locs hi => (hG H locs hi).1.1) rfl dX0_isOf_11 ?_
    refine z_icmp_ge (tgt := 31) dX0_isOf_12 (by decide) (fun c1 => ?_) (fun c1 => ?_)
    · have hp := ip_t hp c1; have hv := it_t hv c1
      refine z_iload_n dX0_isOf_31 rfl ?_
      refine z_iload_n dX0_isOf_32 rfl ?_
      have J11 : ∀ m5 : Int32, m5 = (if v2 = v1 then (1 : Int32) else 0) → Z k_X0_isOf G Γ (rd Γ.2.2.1.1.heap) 0 0 [(0, .ref a), (1, .int v1), (2, .int v2), (3, .int v3)] 41 [.int m5] := by
        intro m5 em5
        rewrite [em5]; clear em5
        exact z_zret_S hQ rfl (by (repeat' (first | with_reducible exact nz0 | with_reducible exact nz1 | with_reducible assumption | split | refine nb_oc ?_ (fun _ => ?_)))) hv dX0_isOf_41
      refine z_icmp_ne (tgt := 40) dX0_isOf_33 (by decide) (fun c4 => ?_) (fun c4 => ?_)
      · skip
        refine z_iconst (v := 0) dX0_isOf_40 rfl ?_
        exact z_lv rfl (J11 _ (if_neg c4).symm)
      · skip
        refine z_iconst (v := 1) dX0_isOf_36 rfl ?_
        refine z_goto (tgt := 41) dX0_isOf_37 (by decide) ?_
        exact z_lv rfl (J11 _ (if_pos c4).symm)
    · have hp := ip_f hp c1; have hv := it_f hv c1
      refine z_iload_n dX0_isOf_15 rfl ?_
      refine z_iload_n dX0_isOf_16 rfl ?_
      refine z_icmp_eq (tgt := 31) dX0_isOf_17 (by decide) (fun c6 => ?_) (fun c6 => ?_)
      · have hp := ip_t hp c6; have hv := it_t hv c6
        refine z_iload_n dX0_isOf_31 rfl ?_
        refine z_iload_n dX0_isOf_32 rfl ?_
        have J12 : ∀ m9 : Int32, m9 = (if v2 = v1 then (1 : Int32) else 0) → Z k_X0_isOf G Γ (rd Γ.2.2.1.1.heap) 0 0 [(0, .ref a), (1, .int v1), (2, .int v2), (3, .int v3)] 41 [.int m9] := by
          intro m9 em9
          rewrite [em9]; clear em9
          exact z_zret_S hQ rfl (by (repeat' (first | with_reducible exact nz0 | with_reducible exact nz1 | with_reducible assumption | split | refine nb_oc ?_ (fun _ => ?_)))) hv dX0_isOf_41
        refine z_icmp_ne (tgt := 40) dX0_isOf_33 (by decide) (fun c8 => ?_) (fun c8 => ?_)
        · skip
          refine z_iconst (v := 0) dX0_isOf_40 rfl ?_
          exact z_lv rfl (J12 _ (if_neg c8).symm)
        · skip
          refine z_iconst (v := 1) dX0_isOf_36 rfl ?_
          refine z_goto (tgt := 41) dX0_isOf_37 (by decide) ?_
          exact z_lv rfl (J12 _ (if_pos c8).symm)
      · have hp := ip_f hp c6; have hv := it_f hv c6
        refine z_iload_n dX0_isOf_20 rfl ?_
        obtain ⟨q10, hp⟩ := hp
        refine z_csi (c_X0_above G P v2 q10) zc_X0_above tw_st_yX0_above tw_m_RX0_31 (fr_all (sub_P hI [] rfl) hG) (zroom_of rfl) rfl (Nat.le_of_ble_eq_true rfl) dX0_isOf_21 ?_
        refine z_istore_n (lv' := [(2, .int (v_X0_above v2)), (0, .ref a), (1, .int v1), (3, .int v3)]) dX0_isOf_24 (Nat.le_of_ble_eq_true rfl) rfl ?_
        refine z_iinc (v := v3 + 1) (lv' := [(3, .int (v3 + 1)), (2, .int (v_X0_above v2)), (0, .ref a), (1, .int v1)]) dX0_isOf_25 3 rfl rfl (Nat.le_of_ble_eq_true rfl) rfl ?_
        refine z_goto (tgt := 7) dX0_isOf_28 (by decide) ?_
        exact z_lv rfl ((ih) v1 (v_X0_above v2) (v3 + 1) hp hv)
set_option maxHeartbeats 4000000 in
theorem c_X0_isOf {l : Launch} (G : zG) (P : pT) (a : Nat) (o : (Nat → Int32)) (x1 : Int32) (hp : p_X0_isOf o x1) : Met l yX0_isOf (.code yX0_isOf k_X0_isOf.1 k_X0_isOf.2.1 k_X0_isOf.2.2.2.1 :: TS) k_X0_isOf.2.2.2.2 (Pz G [.ref (a), .int x1] (Fr G P (cmW a o))) (vp_Si (fun r => r = v_X0_isOf o x1)) 0 0 (fun _ => False) := by
  refine zmet (K := k_X0_isOf) (by decide +kernel) rfl rfl (fun Γ hl0 hQ hN hF => ?_)
  have hI := rd_P (G := G) hF.1
  have hG := rd_F hF.2
  obtain ⟨res, hv⟩ : ∃ res, v_X0_isOf o x1 = res := ⟨_, rfl⟩
  rw [hv] at hQ
  unfold v_X0_isOf at hv
  unfold p_X0_isOf at hp
  show Z k_X0_isOf G Γ _ 0 0 [(0, .ref a), (1, .int x1)] 0 []
  refine z_aload_n dX0_isOf_0 rfl ?_
  refine z_get (v := .int (o 1)) hI 0 rfl rfl uin_X0 1 (Nat.le_of_ble_eq_true rfl) tw_f_RX0_15 rfl rfl dX0_isOf_1 ?_
  refine z_istore_n (lv' := [(2, .int (o 1)), (0, .ref a), (1, .int x1)]) dX0_isOf_4 (Nat.le_of_ble_eq_true rfl) rfl ?_
  refine z_iconst (v := 0) dX0_isOf_5 rfl ?_
  refine z_istore_n (lv' := [(3, .int 0), (2, .int (o 1)), (0, .ref a), (1, .int x1)]) dX0_isOf_6 (Nat.le_of_ble_eq_true rfl) rfl ?_
  exact z_lv rfl ((w_X0_isOf a o hF hQ 200) x1 (o 1) 0 hp hv)
theorem dX5_isRow_0 : decode cX5_isRow 0 = .ok (.aload_n 0, 1) := by decide +kernel
theorem dX5_isRow_1 : decode cX5_isRow 1 = .ok (.getfield 15, 3) := by decide +kernel
theorem dX5_isRow_4 : decode cX5_isRow 4 = .ok (.bipush 100, 2) := by decide +kernel
theorem dX5_isRow_6 : decode cX5_isRow 6 = .ok (.if_icmp .lt 7, 3) := by decide +kernel
theorem dX5_isRow_9 : decode cX5_isRow 9 = .ok (.iconst 1, 1) := by decide +kernel
theorem dX5_isRow_10 : decode cX5_isRow 10 = .ok (.goto 4, 3) := by decide +kernel
theorem dX5_isRow_13 : decode cX5_isRow 13 = .ok (.iconst 0, 1) := by decide +kernel
theorem dX5_isRow_14 : decode cX5_isRow 14 = .ok (.ireturn, 1) := by decide +kernel
abbrev k_X5_isRow : zK := (cX5_isRow, 1, RX5, (some .boolean), ({ frames := 0, cells := 0, slots := 0, locals := 0 } : Room))
theorem zc_X5_isRow : zcal yX5_isRow k_X5_isRow.1 k_X5_isRow.2.1 k_X5_isRow.2.2.2.1 0 := ⟨tw_code_yX5_isRow, tw_i_TollForHesitators_Shelf, ⟨by decide +kernel, by decide +kernel⟩, by decide +kernel⟩
theorem zv_X5_isRow : Cond.instanceMethod yX5_isRow ∈ TS ∧ Cond.selects RX5 yX5_isRow yX5_isRow ∈ TS := ⟨tw_inst_yX5_isRow, tw_s_yX5_isRow⟩
def v_X5_isRow (S : sT) : Int32 := (if (S.1 1) < 100 then (0 : Int32) else 1)
theorem nb_X5_isRow (S : sT) : narrow .boolean (.int (v_X5_isRow S)) = .int (v_X5_isRow S) := by
  unfold v_X5_isRow
  skip
  (repeat' (first | with_reducible exact nz0 | with_reducible exact nz1 | with_reducible assumption | split | refine nb_oc ?_ (fun _ => ?_)))
set_option maxHeartbeats 4000000 in
theorem c_X5_isRow {l : Launch} (G : zG) (P : pT) (a : Nat → Nat) (S : sT) : Met l yX5_isRow (.code yX5_isRow k_X5_isRow.1 k_X5_isRow.2.1 k_X5_isRow.2.2.2.1 :: TS) k_X5_isRow.2.2.2.2 (Pz G [.ref (a 0)] (Fr G P (shW G a S))) (vp_Si (fun r => r = v_X5_isRow S)) 0 0 (fun _ => False) := by
  refine zmet (K := k_X5_isRow) (by decide +kernel) rfl rfl (fun Γ hl0 hQ hN hF => ?_)
  have hI := rd_P (G := G) hF.1
  have hG := rd_F hF.2
  obtain ⟨res, hv⟩ : ∃ res, v_X5_isRow S = res := ⟨_, rfl⟩
  rw [hv] at hQ
  unfold v_X5_isRow at hv
  show Z k_X5_isRow G Γ _ 0 0 [(0, .ref (a 0))] 0 []
  refine z_aload_n dX5_isRow_0 rfl ?_
  refine z_get (v := .int (S.1 1)) hI 0 rfl rfl uin_X5 1 (Nat.le_of_ble_eq_true rfl) tw_f_RX5_15 rfl rfl dX5_isRow_1 ?_
  refine z_bipush (v := 100) dX5_isRow_4 rfl ?_
  have J3 : ∀ m2 : Int32, m2 = (if (S.1 1) < 100 then (0 : Int32) else 1) → Z k_X5_isRow G Γ (rd Γ.2.2.1.1.heap) 0 0 [(0, .ref (a 0))] 14 [.int m2] := by
    intro m2 em2
    rewrite [em2]; clear em2
    exact z_zret_S hQ rfl (by (repeat' (first | with_reducible exact nz0 | with_reducible exact nz1 | with_reducible assumption | split | refine nb_oc ?_ (fun _ => ?_)))) hv dX5_isRow_14
  refine z_icmp_lt (tgt := 13) dX5_isRow_6 (by decide) (fun c1 => ?_) (fun c1 => ?_)
  · skip
    refine z_iconst (v := 0) dX5_isRow_13 rfl ?_
    exact z_lv rfl (J3 _ (if_pos c1).symm)
  · skip
    refine z_iconst (v := 1) dX5_isRow_9 rfl ?_
    refine z_goto (tgt := 14) dX5_isRow_10 (by decide) ?_
    exact z_lv rfl (J3 _ (if_neg c1).symm)
theorem dX5_isComer_0 : decode cX5_isComer 0 = .ok (.aload_n 0, 1) := by decide +kernel
theorem dX5_isComer_1 : decode cX5_isComer 1 = .ok (.getfield 15, 3) := by decide +kernel
theorem dX5_isComer_4 : decode cX5_isComer 4 = .ok (.ifCond .lt 16, 3) := by decide +kernel
theorem dX5_isComer_7 : decode cX5_isComer 7 = .ok (.aload_n 0, 1) := by decide +kernel
theorem dX5_isComer_8 : decode cX5_isComer 8 = .ok (.getfield 15, 3) := by decide +kernel
theorem dX5_isComer_11 : decode cX5_isComer 11 = .ok (.bipush 100, 2) := by decide +kernel
theorem dX5_isComer_13 : decode cX5_isComer 13 = .ok (.if_icmp .ge 7, 3) := by decide +kernel
theorem dX5_isComer_16 : decode cX5_isComer 16 = .ok (.iconst 1, 1) := by decide +kernel
theorem dX5_isComer_17 : decode cX5_isComer 17 = .ok (.goto 4, 3) := by decide +kernel
theorem dX5_isComer_20 : decode cX5_isComer 20 = .ok (.iconst 0, 1) := by decide +kernel
theorem dX5_isComer_21 : decode cX5_isComer 21 = .ok (.ireturn, 1) := by decide +kernel
abbrev k_X5_isComer : zK := (cX5_isComer, 1, RX5, (some .boolean), ({ frames := 0, cells := 0, slots := 0, locals := 0 } : Room))
theorem zc_X5_isComer : zcal yX5_isComer k_X5_isComer.1 k_X5_isComer.2.1 k_X5_isComer.2.2.2.1 0 := ⟨tw_code_yX5_isComer, tw_i_TollForHesitators_Shelf, ⟨by decide +kernel, by decide +kernel⟩, by decide +kernel⟩
theorem zv_X5_isComer : Cond.instanceMethod yX5_isComer ∈ TS ∧ Cond.selects RX5 yX5_isComer yX5_isComer ∈ TS := ⟨tw_inst_yX5_isComer, tw_s_yX5_isComer⟩
def v_X5_isComer (S : sT) : Int32 := (if (S.1 1) < 0 then 0 else (if 100 ≤ (S.1 1) then (0 : Int32) else 1))
theorem nb_X5_isComer (S : sT) : narrow .boolean (.int (v_X5_isComer S)) = .int (v_X5_isComer S) := by
  unfold v_X5_isComer
  skip
  (repeat' (first | with_reducible exact nz0 | with_reducible exact nz1 | with_reducible assumption | split | refine nb_oc ?_ (fun _ => ?_)))
set_option maxHeartbeats 4000000 in
theorem c_X5_isComer {l : Launch} (G : zG) (P : pT) (a : Nat → Nat) (S : sT) : Met l yX5_isComer (.code yX5_isComer k_X5_isComer.1 k_X5_isComer.2.1 k_X5_isComer.2.2.2.1 :: TS) k_X5_isComer.2.2.2.2 (Pz G [.ref (a 0)] (Fr G P (shW G a S))) (vp_Si (fun r => r = v_X5_isComer S)) 0 0 (fun _ => False) := by
  refine zmet (K := k_X5_isComer) (by decide +kernel) rfl rfl (fun Γ hl0 hQ hN hF => ?_)
  have hI := rd_P (G := G) hF.1
  have hG := rd_F hF.2
  obtain ⟨res, hv⟩ : ∃ res, v_X5_isComer S = res := ⟨_, rfl⟩
  rw [hv] at hQ
  unfold v_X5_isComer at hv
  show Z k_X5_isComer G Γ _ 0 0 [(0, .ref (a 0))] 0 []
  refine z_aload_n dX5_isComer_0 rfl ?_
  refine z_get (v := .int (S.1 1)) hI 0 rfl rfl uin_X5 1 (Nat.le_of_ble_eq_true rfl) tw_f_RX5_15 rfl rfl dX5_isComer_1 ?_
  have J5 : ∀ m4 : Int32, m4 = (if (S.1 1) < 0 then 0 else (if 100 ≤ (S.1 1) then (0 : Int32) else 1)) → Z k_X5_isComer G Γ (rd Γ.2.2.1.1.heap) 0 0 [(0, .ref (a 0))] 21 [.int m4] := by
    intro m4 em4
    rewrite [em4]; clear em4
    exact z_zret_S hQ rfl (by (repeat' (first | with_reducible exact nz0 | with_reducible exact nz1 | with_reducible assumption | split | refine nb_oc ?_ (fun _ => ?_)))) hv dX5_isComer_21
  refine z_if_lt (tgt := 20) dX5_isComer_4 (by decide) (fun c1 => ?_) (fun c1 => ?_)
  · skip
    refine z_iconst (v := 0) dX5_isComer_20 rfl ?_
    exact z_lv rfl (J5 _ (if_pos c1).symm)
  · skip
    refine z_aload_n dX5_isComer_7 rfl ?_
    refine z_get (v := .int (S.1 1)) hI 0 rfl rfl uin_X5 1 (Nat.le_of_ble_eq_true rfl) tw_f_RX5_15 rfl rfl dX5_isComer_8 ?_
    refine z_bipush (v := 100) dX5_isComer_11 rfl ?_
    have J6 : ∀ m3 : Int32, m3 = (if 100 ≤ (S.1 1) then (0 : Int32) else 1) → Z k_X5_isComer G Γ (rd Γ.2.2.1.1.heap) 0 0 [(0, .ref (a 0))] 21 [.int m3] := by
      intro m3 em3
      rewrite [em3]; clear em3
      exact z_lv rfl (J5 _ (if_neg c1).symm)
    refine z_icmp_ge (tgt := 20) dX5_isComer_13 (by decide) (fun c2 => ?_) (fun c2 => ?_)
    · skip
      refine z_iconst (v := 0) dX5_isComer_20 rfl ?_
      exact z_lv rfl (J6 _ (if_pos c2).symm)
    · skip
      refine z_iconst (v := 1) dX5_isComer_16 rfl ?_
      refine z_goto (tgt := 21) dX5_isComer_17 (by decide) ?_
      exact z_lv rfl (J6 _ (if_neg c2).symm)
theorem dX5_hasElement_0 : decode cX5_hasElement 0 = .ok (.iload_n 1, 1) := by decide +kernel
theorem dX5_hasElement_1 : decode cX5_hasElement 1 = .ok (.ifCond .lt 24, 3) := by decide +kernel
theorem dX5_hasElement_4 : decode cX5_hasElement 4 = .ok (.iload_n 1, 1) := by decide +kernel
theorem dX5_hasElement_5 : decode cX5_hasElement 5 = .ok (.aload_n 0, 1) := by decide +kernel
theorem dX5_hasElement_6 : decode cX5_hasElement 6 = .ok (.getfield 19, 3) := by decide +kernel
theorem dX5_hasElement_9 : decode cX5_hasElement 9 = .ok (.if_icmp .ge 16, 3) := by decide +kernel
theorem dX5_hasElement_12 : decode cX5_hasElement 12 = .ok (.iload_n 1, 1) := by decide +kernel
theorem dX5_hasElement_13 : decode cX5_hasElement 13 = .ok (.aload_n 0, 1) := by decide +kernel
theorem dX5_hasElement_14 : decode cX5_hasElement 14 = .ok (.getfield 9, 3) := by decide +kernel
theorem dX5_hasElement_17 : decode cX5_hasElement 17 = .ok (.arraylength, 1) := by decide +kernel
theorem dX5_hasElement_18 : decode cX5_hasElement 18 = .ok (.if_icmp .ge 7, 3) := by decide +kernel
theorem dX5_hasElement_21 : decode cX5_hasElement 21 = .ok (.iconst 1, 1) := by decide +kernel
theorem dX5_hasElement_22 : decode cX5_hasElement 22 = .ok (.goto 4, 3) := by decide +kernel
theorem dX5_hasElement_25 : decode cX5_hasElement 25 = .ok (.iconst 0, 1) := by decide +kernel
theorem dX5_hasElement_26 : decode cX5_hasElement 26 = .ok (.ireturn, 1) := by decide +kernel
abbrev k_X5_hasElement : zK := (cX5_hasElement, 2, RX5, (some .boolean), ({ frames := 0, cells := 0, slots := 0, locals := 0 } : Room))
theorem zc_X5_hasElement : zcal yX5_hasElement k_X5_hasElement.1 k_X5_hasElement.2.1 k_X5_hasElement.2.2.2.1 1 := ⟨tw_code_yX5_hasElement, tw_i_TollForHesitators_Shelf, ⟨by decide +kernel, by decide +kernel⟩, by decide +kernel⟩
theorem zv_X5_hasElement : Cond.instanceMethod yX5_hasElement ∈ TS ∧ Cond.selects RX5 yX5_hasElement yX5_hasElement ∈ TS := ⟨tw_inst_yX5_hasElement, tw_s_yX5_hasElement⟩
def v_X5_hasElement (S : sT) (x1 : Int32) : Int32 := (if x1 < 0 then 0 else (if (S.1 2) ≤ x1 then 0 else (if 160 ≤ x1 then (0 : Int32) else 1)))
theorem nb_X5_hasElement (S : sT) (x1 : Int32) : narrow .boolean (.int (v_X5_hasElement S x1)) = .int (v_X5_hasElement S x1) := by
  unfold v_X5_hasElement
  skip
  (repeat' (first | with_reducible exact nz0 | with_reducible exact nz1 | with_reducible assumption | split | refine nb_oc ?_ (fun _ => ?_)))
set_option maxHeartbeats 4000000 in
theorem c_X5_hasElement {l : Launch} (G : zG) (P : pT) (a : Nat → Nat) (S : sT) (x1 : Int32) : Met l yX5_hasElement (.code yX5_hasElement k_X5_hasElement.1 k_X5_hasElement.2.1 k_X5_hasElement.2.2.2.1 :: TS) k_X5_hasElement.2.2.2.2 (Pz G [.ref (a 0), .int x1] (Fr G P (shW G a S))) (vp_Si (fun r => r = v_X5_hasElement S x1)) 0 0 (fun _ => False) := by
  refine zmet (K := k_X5_hasElement) (by decide +kernel) rfl rfl (fun Γ hl0 hQ hN hF => ?_)
  have hI := rd_P (G := G) hF.1
  have hG := rd_F hF.2
  obtain ⟨res, hv⟩ : ∃ res, v_X5_hasElement S x1 = res := ⟨_, rfl⟩
  rw [hv] at hQ
  unfold v_X5_hasElement at hv
  show Z k_X5_hasElement G Γ _ 0 0 [(0, .ref (a 0)), (1, .int x1)] 0 []
  refine z_iload_n dX5_hasElement_0 rfl ?_
  have J7 : ∀ m6 : Int32, m6 = (if x1 < 0 then 0 else (if (S.1 2) ≤ x1 then 0 else (if 160 ≤ x1 then (0 : Int32) else 1))) → Z k_X5_hasElement G Γ (rd Γ.2.2.1.1.heap) 0 0 [(0, .ref (a 0)), (1, .int x1)] 26 [.int m6] := by
    intro m6 em6
    rewrite [em6]; clear em6
    exact z_zret_S hQ rfl (by (repeat' (first | with_reducible exact nz0 | with_reducible exact nz1 | with_reducible assumption | split | refine nb_oc ?_ (fun _ => ?_)))) hv dX5_hasElement_26
  refine z_if_lt (tgt := 25) dX5_hasElement_1 (by decide) (fun c1 => ?_) (fun c1 => ?_)
  · skip
    refine z_iconst (v := 0) dX5_hasElement_25 rfl ?_
    exact z_lv rfl (J7 _ (if_pos c1).symm)
  · skip
    refine z_iload_n dX5_hasElement_4 rfl ?_
    refine z_aload_n dX5_hasElement_5 rfl ?_
    refine z_get (v := .int (S.1 2)) hI 0 rfl rfl uin_X5 2 (Nat.le_of_ble_eq_true rfl) tw_f_RX5_19 rfl rfl dX5_hasElement_6 ?_
    have J8 : ∀ m5 : Int32, m5 = (if (S.1 2) ≤ x1 then 0 else (if 160 ≤ x1 then (0 : Int32) else 1)) → Z k_X5_hasElement G Γ (rd Γ.2.2.1.1.heap) 0 0 [(0, .ref (a 0)), (1, .int x1)] 26 [.int m5] := by
      intro m5 em5
      rewrite [em5]; clear em5
      exact z_lv rfl (J7 _ (if_neg c1).symm)
    refine z_icmp_ge (tgt := 25) dX5_hasElement_9 (by decide) (fun c2 => ?_) (fun c2 => ?_)
    · skip
      refine z_iconst (v := 0) dX5_hasElement_25 rfl ?_
      exact z_lv rfl (J8 _ (if_pos c2).symm)
    · skip
      refine z_iload_n dX5_hasElement_12 rfl ?_
      refine z_aload_n dX5_hasElement_13 rfl ?_
      refine z_get (v := .ref (a 1)) hI 0 rfl rfl uin_X5 0 (Nat.le_of_ble_eq_true rfl) tw_f_RX5_9 rfl rfl dX5_hasElement_14 ?_
      refine z_alen (cA := G.2.2.1 0) (v := 160) 1 (fun _ => rfl) hI 1 rfl rfl dX5_hasElement_17 ?_
      have J9 : ∀ m4 : Int32, m4 = (if 160 ≤ x1 then (0 : Int32) else 1) → Z k_X5_hasElement G Γ (rd Γ.2.2.1.1.heap) 0 0 [(0, .ref (a 0)), (1, .int x1)] 26 [.int m4] := by
        intro m4 em4
        rewrite [em4]; clear em4
        exact z_lv rfl (J8 _ (if_neg c2).symm)
      refine z_icmp_ge (tgt := 25) dX5_hasElement_18 (by decide) (fun c3 => ?_) (fun c3 => ?_)
      · skip
        refine z_iconst (v := 0) dX5_hasElement_25 rfl ?_
        exact z_lv rfl (J9 _ (if_pos c3).symm)
      · skip
        refine z_iconst (v := 1) dX5_hasElement_21 rfl ?_
        refine z_goto (tgt := 26) dX5_hasElement_22 (by decide) ?_
        exact z_lv rfl (J9 _ (if_neg c3).symm)
theorem dX5_spans_0 : decode cX5_spans 0 = .ok (.iload_n 1, 1) := by decide +kernel
theorem dX5_spans_1 : decode cX5_spans 1 = .ok (.ifCond .lt 26, 3) := by decide +kernel
theorem dX5_spans_4 : decode cX5_spans 4 = .ok (.lload_n 2, 1) := by decide +kernel
theorem dX5_spans_5 : decode cX5_spans 5 = .ok (.lconst 0, 1) := by decide +kernel
theorem dX5_spans_6 : decode cX5_spans 6 = .ok (.lcmp, 1) := by decide +kernel
theorem dX5_spans_7 : decode cX5_spans 7 = .ok (.ifCond .lt 20, 3) := by decide +kernel
theorem dX5_spans_10 : decode cX5_spans 10 = .ok (.iload_n 1, 1) := by decide +kernel
theorem dX5_spans_11 : decode cX5_spans 11 = .ok (.i2l, 1) := by decide +kernel
theorem dX5_spans_12 : decode cX5_spans 12 = .ok (.lload_n 2, 1) := by decide +kernel
theorem dX5_spans_13 : decode cX5_spans 13 = .ok (.ladd, 1) := by decide +kernel
theorem dX5_spans_14 : decode cX5_spans 14 = .ok (.aload_n 0, 1) := by decide +kernel
theorem dX5_spans_15 : decode cX5_spans 15 = .ok (.getfield 19, 3) := by decide +kernel
theorem dX5_spans_18 : decode cX5_spans 18 = .ok (.i2l, 1) := by decide +kernel
theorem dX5_spans_19 : decode cX5_spans 19 = .ok (.lcmp, 1) := by decide +kernel
theorem dX5_spans_20 : decode cX5_spans 20 = .ok (.ifCond .gt 7, 3) := by decide +kernel
theorem dX5_spans_23 : decode cX5_spans 23 = .ok (.iconst 1, 1) := by decide +kernel
theorem dX5_spans_24 : decode cX5_spans 24 = .ok (.goto 4, 3) := by decide +kernel
theorem dX5_spans_27 : decode cX5_spans 27 = .ok (.iconst 0, 1) := by decide +kernel
theorem dX5_spans_28 : decode cX5_spans 28 = .ok (.ireturn, 1) := by decide +kernel
abbrev k_X5_spans : zK := (cX5_spans, 4, RX5, (some .boolean), ({ frames := 0, cells := 0, slots := 0, locals := 0 } : Room))
theorem zc_X5_spans : zcal yX5_spans k_X5_spans.1 k_X5_spans.2.1 k_X5_spans.2.2.2.1 2 := ⟨tw_code_yX5_spans, tw_i_TollForHesitators_Shelf, ⟨by decide +kernel, by decide +kernel⟩, by decide +kernel⟩
theorem zv_X5_spans : Cond.instanceMethod yX5_spans ∈ TS ∧ Cond.selects RX5 yX5_spans yX5_spans ∈ TS := ⟨tw_inst_yX5_spans, tw_s_yX5_spans⟩
def v_X5_spans (S : sT) (x1 : Int32) (x2 : Int64) : Int32 := (if x1 < 0 then 0 else (if (lg_cmp x2 0) < 0 then 0 else (if 0 < (lg_cmp (x1.toInt64 + x2) ((S.1 2).toInt64)) then (0 : Int32) else 1)))
theorem nb_X5_spans (S : sT) (x1 : Int32) (x2 : Int64) : narrow .boolean (.int (v_X5_spans S x1 x2)) = .int (v_X5_spans S x1 x2) := by
  unfold v_X5_spans
  skip
  (repeat' (first | with_reducible exact nz0 | with_reducible exact nz1 | with_reducible assumption | split | refine nb_oc ?_ (fun _ => ?_)))
set_option maxHeartbeats 4000000 in
theorem c_X5_spans {l : Launch} (G : zG) (P : pT) (a : Nat → Nat) (S : sT) (x1 : Int32) (x2 : Int64) : Met l yX5_spans (.code yX5_spans k_X5_spans.1 k_X5_spans.2.1 k_X5_spans.2.2.2.1 :: TS) k_X5_spans.2.2.2.2 (Pz G [.ref (a 0), .int x1, .long x2] (Fr G P (shW G a S))) (vp_Si (fun r => r = v_X5_spans S x1 x2)) 0 0 (fun _ => False) := by
  refine zmet (K := k_X5_spans) (by decide +kernel) rfl rfl (fun Γ hl0 hQ hN hF => ?_)
  have hI := rd_P (G := G) hF.1
  have hG := rd_F hF.2
  obtain ⟨res, hv⟩ : ∃ res, v_X5_spans S x1 x2 = res := ⟨_, rfl⟩
  rw [hv] at hQ
  unfold v_X5_spans at hv
  show Z k_X5_spans G Γ _ 0 0 [(0, .ref (a 0)), (1, .int x1), (2, .long x2)] 0 []
  refine z_iload_n dX5_spans_0 rfl ?_
  have J7 : ∀ m6 : Int32, m6 = (if x1 < 0 then 0 else (if (lg_cmp x2 0) < 0 then 0 else (if 0 < (lg_cmp (x1.toInt64 + x2) ((S.1 2).toInt64)) then (0 : Int32) else 1))) → Z k_X5_spans G Γ (rd Γ.2.2.1.1.heap) 0 0 [(0, .ref (a 0)), (1, .int x1), (2, .long x2)] 28 [.int m6] := by
    intro m6 em6
    rewrite [em6]; clear em6
    exact z_zret_S hQ rfl (by (repeat' (first | with_reducible exact nz0 | with_reducible exact nz1 | with_reducible assumption | split | refine nb_oc ?_ (fun _ => ?_)))) hv dX5_spans_28
  refine z_if_lt (tgt := 27) dX5_spans_1 (by decide) (fun c1 => ?_) (fun c1 => ?_)
  · skip
    refine z_iconst (v := 0) dX5_spans_27 rfl ?_
    exact z_lv rfl (J7 _ (if_pos c1).symm)
  · skip
    refine z_lload_n dX5_spans_4 rfl ?_
    refine z_lconst (v := 0) dX5_spans_5 rfl ?_
    refine z_lcmp dX5_spans_6 ?_
    have J8 : ∀ m5 : Int32, m5 = (if (lg_cmp x2 0) < 0 then 0 else (if 0 < (lg_cmp (x1.toInt64 + x2) ((S.1 2).toInt64)) then (0 : Int32) else 1)) → Z k_X5_spans G Γ (rd Γ.2.2.1.1.heap) 0 0 [(0, .ref (a 0)), (1, .int x1), (2, .long x2)] 28 [.int m5] := by
      intro m5 em5
      rewrite [em5]; clear em5
      exact z_lv rfl (J7 _ (if_neg c1).symm)
    refine z_if_lt (tgt := 27) dX5_spans_7 (by decide) (fun c2 => ?_) (fun c2 => ?_)
    · skip
      refine z_iconst (v := 0) dX5_spans_27 rfl ?_
      exact z_lv rfl (J8 _ (if_pos c2).symm)
    · skip
      refine z_iload_n dX5_spans_10 rfl ?_
      refine z_i2l dX5_spans_11 ?_
      refine z_lload_n dX5_spans_12 rfl ?_
      refine z_ladd dX5_spans_13 ?_
      refine z_aload_n dX5_spans_14 rfl ?_
      refine z_get (v := .int (S.1 2)) hI 0 rfl rfl uin_X5 2 (Nat.le_of_ble_eq_true rfl) tw_f_RX5_19 rfl rfl dX5_spans_15 ?_
      refine z_i2l dX5_spans_18 ?_
      refine z_lcmp dX5_spans_19 ?_
      have J9 : ∀ m4 : Int32, m4 = (if 0 < (lg_cmp (x1.toInt64 + x2) ((S.1 2).toInt64)) then (0 : Int32) else 1) → Z k_X5_spans G Γ (rd Γ.2.2.1.1.heap) 0 0 [(0, .ref (a 0)), (1, .int x1), (2, .long x2)] 28 [.int m4] := by
        intro m4 em4
        rewrite [em4]; clear em4
        exact z_lv rfl (J8 _ (if_neg c2).symm)
      refine z_if_gt (tgt := 27) dX5_spans_20 (by decide) (fun c3 => ?_) (fun c3 => ?_)
      · skip
        refine z_iconst (v := 0) dX5_spans_27 rfl ?_
        exact z_lv rfl (J9 _ (if_pos c3).symm)
      · skip
        refine z_iconst (v := 1) dX5_spans_23 rfl ?_
        refine z_goto (tgt := 28) dX5_spans_24 (by decide) ?_
        exact z_lv rfl (J9 _ (if_neg c3).symm)
theorem dX5_longAt_0 : decode cX5_longAt 0 = .ok (.iload_n 1, 1) := by decide +kernel
theorem dX5_longAt_1 : decode cX5_longAt 1 = .ok (.ifCond .lt 20, 3) := by decide +kernel
theorem dX5_longAt_4 : decode cX5_longAt 4 = .ok (.iload_n 1, 1) := by decide +kernel
theorem dX5_longAt_5 : decode cX5_longAt 5 = .ok (.aload_n 0, 1) := by decide +kernel
theorem dX5_longAt_6 : decode cX5_longAt 6 = .ok (.getfield 19, 3) := by decide +kernel
theorem dX5_longAt_9 : decode cX5_longAt 9 = .ok (.if_icmp .ge 12, 3) := by decide +kernel
theorem dX5_longAt_12 : decode cX5_longAt 12 = .ok (.iload_n 1, 1) := by decide +kernel
theorem dX5_longAt_13 : decode cX5_longAt 13 = .ok (.aload_n 0, 1) := by decide +kernel
theorem dX5_longAt_14 : decode cX5_longAt 14 = .ok (.getfield 9, 3) := by decide +kernel
theorem dX5_longAt_17 : decode cX5_longAt 17 = .ok (.arraylength, 1) := by decide +kernel
theorem dX5_longAt_18 : decode cX5_longAt 18 = .ok (.if_icmp .lt 7, 3) := by decide +kernel
theorem dX5_longAt_21 : decode cX5_longAt 21 = .ok (.lconst 0, 1) := by decide +kernel
theorem dX5_longAt_22 : decode cX5_longAt 22 = .ok (.goto 9, 3) := by decide +kernel
theorem dX5_longAt_25 : decode cX5_longAt 25 = .ok (.aload_n 0, 1) := by decide +kernel
theorem dX5_longAt_26 : decode cX5_longAt 26 = .ok (.getfield 9, 3) := by decide +kernel
theorem dX5_longAt_29 : decode cX5_longAt 29 = .ok (.iload_n 1, 1) := by decide +kernel
theorem dX5_longAt_30 : decode cX5_longAt 30 = .ok (.laload, 1) := by decide +kernel
theorem dX5_longAt_31 : decode cX5_longAt 31 = .ok (.lreturn, 1) := by decide +kernel
abbrev k_X5_longAt : zK := (cX5_longAt, 2, RX5, (some .long), ({ frames := 0, cells := 0, slots := 0, locals := 0 } : Room))
theorem zc_X5_longAt : zcal yX5_longAt k_X5_longAt.1 k_X5_longAt.2.1 k_X5_longAt.2.2.2.1 1 := ⟨tw_code_yX5_longAt, tw_i_TollForHesitators_Shelf, ⟨by decide +kernel, by decide +kernel⟩, by decide +kernel⟩
theorem zv_X5_longAt : Cond.instanceMethod yX5_longAt ∈ TS ∧ Cond.selects RX5 yX5_longAt yX5_longAt ∈ TS := ⟨tw_inst_yX5_longAt, tw_s_yX5_longAt⟩
def v_X5_longAt (S : sT) (x1 : Int32) : Int64 := kk (if x1 < 0 then 0 else (if (S.1 2) ≤ x1 then 0 else (if x1 < 160 then S.2 x1.toNatClampNeg else 0))) (fun m7 : Int64 => m7)
def p_X5_longAt (S : sT) (x1 : Int32) : Prop := if x1 < 0 then True else if (S.1 2) ≤ x1 then True else if x1 < 160 then vp_in x1 160 else True
set_option maxHeartbeats 4000000 in
theorem c_X5_longAt {l : Launch} (G : zG) (P : pT) (a : Nat → Nat) (S : sT) (x1 : Int32) (hp : p_X5_longAt S x1) : Met l yX5_longAt (.code yX5_longAt k_X5_longAt.1 k_X5_longAt.2.1 k_X5_longAt.2.2.2.1 :: TS) k_X5_longAt.2.2.2.2 (Pz G [.ref (a 0), .int x1] (Fr G P (shW G a S))) (vp_Sl (fun r => r = v_X5_longAt S x1)) 0 0 (fun _ => False) := by
  refine zmet (K := k_X5_longAt) (by decide +kernel) rfl rfl (fun Γ hl0 hQ hN hF => ?_)
  have hI := rd_P (G := G) hF.1
  have hG := rd_F hF.2
  obtain ⟨res, hv⟩ : ∃ res, v_X5_longAt S x1 = res := ⟨_, rfl⟩
  rw [hv] at hQ
  unfold v_X5_longAt at hv
  unfold p_X5_longAt at hp
  show Z k_X5_longAt G Γ _ 0 0 [(0, .ref (a 0)), (1, .int x1)] 0 []
  refine z_iload_n dX5_longAt_0 rfl ?_
  have hpm := hp
  have J8 : ∀ m7 : Int64, m7 = (if x1 < 0 then 0 else (if (S.1 2) ≤ x1 then 0 else (if x1 < 160 then S.2 x1.toNatClampNeg else 0))) → Z k_X5_longAt G Γ (rd Γ.2.2.1.1.heap) 0 0 [(0, .ref (a 0)), (1, .int x1)] 31 [.long m7] := by
    intro m7 em7
    have hv := kk_vq hv em7
    clear em7
    exact z_lret_S hQ rfl hv dX5_longAt_31
  refine z_if_lt (tgt := 21) dX5_longAt_1 (by decide) (fun c1 => ?_) (fun c1 => ?_)
  · have hp := ip_t hpm c1
    refine z_lconst (v := 0) dX5_longAt_21 rfl ?_
    refine z_goto (tgt := 31) dX5_longAt_22 (by decide) ?_
    exact z_lv rfl (J8 _ (if_pos c1).symm)
  · have hp := ip_f hpm c1
    refine z_iload_n dX5_longAt_4 rfl ?_
    refine z_aload_n dX5_longAt_5 rfl ?_
    refine z_get (v := .int (S.1 2)) hI 0 rfl rfl uin_X5 2 (Nat.le_of_ble_eq_true rfl) tw_f_RX5_19 rfl rfl dX5_longAt_6 ?_
    have hpm := hp
    have J9 : ∀ m6 : Int64, m6 = (if (S.1 2) ≤ x1 then 0 else (if x1 < 160 then S.2 x1.toNatClampNeg else 0)) → Z k_X5_longAt G Γ (rd Γ.2.2.1.1.heap) 0 0 [(0, .ref (a 0)), (1, .int x1)] 31 [.long m6] := by
      intro m6 em6
      rewrite [em6]; clear em6
      exact z_lv rfl (J8 _ (if_neg c1).symm)
    refine z_icmp_ge (tgt := 21) dX5_longAt_9 (by decide) (fun c2 => ?_) (fun c2 => ?_)
    · have hp := ip_t hpm c2
      refine z_lconst (v := 0) dX5_longAt_21 rfl ?_
      refine z_goto (tgt := 31) dX5_longAt_22 (by decide) ?_
      exact z_lv rfl (J9 _ (if_pos c2).symm)
    · have hp := ip_f hpm c2
      refine z_iload_n dX5_longAt_12 rfl ?_
      refine z_aload_n dX5_longAt_13 rfl ?_
      refine z_get (v := .ref (a 1)) hI 0 rfl rfl uin_X5 0 (Nat.le_of_ble_eq_true rfl) tw_f_RX5_9 rfl rfl dX5_longAt_14 ?_
      refine z_alen (cA := G.2.2.1 0) (v := 160) 1 (fun _ => rfl) hI 1 rfl rfl dX5_longAt_17 ?_
      have hpm := hp
      have J10 : ∀ m5 : Int64, m5 = (if x1 < 160 then S.2 x1.toNatClampNeg else 0) → Z k_X5_longAt G Γ (rd Γ.2.2.1.1.heap) 0 0 [(0, .ref (a 0)), (1, .int x1)] 31 [.long m5] := by
        intro m5 em5
        rewrite [em5]; clear em5
        exact z_lv rfl (J9 _ (if_neg c2).symm)
      refine z_icmp_lt (tgt := 25) dX5_longAt_18 (by decide) (fun c3 => ?_) (fun c3 => ?_)
      · have hp := ip_t hpm c3
        refine z_aload_n dX5_longAt_25 rfl ?_
        refine z_get (v := .ref (a 1)) hI 0 rfl rfl uin_X5 0 (Nat.le_of_ble_eq_true rfl) tw_f_RX5_9 rfl rfl dX5_longAt_26 ?_
        refine z_iload_n dX5_longAt_29 rfl ?_
        have q4 := hp
        refine z_laldx (x := S.2 x1.toNatClampNeg) hI 1 rfl q4 rfl dX5_longAt_30 ?_
        exact z_lv rfl (J10 _ (if_pos c3).symm)
      · have hp := ip_f hpm c3
        refine z_lconst (v := 0) dX5_longAt_21 rfl ?_
        refine z_goto (tgt := 31) dX5_longAt_22 (by decide) ?_
        exact z_lv rfl (J10 _ (if_neg c3).symm)
theorem dX5_intAt_0 : decode cX5_intAt 0 = .ok (.aload_n 0, 1) := by decide +kernel
theorem dX5_intAt_1 : decode cX5_intAt 1 = .ok (.iload_n 1, 1) := by decide +kernel
theorem dX5_intAt_2 : decode cX5_intAt 2 = .ok (.invokevirtual 35, 3) := by decide +kernel
theorem dX5_intAt_5 : decode cX5_intAt 5 = .ok (.l2i, 1) := by decide +kernel
theorem dX5_intAt_6 : decode cX5_intAt 6 = .ok (.ireturn, 1) := by decide +kernel
abbrev k_X5_intAt : zK := (cX5_intAt, 2, RX5, (some .int), ({ frames := 1, cells := 0, slots := 0, locals := 21 } : Room))
theorem zc_X5_intAt : zcal yX5_intAt k_X5_intAt.1 k_X5_intAt.2.1 k_X5_intAt.2.2.2.1 1 := ⟨tw_code_yX5_intAt, tw_i_TollForHesitators_Shelf, ⟨by decide +kernel, by decide +kernel⟩, by decide +kernel⟩
theorem zv_X5_intAt : Cond.instanceMethod yX5_intAt ∈ TS ∧ Cond.selects RX5 yX5_intAt yX5_intAt ∈ TS := ⟨tw_inst_yX5_intAt, tw_s_yX5_intAt⟩
def v_X5_intAt (S : sT) (x1 : Int32) : Int32 := (v_X5_longAt S x1).toInt32
def p_X5_intAt (S : sT) (x1 : Int32) : Prop := p_X5_longAt S x1
set_option maxHeartbeats 4000000 in
theorem c_X5_intAt {l : Launch} (G : zG) (P : pT) (a : Nat → Nat) (S : sT) (x1 : Int32) (hp : p_X5_intAt S x1) : Met l yX5_intAt (.code yX5_intAt k_X5_intAt.1 k_X5_intAt.2.1 k_X5_intAt.2.2.2.1 :: TS) k_X5_intAt.2.2.2.2 (Pz G [.ref (a 0), .int x1] (Fr G P (shW G a S))) (vp_Si (fun r => r = v_X5_intAt S x1)) 0 0 (fun _ => False) := by
  refine zmet (K := k_X5_intAt) (by decide +kernel) rfl rfl (fun Γ hl0 hQ hN hF => ?_)
  have hI := rd_P (G := G) hF.1
  have hG := rd_F hF.2
  obtain ⟨res, hv⟩ : ∃ res, v_X5_intAt S x1 = res := ⟨_, rfl⟩
  rw [hv] at hQ
  unfold v_X5_intAt at hv
  unfold p_X5_intAt at hp
  show Z k_X5_intAt G Γ _ 0 0 [(0, .ref (a 0)), (1, .int x1)] 0 []
  refine z_aload_n dX5_intAt_0 rfl ?_
  refine z_iload_n dX5_intAt_1 rfl ?_
  have q1 := hp
  refine z_cvl (c_X5_longAt G P a S x1 q1) zc_X5_longAt zv_X5_longAt tw_m_RX5_35 (zrec_of hI 0 rfl rfl) (fr_all hI hG) (zroom_of rfl) rfl (Nat.le_of_ble_eq_true rfl) dX5_intAt_2 ?_
  refine z_l2i dX5_intAt_5 ?_
  exact z_iret_S hQ rfl hv dX5_intAt_6
theorem dX5_hold_0 : decode cX5_hold 0 = .ok (.aload_n 0, 1) := by decide +kernel
theorem dX5_hold_1 : decode cX5_hold 1 = .ok (.iload_n 1, 1) := by decide +kernel
theorem dX5_hold_2 : decode cX5_hold 2 = .ok (.putfield 15, 3) := by decide +kernel
theorem dX5_hold_5 : decode cX5_hold 5 = .ok (.aload_n 0, 1) := by decide +kernel
theorem dX5_hold_6 : decode cX5_hold 6 = .ok (.iconst 0, 1) := by decide +kernel
theorem dX5_hold_7 : decode cX5_hold 7 = .ok (.putfield 19, 3) := by decide +kernel
theorem dX5_hold_10 : decode cX5_hold 10 = .ok (.return_, 1) := by decide +kernel
abbrev k_X5_hold : zK := (cX5_hold, 2, RX5, none, ({ frames := 0, cells := 0, slots := 0, locals := 0 } : Room))
theorem zc_X5_hold : zcal yX5_hold k_X5_hold.1 k_X5_hold.2.1 k_X5_hold.2.2.2.1 1 := ⟨tw_code_yX5_hold, tw_i_TollForHesitators_Shelf, ⟨by decide +kernel, by decide +kernel⟩, by decide +kernel⟩
theorem zv_X5_hold : Cond.instanceMethod yX5_hold ∈ TS ∧ Cond.selects RX5 yX5_hold yX5_hold ∈ TS := ⟨tw_inst_yX5_hold, tw_s_yX5_hold⟩
def v_X5_hold (S : sT) (x1 : Int32) : sT := ssf (ssf S 1 x1) 2 0
set_option maxHeartbeats 4000000 in
theorem c_X5_hold {l : Launch} (G : zG) (P : pT) (a : Nat → Nat) (sz : Nat) (S : sT) (x1 : Int32) : Met l yX5_hold (.code yX5_hold k_X5_hold.1 k_X5_hold.2.1 k_X5_hold.2.2.2.1 :: TS) k_X5_hold.2.2.2.2 (Pz G [.ref (a 0), .int x1] (Fw G (gX G P) (shW G a S) sz)) (Qwv G (fun w => w = shW G a (v_X5_hold S x1)) (va_A (shW G a S) sz)) 0 0 (va_A (shW G a S) sz) := by
  refine zmet (K := k_X5_hold) (by decide +kernel) rfl rfl (fun Γ hl0 hQ hN hF => ?_)
  refine z_start (gX_ok G P) hF (fun hw => ?_)
  generalize va_A (shW G a S) sz = A at hQ hw ⊢
  obtain ⟨res, hv⟩ : ∃ res, v_X5_hold S x1 = res := ⟨_, rfl⟩
  rw [hv] at hQ
  unfold v_X5_hold at hv
  show Z k_X5_hold G Γ _ 0 0 [(0, .ref (a 0)), (1, .int x1)] 0 []
  refine z_aload_n dX5_hold_0 rfl ?_
  refine z_iload_n dX5_hold_1 rfl ?_
  refine z_put (fs := shF a S) (v := .int x1) (ws' := shW G a (ssf S 1 x1)) 0 rfl rfl uin_X5 tyX5 tyX5_ok nmX5 1 (Nat.le_of_ble_eq_true rfl) tw_f_RX5_15 rfl rfl (ty := .int) rfl rfl rfl (Nat.le_of_ble_eq_true rfl) rfl dX5_hold_2 ?_
  refine z_aload_n dX5_hold_5 rfl ?_
  refine z_iconst (v := 0) dX5_hold_6 rfl ?_
  refine z_put (fs := shF a (ssf S 1 x1)) (v := .int 0) (ws' := shW G a (ssf (ssf S 1 x1) 2 0)) 0 rfl rfl uin_X5 tyX5 tyX5_ok nmX5 2 (Nat.le_of_ble_eq_true rfl) tw_f_RX5_19 rfl rfl (ty := .int) rfl rfl rfl (Nat.le_of_ble_eq_true rfl) rfl dX5_hold_7 ?_
  subst hv; exact z_vret_W hQ rfl rfl rfl rfl dX5_hold_10
theorem dX5_startRow_0 : decode cX5_startRow 0 = .ok (.aload_n 0, 1) := by decide +kernel
theorem dX5_startRow_1 : decode cX5_startRow 1 = .ok (.bipush 100, 2) := by decide +kernel
theorem dX5_startRow_3 : decode cX5_startRow 3 = .ok (.iload_n 1, 1) := by decide +kernel
theorem dX5_startRow_4 : decode cX5_startRow 4 = .ok (.iadd, 1) := by decide +kernel
theorem dX5_startRow_5 : decode cX5_startRow 5 = .ok (.putfield 15, 3) := by decide +kernel
theorem dX5_startRow_8 : decode cX5_startRow 8 = .ok (.aload_n 0, 1) := by decide +kernel
theorem dX5_startRow_9 : decode cX5_startRow 9 = .ok (.iconst 0, 1) := by decide +kernel
theorem dX5_startRow_10 : decode cX5_startRow 10 = .ok (.iload_n 2, 1) := by decide +kernel
theorem dX5_startRow_11 : decode cX5_startRow 11 = .ok (.sipush 160, 3) := by decide +kernel
theorem dX5_startRow_14 : decode cX5_startRow 14 = .ok (.invokestatic 22, 3) := by decide +kernel
theorem dX5_startRow_17 : decode cX5_startRow 17 = .ok (.invokestatic 28, 3) := by decide +kernel
theorem dX5_startRow_20 : decode cX5_startRow 20 = .ok (.putfield 19, 3) := by decide +kernel
theorem dX5_startRow_23 : decode cX5_startRow 23 = .ok (.iconst 0, 1) := by decide +kernel
theorem dX5_startRow_24 : decode cX5_startRow 24 = .ok (.istore_n 3, 1) := by decide +kernel
theorem dX5_startRow_25 : decode cX5_startRow 25 = .ok (.iload_n 3, 1) := by decide +kernel
theorem dX5_startRow_26 : decode cX5_startRow 26 = .ok (.aload_n 0, 1) := by decide +kernel
theorem dX5_startRow_27 : decode cX5_startRow 27 = .ok (.getfield 19, 3) := by decide +kernel
theorem dX5_startRow_30 : decode cX5_startRow 30 = .ok (.if_icmp .ge 16, 3) := by decide +kernel
theorem dX5_startRow_33 : decode cX5_startRow 33 = .ok (.aload_n 0, 1) := by decide +kernel
theorem dX5_startRow_34 : decode cX5_startRow 34 = .ok (.getfield 9, 3) := by decide +kernel
theorem dX5_startRow_37 : decode cX5_startRow 37 = .ok (.iload_n 3, 1) := by decide +kernel
theorem dX5_startRow_38 : decode cX5_startRow 38 = .ok (.lconst 0, 1) := by decide +kernel
theorem dX5_startRow_39 : decode cX5_startRow 39 = .ok (.lastore, 1) := by decide +kernel
theorem dX5_startRow_40 : decode cX5_startRow 40 = .ok (.iinc 3 1, 3) := by decide +kernel
theorem dX5_startRow_43 : decode cX5_startRow 43 = .ok (.goto (-18), 3) := by decide +kernel
theorem dX5_startRow_46 : decode cX5_startRow 46 = .ok (.return_, 1) := by decide +kernel
abbrev k_X5_startRow : zK := (cX5_startRow, 4, RX5, none, ({ frames := 1, cells := 0, slots := 0, locals := 17 } : Room))
theorem zc_X5_startRow : zcal yX5_startRow k_X5_startRow.1 k_X5_startRow.2.1 k_X5_startRow.2.2.2.1 2 := ⟨tw_code_yX5_startRow, tw_i_TollForHesitators_Shelf, ⟨by decide +kernel, by decide +kernel⟩, by decide +kernel⟩
theorem zv_X5_startRow : Cond.instanceMethod yX5_startRow ∈ TS ∧ Cond.selects RX5 yX5_startRow yX5_startRow ∈ TS := ⟨tw_inst_yX5_startRow, tw_s_yX5_startRow⟩
def v_X5_startRow_r : Nat → sT → Int32 → sT
  | 0, S, _ => S
  | n + 1, S, v3 => if (S.1 2) ≤ v3 then S else v_X5_startRow_r n (ssa S (vp_updL S.2 v3.toNatClampNeg 0)) (v3 + 1)
def p_X5_startRow_r : Nat → sT → Int32 → Prop
  | 0, _, _ => False
  | n + 1, S, v3 => if (S.1 2) ≤ v3 then True else vp_in v3 160 ∧ (p_X5_startRow_r n (ssa S (vp_updL S.2 v3.toNatClampNeg 0)) (v3 + 1))
def v_X5_startRow (S : sT) (x1 : Int32) (x2 : Int32) : sT := kk ((if 0 < (if 160 < x2 then 160 else x2) then (if 160 < x2 then 160 else x2) else 0)) (fun y1 : Int32 => v_X5_startRow_r 200 (ssf (ssf S 1 (100 + x1)) 2 y1) 0)
def p_X5_startRow (S : sT) (x1 : Int32) (x2 : Int32) : Prop := kk ((if 0 < (if 160 < x2 then 160 else x2) then (if 160 < x2 then 160 else x2) else 0)) (fun y1 : Int32 => p_X5_startRow_r 200 (ssf (ssf S 1 (100 + x1)) 2 y1) 0)
set_option maxHeartbeats 4000000 in
theorem w_X5_startRow {G : zG} {P : pT} {Γ : zT} {A : Nat → Prop} {res : sT} (a : Nat → Nat) (hw : wk (gX G P) A Γ.2.2.1.1.heap) (hQ : zQ Γ (Qwv G (fun w => w = shW G a (res)) A) 0 0 A) : ∀ n : Nat, (∀ (S : sT) (v3 : Int32), p_X5_startRow_r n S v3 → v_X5_startRow_r n S v3 = res → Z k_X5_startRow G Γ (wr G A Γ.2.2.1.1.heap (shW G a S)) 0 0 [(0, .ref (a 0)), (3, .int v3)] 25 []) := by
  intro n
  induction n with
  | zero => exact fun S v3 hp => absurd hp (by rw [p_X5_startRow_r]; exact not_false)
  | succ n ih =>
    intro S v3 hp hv
    rw [p_X5_startRow_r] at hp
    rw [v_X5_startRow_r] at hv
    refine z_iload_n dX5_startRow_25 rfl ?_
    refine z_aload_n dX5_startRow_26 rfl ?_
    refine z_get (v := .int (S.1 2)) wr_P 0 rfl rfl uin_X5 2 (Nat.le_of_ble_eq_true rfl) tw_f_RX5_19 rfl rfl dX5_startRow_27 ?_
    refine z_icmp_ge (tgt := 46) dX5_startRow_30 (by decide) (fun c2 => ?_) (fun c2 => ?_)
    · have hp := ip_t hp c2; have hv := it_t hv c2
      subst hv; exact z_vret_W hQ rfl rfl rfl rfl dX5_startRow_46
    · have hp := ip_f hp c2; have hv := it_f hv c2
      refine z_aload_n dX5_startRow_33 rfl ?_
      refine z_get (v := .ref (a 1)) wr_P 0 rfl rfl uin_X5 0 (Nat.le_of_ble_eq_true rfl) tw_f_RX5_9 rfl rfl dX5_startRow_34 ?_
      refine z_iload_n dX5_startRow_37 rfl ?_
      refine z_lconst (v := 0) dX5_startRow_38 rfl ?_
      obtain ⟨q4, hp⟩ := hp
      refine z_lastx (F := vp_updL S.2 v3.toNatClampNeg 0) (ws' := shW G a (ssa S (vp_updL S.2 v3.toNatClampNeg 0))) 1 rfl q4 rfl rfl dX5_startRow_39 ?_
      refine z_iinc (v := v3 + 1) (lv' := [(3, .int (v3 + 1)), (0, .ref (a 0))]) dX5_startRow_40 1 rfl rfl (Nat.le_of_ble_eq_true rfl) rfl ?_
      refine z_goto (tgt := 25) dX5_startRow_43 (by decide) ?_
      exact z_lv rfl ((ih) (ssa S (vp_updL S.2 v3.toNatClampNeg 0)) (v3 + 1) hp hv)
set_option maxHeartbeats 4000000 in
theorem c_X5_startRow {l : Launch} (G : zG) (P : pT) (a : Nat → Nat) (sz : Nat) (S : sT) (x1 : Int32) (x2 : Int32) (hp : p_X5_startRow S x1 x2) : Met l yX5_startRow (.code yX5_startRow k_X5_startRow.1 k_X5_startRow.2.1 k_X5_startRow.2.2.2.1 :: TS) k_X5_startRow.2.2.2.2 (Pz G [.ref (a 0), .int x1, .int x2] (Fw G (gX G P) (shW G a S) sz)) (Qwv G (fun w => w = shW G a (v_X5_startRow S x1 x2)) (va_A (shW G a S) sz)) 0 0 (va_A (shW G a S) sz) := by
  refine zmet (K := k_X5_startRow) (by decide +kernel) rfl rfl (fun Γ hl0 hQ hN hF => ?_)
  refine z_start (gX_ok G P) hF (fun hw => ?_)
  generalize va_A (shW G a S) sz = A at hQ hw ⊢
  obtain ⟨res, hv⟩ : ∃ res, v_X5_startRow S x1 x2 = res := ⟨_, rfl⟩
  rw [hv] at hQ
  unfold v_X5_startRow at hv
  unfold p_X5_startRow at hp
  show Z k_X5_startRow G Γ _ 0 0 [(0, .ref (a 0)), (1, .int x1), (2, .int x2)] 0 []
  refine z_aload_n dX5_startRow_0 rfl ?_
  refine z_bipush (v := 100) dX5_startRow_1 rfl ?_
  refine z_iload_n dX5_startRow_3 rfl ?_
  refine z_iadd dX5_startRow_4 ?_
  refine z_put (fs := shF a S) (v := .int (100 + x1)) (ws' := shW G a (ssf S 1 (100 + x1))) 0 rfl rfl uin_X5 tyX5 tyX5_ok nmX5 1 (Nat.le_of_ble_eq_true rfl) tw_f_RX5_15 rfl rfl (ty := .int) rfl rfl rfl (Nat.le_of_ble_eq_true rfl) rfl dX5_startRow_5 ?_
  refine z_aload_n dX5_startRow_8 rfl ?_
  refine z_iconst (v := 0) dX5_startRow_9 rfl ?_
  refine z_iload_n dX5_startRow_10 rfl ?_
  refine z_sipush (v := 160) dX5_startRow_11 rfl ?_
  refine z_min tw_m_RX5_22 tw_st_yJ9_min_7cf53 tw_i_java_lang_Math tw_code_yJ9_min_7cf53 ⟨Nat.le_of_ble_eq_true rfl, Nat.le_of_ble_eq_true rfl, Nat.le_of_ble_eq_true rfl, Nat.le_of_ble_eq_true rfl⟩ dX5_startRow_14 ?_
  refine z_max tw_m_RX5_28 tw_st_yJ9_max_7cf53 tw_i_java_lang_Math tw_code_yJ9_max_7cf53 ⟨Nat.le_of_ble_eq_true rfl, Nat.le_of_ble_eq_true rfl, Nat.le_of_ble_eq_true rfl, Nat.le_of_ble_eq_true rfl⟩ dX5_startRow_17 ?_
  suffices z5 : ∀ y1 : Int32, y1 = ((if 0 < (if 160 < x2 then 160 else x2) then (if 160 < x2 then 160 else x2) else 0)) → Z k_X5_startRow G Γ (wr G A Γ.2.2.1.1.heap (shW G a (ssf S 1 (100 + x1)))) 0 0 [(0, .ref (a 0)), (1, .int x1), (2, .int x2)] 20 [.int y1, .ref (a 0)] from z5 _ rfl
  intro y1 hy1
  have hp := kk_pq hp hy1
  have hv := kk_vq hv hy1
  clear hy1
  refine z_put (fs := shF a (ssf S 1 (100 + x1))) (v := .int y1) (ws' := shW G a (ssf (ssf S 1 (100 + x1)) 2 y1)) 0 rfl rfl uin_X5 tyX5 tyX5_ok nmX5 2 (Nat.le_of_ble_eq_true rfl) tw_f_RX5_19 rfl rfl (ty := .int) rfl rfl rfl (Nat.le_of_ble_eq_true rfl) rfl dX5_startRow_20 ?_
  refine z_iconst (v := 0) dX5_startRow_23 rfl ?_
  refine z_istore_n (lv' := [(3, .int 0), (0, .ref (a 0)), (1, .int x1), (2, .int x2)]) dX5_startRow_24 (Nat.le_of_ble_eq_true rfl) rfl ?_
  exact z_lv rfl ((w_X5_startRow a hw hQ 200) (ssf (ssf S 1 (100 + x1)) 2 y1) 0 hp hv)
theorem dX5_put_0 : decode cX5_put 0 = .ok (.aload_n 0, 1) := by decide +kernel
theorem dX5_put_1 : decode cX5_put 1 = .ok (.iload_n 1, 1) := by decide +kernel
theorem dX5_put_2 : decode cX5_put 2 = .ok (.invokevirtual 31, 3) := by decide +kernel
theorem dX5_put_5 : decode cX5_put 5 = .ok (.ifCond .ne 4, 3) := by decide +kernel
theorem dX5_put_8 : decode cX5_put 8 = .ok (.return_, 1) := by decide +kernel
theorem dX5_put_9 : decode cX5_put 9 = .ok (.aload_n 0, 1) := by decide +kernel
theorem dX5_put_10 : decode cX5_put 10 = .ok (.getfield 15, 3) := by decide +kernel
theorem dX5_put_13 : decode cX5_put 13 = .ok (.bipush 100, 2) := by decide +kernel
theorem dX5_put_15 : decode cX5_put 15 = .ok (.isub, 1) := by decide +kernel
theorem dX5_put_16 : decode cX5_put 16 = .ok (.tableswitch 66 0 2 #[28, 41, 54], 28) := by decide +kernel
theorem dX5_put_44 : decode cX5_put 44 = .ok (.aload_n 0, 1) := by decide +kernel
theorem dX5_put_45 : decode cX5_put 45 = .ok (.getfield 9, 3) := by decide +kernel
theorem dX5_put_48 : decode cX5_put 48 = .ok (.iload_n 1, 1) := by decide +kernel
theorem dX5_put_49 : decode cX5_put 49 = .ok (.lload_n 2, 1) := by decide +kernel
theorem dX5_put_50 : decode cX5_put 50 = .ok (.l2i, 1) := by decide +kernel
theorem dX5_put_51 : decode cX5_put 51 = .ok (.i2b, 1) := by decide +kernel
theorem dX5_put_52 : decode cX5_put 52 = .ok (.i2l, 1) := by decide +kernel
theorem dX5_put_53 : decode cX5_put 53 = .ok (.lastore, 1) := by decide +kernel
theorem dX5_put_54 : decode cX5_put 54 = .ok (.goto 35, 3) := by decide +kernel
theorem dX5_put_57 : decode cX5_put 57 = .ok (.aload_n 0, 1) := by decide +kernel
theorem dX5_put_58 : decode cX5_put 58 = .ok (.getfield 9, 3) := by decide +kernel
theorem dX5_put_61 : decode cX5_put 61 = .ok (.iload_n 1, 1) := by decide +kernel
theorem dX5_put_62 : decode cX5_put 62 = .ok (.lload_n 2, 1) := by decide +kernel
theorem dX5_put_63 : decode cX5_put 63 = .ok (.l2i, 1) := by decide +kernel
theorem dX5_put_64 : decode cX5_put 64 = .ok (.i2s, 1) := by decide +kernel
theorem dX5_put_65 : decode cX5_put 65 = .ok (.i2l, 1) := by decide +kernel
theorem dX5_put_66 : decode cX5_put 66 = .ok (.lastore, 1) := by decide +kernel
theorem dX5_put_67 : decode cX5_put 67 = .ok (.goto 22, 3) := by decide +kernel
theorem dX5_put_70 : decode cX5_put 70 = .ok (.aload_n 0, 1) := by decide +kernel
theorem dX5_put_71 : decode cX5_put 71 = .ok (.getfield 9, 3) := by decide +kernel
theorem dX5_put_74 : decode cX5_put 74 = .ok (.iload_n 1, 1) := by decide +kernel
theorem dX5_put_75 : decode cX5_put 75 = .ok (.lload_n 2, 1) := by decide +kernel
theorem dX5_put_76 : decode cX5_put 76 = .ok (.l2i, 1) := by decide +kernel
theorem dX5_put_77 : decode cX5_put 77 = .ok (.i2l, 1) := by decide +kernel
theorem dX5_put_78 : decode cX5_put 78 = .ok (.lastore, 1) := by decide +kernel
theorem dX5_put_79 : decode cX5_put 79 = .ok (.goto 10, 3) := by decide +kernel
theorem dX5_put_82 : decode cX5_put 82 = .ok (.aload_n 0, 1) := by decide +kernel
theorem dX5_put_83 : decode cX5_put 83 = .ok (.getfield 9, 3) := by decide +kernel
theorem dX5_put_86 : decode cX5_put 86 = .ok (.iload_n 1, 1) := by decide +kernel
theorem dX5_put_87 : decode cX5_put 87 = .ok (.lload_n 2, 1) := by decide +kernel
theorem dX5_put_88 : decode cX5_put 88 = .ok (.lastore, 1) := by decide +kernel
theorem dX5_put_89 : decode cX5_put 89 = .ok (.return_, 1) := by decide +kernel
abbrev k_X5_put : zK := (cX5_put, 4, RX5, none, ({ frames := 1, cells := 0, slots := 0, locals := 21 } : Room))
theorem zc_X5_put : zcal yX5_put k_X5_put.1 k_X5_put.2.1 k_X5_put.2.2.2.1 2 := ⟨tw_code_yX5_put, tw_i_TollForHesitators_Shelf, ⟨by decide +kernel, by decide +kernel⟩, by decide +kernel⟩
theorem zv_X5_put : Cond.instanceMethod yX5_put ∈ TS ∧ Cond.selects RX5 yX5_put yX5_put ∈ TS := ⟨tw_inst_yX5_put, tw_s_yX5_put⟩
def v_X5_put (S : sT) (x1 : Int32) (x2 : Int64) : sT := if (v_X5_hasElement S x1) = 0 then S else if ((S.1 1) - 100) = 0 then ssa S (vp_updL S.2 x1.toNatClampNeg x2.toInt32.toInt8.toInt32.toInt64) else if ((S.1 1) - 100) = 1 then ssa S (vp_updL S.2 x1.toNatClampNeg x2.toInt32.toInt16.toInt32.toInt64) else if ((S.1 1) - 100) = 2 then ssa S (vp_updL S.2 x1.toNatClampNeg x2.toInt32.toInt64) else ssa S (vp_updL S.2 x1.toNatClampNeg x2)
def p_X5_put (S : sT) (x1 : Int32) (x2 : Int64) : Prop := if (v_X5_hasElement S x1) = 0 then True else if ((S.1 1) - 100) = 0 then vp_in x1 160 else if ((S.1 1) - 100) = 1 then vp_in x1 160 else if ((S.1 1) - 100) = 2 then vp_in x1 160 else vp_in x1 160
set_option maxHeartbeats 4000000 in
theorem c_X5_put {l : Launch} (G : zG) (P : pT) (a : Nat → Nat) (sz : Nat) (S : sT) (x1 : Int32) (x2 : Int64) (hp : p_X5_put S x1 x2) : Met l yX5_put (.code yX5_put k_X5_put.1 k_X5_put.2.1 k_X5_put.2.2.2.1 :: TS) k_X5_put.2.2.2.2 (Pz G [.ref (a 0), .int x1, .long x2] (Fw G (gX G P) (shW G a S) sz)) (Qwv G (fun w => w = shW G a (v_X5_put S x1 x2)) (va_A (shW G a S) sz)) 0 0 (va_A (shW G a S) sz) := by
  refine zmet (K := k_X5_put) (by decide +kernel) rfl rfl (fun Γ hl0 hQ hN hF => ?_)
  refine z_start (gX_ok G P) hF (fun hw => ?_)
  generalize va_A (shW G a S) sz = A at hQ hw ⊢
  obtain ⟨res, hv⟩ : ∃ res, v_X5_put S x1 x2 = res := ⟨_, rfl⟩
  rw [hv] at hQ
  unfold v_X5_put at hv
  unfold p_X5_put at hp
  show Z k_X5_put G Γ _ 0 0 [(0, .ref (a 0)), (1, .int x1), (2, .long x2)] 0 []
  refine z_aload_n dX5_put_0 rfl ?_
  refine z_iload_n dX5_put_1 rfl ?_
  refine z_cvi (c_X5_hasElement G P a S x1 ) zc_X5_hasElement zv_X5_hasElement tw_m_RX5_31 (zrec_of wr_P 0 rfl rfl) (fr_all wr_P (wr_G hw)) (zroom_of rfl) rfl (Nat.le_of_ble_eq_true rfl) dX5_put_2 ?_
  refine z_if_ne (tgt := 9) dX5_put_5 (by decide) (fun c1 => ?_) (fun c1 => ?_)
  · have hp := ip_f hp c1; have hv := it_f hv c1
    refine z_aload_n dX5_put_9 rfl ?_
    refine z_get (v := .int (S.1 1)) wr_P 0 rfl rfl uin_X5 1 (Nat.le_of_ble_eq_true rfl) tw_f_RX5_15 rfl rfl dX5_put_10 ?_
    refine z_bipush (v := 100) dX5_put_13 rfl ?_
    refine z_isub dX5_put_15 ?_
    by_cases c3 : ((S.1 1) - 100) = 0
    · have hp := ip_t hp c3; have hv := it_t hv c3
      refine z_tableIn (tgt := 44) dX5_put_16 0 c3 (by decide) (by decide) rfl (by decide) ?_
      refine z_aload_n dX5_put_44 rfl ?_
      refine z_get (v := .ref (a 1)) wr_P 0 rfl rfl uin_X5 0 (Nat.le_of_ble_eq_true rfl) tw_f_RX5_9 rfl rfl dX5_put_45 ?_
      refine z_iload_n dX5_put_48 rfl ?_
      refine z_lload_n dX5_put_49 rfl ?_
      refine z_l2i dX5_put_50 ?_
      refine z_i2b dX5_put_51 ?_
      refine z_i2l dX5_put_52 ?_
      have q2 := hp
      refine z_lastx (F := vp_updL S.2 x1.toNatClampNeg x2.toInt32.toInt8.toInt32.toInt64) (ws' := shW G a (ssa S (vp_updL S.2 x1.toNatClampNeg x2.toInt32.toInt8.toInt32.toInt64))) 1 rfl q2 rfl rfl dX5_put_53 ?_
      refine z_goto (tgt := 89) dX5_put_54 (by decide) ?_
      subst hv; exact z_vret_W hQ rfl rfl rfl rfl dX5_put_89
    have hp := ip_f hp c3
    have hv := it_f hv c3
    by_cases c5 : ((S.1 1) - 100) = 1
    · have hp := ip_t hp c5; have hv := it_t hv c5
      refine z_tableIn (tgt := 57) dX5_put_16 1 c5 (by decide) (by decide) rfl (by decide) ?_
      refine z_aload_n dX5_put_57 rfl ?_
      refine z_get (v := .ref (a 1)) wr_P 0 rfl rfl uin_X5 0 (Nat.le_of_ble_eq_true rfl) tw_f_RX5_9 rfl rfl dX5_put_58 ?_
      refine z_iload_n dX5_put_61 rfl ?_
      refine z_lload_n dX5_put_62 rfl ?_
      refine z_l2i dX5_put_63 ?_
      refine z_i2s dX5_put_64 ?_
      refine z_i2l dX5_put_65 ?_
      have q4 := hp
      refine z_lastx (F := vp_updL S.2 x1.toNatClampNeg x2.toInt32.toInt16.toInt32.toInt64) (ws' := shW G a (ssa S (vp_updL S.2 x1.toNatClampNeg x2.toInt32.toInt16.toInt32.toInt64))) 1 rfl q4 rfl rfl dX5_put_66 ?_
      refine z_goto (tgt := 89) dX5_put_67 (by decide) ?_
      subst hv; exact z_vret_W hQ rfl rfl rfl rfl dX5_put_89
    have hp := ip_f hp c5
    have hv := it_f hv c5
    by_cases c7 : ((S.1 1) - 100) = 2
    · have hp := ip_t hp c7; have hv := it_t hv c7
      refine z_tableIn (tgt := 70) dX5_put_16 2 c7 (by decide) (by decide) rfl (by decide) ?_
      refine z_aload_n dX5_put_70 rfl ?_
      refine z_get (v := .ref (a 1)) wr_P 0 rfl rfl uin_X5 0 (Nat.le_of_ble_eq_true rfl) tw_f_RX5_9 rfl rfl dX5_put_71 ?_
      refine z_iload_n dX5_put_74 rfl ?_
      refine z_lload_n dX5_put_75 rfl ?_
      refine z_l2i dX5_put_76 ?_
      refine z_i2l dX5_put_77 ?_
      have q6 := hp
      refine z_lastx (F := vp_updL S.2 x1.toNatClampNeg x2.toInt32.toInt64) (ws' := shW G a (ssa S (vp_updL S.2 x1.toNatClampNeg x2.toInt32.toInt64))) 1 rfl q6 rfl rfl dX5_put_78 ?_
      refine z_goto (tgt := 89) dX5_put_79 (by decide) ?_
      subst hv; exact z_vret_W hQ rfl rfl rfl rfl dX5_put_89
    have hp := ip_f hp c7
    have hv := it_f hv c7
    refine z_tableOut (tgt := 82) dX5_put_16 (zout3_0 c3 c5 c7) (by decide) ?_
    refine z_aload_n dX5_put_82 rfl ?_
    refine z_get (v := .ref (a 1)) wr_P 0 rfl rfl uin_X5 0 (Nat.le_of_ble_eq_true rfl) tw_f_RX5_9 rfl rfl dX5_put_83 ?_
    refine z_iload_n dX5_put_86 rfl ?_
    refine z_lload_n dX5_put_87 rfl ?_
    have q8 := hp
    refine z_lastx (F := vp_updL S.2 x1.toNatClampNeg x2) (ws' := shW G a (ssa S (vp_updL S.2 x1.toNatClampNeg x2))) 1 rfl q8 rfl rfl dX5_put_88 ?_
    subst hv; exact z_vret_W hQ rfl rfl rfl rfl dX5_put_89
  · have hp := ip_t hp c1; have hv := it_t hv c1
    subst hv; exact z_vret_W hQ rfl rfl rfl rfl dX5_put_8
theorem dX4_at_0 : decode cX4_at 0 = .ok (.iload_n 1, 1) := by decide +kernel
theorem dX4_at_1 : decode cX4_at 1 = .ok (.ifCond .lt 20, 3) := by decide +kernel
theorem dX4_at_4 : decode cX4_at 4 = .ok (.iload_n 1, 1) := by decide +kernel
theorem dX4_at_5 : decode cX4_at 5 = .ok (.aload_n 0, 1) := by decide +kernel
theorem dX4_at_6 : decode cX4_at 6 = .ok (.getfield 27, 3) := by decide +kernel
theorem dX4_at_9 : decode cX4_at 9 = .ok (.if_icmp .ge 12, 3) := by decide +kernel
theorem dX4_at_12 : decode cX4_at 12 = .ok (.iload_n 1, 1) := by decide +kernel
theorem dX4_at_13 : decode cX4_at 13 = .ok (.aload_n 0, 1) := by decide +kernel
theorem dX4_at_14 : decode cX4_at 14 = .ok (.getfield 11, 3) := by decide +kernel
theorem dX4_at_17 : decode cX4_at 17 = .ok (.arraylength, 1) := by decide +kernel
theorem dX4_at_18 : decode cX4_at 18 = .ok (.if_icmp .lt 7, 3) := by decide +kernel
theorem dX4_at_21 : decode cX4_at 21 = .ok (.aconst_null, 1) := by decide +kernel
theorem dX4_at_22 : decode cX4_at 22 = .ok (.goto 9, 3) := by decide +kernel
theorem dX4_at_25 : decode cX4_at 25 = .ok (.aload_n 0, 1) := by decide +kernel
theorem dX4_at_26 : decode cX4_at 26 = .ok (.getfield 11, 3) := by decide +kernel
theorem dX4_at_29 : decode cX4_at 29 = .ok (.iload_n 1, 1) := by decide +kernel
theorem dX4_at_30 : decode cX4_at 30 = .ok (.aaload, 1) := by decide +kernel
theorem dX4_at_31 : decode cX4_at 31 = .ok (.areturn, 1) := by decide +kernel
abbrev k_X4_at : zK := (cX4_at, 2, RX4, (some (.object RX0)), ({ frames := 0, cells := 0, slots := 0, locals := 0 } : Room))
theorem zc_X4_at : zcal yX4_at k_X4_at.1 k_X4_at.2.1 k_X4_at.2.2.2.1 1 := ⟨tw_code_yX4_at, tw_i_TollForHesitators_Road, ⟨by decide +kernel, by decide +kernel⟩, by decide +kernel⟩
theorem zv_X4_at : Cond.instanceMethod yX4_at ∈ TS ∧ Cond.selects RX4 yX4_at yX4_at ∈ TS := ⟨tw_inst_yX4_at, tw_s_yX4_at⟩
def v_X4_at (R : rT) (x1 : Int32) : Option Nat := if x1 < 0 then none else if (R.1 4) ≤ x1 then none else if x1 < 7 then R.2.2 x1.toNatClampNeg else none
def p_X4_at (R : rT) (x1 : Int32) : Prop := if x1 < 0 then True else if (R.1 4) ≤ x1 then True else if x1 < 7 then vp_in x1 7 else True
set_option maxHeartbeats 4000000 in
theorem c_X4_at {l : Launch} (G : zG) (P : pT) (a : Nat → Nat) (R : rT) (x1 : Int32) (hp : p_X4_at R x1) : Met l yX4_at (.code yX4_at k_X4_at.1 k_X4_at.2.1 k_X4_at.2.2.2.1 :: TS) k_X4_at.2.2.2.2 (Pz G [.ref (a 0), .int x1] (Fr G P (rdW G a R))) (va_Sq (fun r => r = v_X4_at R x1)) 0 0 (fun _ => False) := by
  refine zmet (K := k_X4_at) (by decide +kernel) rfl rfl (fun Γ hl0 hQ hN hF => ?_)
  have hI := rd_P (G := G) hF.1
  have hG := rd_F hF.2
  obtain ⟨res, hv⟩ : ∃ res, v_X4_at R x1 = res := ⟨_, rfl⟩
  rw [hv] at hQ
  unfold v_X4_at at hv
  unfold p_X4_at at hp
  show Z k_X4_at G Γ _ 0 0 [(0, .ref (a 0)), (1, .int x1)] 0 []
  refine z_iload_n dX4_at_0 rfl ?_
  refine z_if_lt (tgt := 21) dX4_at_1 (by decide) (fun c1 => ?_) (fun c1 => ?_)
  · have hp := ip_t hp c1; have hv := it_t hv c1
    refine z_null dX4_at_21 ?_
    refine z_goto (tgt := 31) dX4_at_22 (by decide) ?_
    exact z_aret_S (r := none) hQ rfl (by subst hv; rfl) dX4_at_31
  · have hp := ip_f hp c1; have hv := it_f hv c1
    refine z_iload_n dX4_at_4 rfl ?_
    refine z_aload_n dX4_at_5 rfl ?_
    refine z_get (v := .int (R.1 4)) hI 0 rfl rfl uin_X4 4 (Nat.le_of_ble_eq_true rfl) tw_f_RX4_27 rfl rfl dX4_at_6 ?_
    refine z_icmp_ge (tgt := 21) dX4_at_9 (by decide) (fun c5 => ?_) (fun c5 => ?_)
    · have hp := ip_t hp c5; have hv := it_t hv c5
      refine z_null dX4_at_21 ?_
      refine z_goto (tgt := 31) dX4_at_22 (by decide) ?_
      exact z_aret_S (r := none) hQ rfl (by subst hv; rfl) dX4_at_31
    · have hp := ip_f hp c5; have hv := it_f hv c5
      refine z_iload_n dX4_at_12 rfl ?_
      refine z_aload_n dX4_at_13 rfl ?_
      refine z_get (v := .ref (a 1)) hI 0 rfl rfl uin_X4 0 (Nat.le_of_ble_eq_true rfl) tw_f_RX4_11 rfl rfl dX4_at_14 ?_
      refine z_alen (cA := G.2.2.1 0) (v := 7) 2 (fun _ => rfl) hI 1 rfl rfl dX4_at_17 ?_
      refine z_icmp_lt (tgt := 25) dX4_at_18 (by decide) (fun c8 => ?_) (fun c8 => ?_)
      · have hp := ip_t hp c8; have hv := it_t hv c8
        refine z_aload_n dX4_at_25 rfl ?_
        refine z_get (v := .ref (a 1)) hI 0 rfl rfl uin_X4 0 (Nat.le_of_ble_eq_true rfl) tw_f_RX4_11 rfl rfl dX4_at_26 ?_
        refine z_iload_n dX4_at_29 rfl ?_
        have q10 := hp
        refine z_aaldc (x := R.2.2 x1.toNatClampNeg) hI 1 rfl q10 rfl dX4_at_30 ?_
        exact z_aret_S hQ rfl hv dX4_at_31
      · have hp := ip_f hp c8; have hv := it_f hv c8
        refine z_null dX4_at_21 ?_
        refine z_goto (tgt := 31) dX4_at_22 (by decide) ?_
        exact z_aret_S (r := none) hQ rfl (by subst hv; rfl) dX4_at_31
theorem dX4_has_0 : decode cX4_has 0 = .ok (.aload_n 0, 1) := by decide +kernel
theorem dX4_has_1 : decode cX4_has 1 = .ok (.iload_n 1, 1) := by decide +kernel
theorem dX4_has_2 : decode cX4_has 2 = .ok (.invokevirtual 49, 3) := by decide +kernel
theorem dX4_has_5 : decode cX4_has 5 = .ok (.ifnull 7, 3) := by decide +kernel
theorem dX4_has_8 : decode cX4_has 8 = .ok (.iconst 1, 1) := by decide +kernel
theorem dX4_has_9 : decode cX4_has 9 = .ok (.goto 4, 3) := by decide +kernel
theorem dX4_has_12 : decode cX4_has 12 = .ok (.iconst 0, 1) := by decide +kernel
theorem dX4_has_13 : decode cX4_has 13 = .ok (.ireturn, 1) := by decide +kernel
abbrev k_X4_has : zK := (cX4_has, 2, RX4, (some .boolean), ({ frames := 1, cells := 0, slots := 0, locals := 21 } : Room))
theorem zc_X4_has : zcal yX4_has k_X4_has.1 k_X4_has.2.1 k_X4_has.2.2.2.1 1 := ⟨tw_code_yX4_has, tw_i_TollForHesitators_Road, ⟨by decide +kernel, by decide +kernel⟩, by decide +kernel⟩
theorem zv_X4_has : Cond.instanceMethod yX4_has ∈ TS ∧ Cond.selects RX4 yX4_has yX4_has ∈ TS := ⟨tw_inst_yX4_has, tw_s_yX4_has⟩
def v_X4_has (R : rT) (x1 : Int32) : Int32 := oc (v_X4_at R x1) (0) (fun r2 : Nat => 1)
def p_X4_has (R : rT) (x1 : Int32) : Prop := p_X4_at R x1
theorem nb_X4_has (R : rT) (x1 : Int32) : narrow .boolean (.int (v_X4_has R x1)) = .int (v_X4_has R x1) := by
  unfold v_X4_has
  skip
  (repeat' (first | with_reducible exact nz0 | with_reducible exact nz1 | with_reducible assumption | split | refine nb_oc ?_ (fun _ => ?_)))
set_option maxHeartbeats 4000000 in
theorem c_X4_has {l : Launch} (G : zG) (P : pT) (a : Nat → Nat) (R : rT) (x1 : Int32) (hp : p_X4_has R x1) : Met l yX4_has (.code yX4_has k_X4_has.1 k_X4_has.2.1 k_X4_has.2.2.2.1 :: TS) k_X4_has.2.2.2.2 (Pz G [.ref (a 0), .int x1] (Fr G P (rdW G a R))) (vp_Si (fun r => r = v_X4_has R x1)) 0 0 (fun _ => False) := by
  refine zmet (K := k_X4_has) (by decide +kernel) rfl rfl (fun Γ hl0 hQ hN hF => ?_)
  have hI := rd_P (G := G) hF.1
  have hG := rd_F hF.2
  obtain ⟨res, hv⟩ : ∃ res, v_X4_has R x1 = res := ⟨_, rfl⟩
  rw [hv] at hQ
  unfold v_X4_has at hv
  unfold p_X4_has at hp
  show Z k_X4_has G Γ _ 0 0 [(0, .ref (a 0)), (1, .int x1)] 0 []
  refine z_aload_n dX4_has_0 rfl ?_
  refine z_iload_n dX4_has_1 rfl ?_
  have q1 := hp
  refine z_cvq (c_X4_at G P a R x1 q1) zc_X4_at zv_X4_at tw_m_RX4_49 (zrec_of hI 0 rfl rfl) (fr_all hI hG) (zroom_of rfl) rfl (Nat.le_of_ble_eq_true rfl) dX4_has_2 ?_
  suffices z3 : ∀ r2 : Option Nat, r2 = (v_X4_at R x1) → Z k_X4_has G Γ (rd Γ.2.2.1.1.heap) 0 0 [(0, .ref (a 0)), (1, .int x1)] 5 [va_rf r2] from z3 _ rfl
  intro r2 hr2
  have hv := oc_vq hv hr2
  clear hr2
  rcases r2 with _ | r2
  · have hv := oc_n hv
    refine z_ifnullN (tgt := 12) dX4_has_5 (by decide) ?_
    refine z_iconst (v := 0) dX4_has_12 rfl ?_
    exact z_zret_S hQ rfl rfl hv dX4_has_13
  · have hv := oc_s hv
    refine z_ifnull dX4_has_5 ?_
    refine z_iconst (v := 1) dX4_has_8 rfl ?_
    refine z_goto (tgt := 13) dX4_has_9 (by decide) ?_
    exact z_zret_S hQ rfl rfl hv dX4_has_13
theorem dX4_isFull_0 : decode cX4_isFull 0 = .ok (.aload_n 0, 1) := by decide +kernel
theorem dX4_isFull_1 : decode cX4_isFull 1 = .ok (.getfield 27, 3) := by decide +kernel
theorem dX4_isFull_4 : decode cX4_isFull 4 = .ok (.bipush 7, 2) := by decide +kernel
theorem dX4_isFull_6 : decode cX4_isFull 6 = .ok (.if_icmp .lt 7, 3) := by decide +kernel
theorem dX4_isFull_9 : decode cX4_isFull 9 = .ok (.iconst 1, 1) := by decide +kernel
theorem dX4_isFull_10 : decode cX4_isFull 10 = .ok (.goto 4, 3) := by decide +kernel
theorem dX4_isFull_13 : decode cX4_isFull 13 = .ok (.iconst 0, 1) := by decide +kernel
theorem dX4_isFull_14 : decode cX4_isFull 14 = .ok (.ireturn, 1) := by decide +kernel
abbrev k_X4_isFull : zK := (cX4_isFull, 1, RX4, (some .boolean), ({ frames := 0, cells := 0, slots := 0, locals := 0 } : Room))
theorem zc_X4_isFull : zcal yX4_isFull k_X4_isFull.1 k_X4_isFull.2.1 k_X4_isFull.2.2.2.1 0 := ⟨tw_code_yX4_isFull, tw_i_TollForHesitators_Road, ⟨by decide +kernel, by decide +kernel⟩, by decide +kernel⟩
theorem zv_X4_isFull : Cond.instanceMethod yX4_isFull ∈ TS ∧ Cond.selects RX4 yX4_isFull yX4_isFull ∈ TS := ⟨tw_inst_yX4_isFull, tw_s_yX4_isFull⟩
def v_X4_isFull (R : rT) : Int32 := (if (R.1 4) < 7 then (0 : Int32) else 1)
theorem nb_X4_isFull (R : rT) : narrow .boolean (.int (v_X4_isFull R)) = .int (v_X4_isFull R) := by
  unfold v_X4_isFull
  skip
  (repeat' (first | with_reducible exact nz0 | with_reducible exact nz1 | with_reducible assumption | split | refine nb_oc ?_ (fun _ => ?_)))
set_option maxHeartbeats 4000000 in
theorem c_X4_isFull {l : Launch} (G : zG) (P : pT) (a : Nat → Nat) (R : rT) : Met l yX4_isFull (.code yX4_isFull k_X4_isFull.1 k_X4_isFull.2.1 k_X4_isFull.2.2.2.1 :: TS) k_X4_isFull.2.2.2.2 (Pz G [.ref (a 0)] (Fr G P (rdW G a R))) (vp_Si (fun r => r = v_X4_isFull R)) 0 0 (fun _ => False) := by
  refine zmet (K := k_X4_isFull) (by decide +kernel) rfl rfl (fun Γ hl0 hQ hN hF => ?_)
  have hI := rd_P (G := G) hF.1
  have hG := rd_F hF.2
  obtain ⟨res, hv⟩ : ∃ res, v_X4_isFull R = res := ⟨_, rfl⟩
  rw [hv] at hQ
  unfold v_X4_isFull at hv
  show Z k_X4_isFull G Γ _ 0 0 [(0, .ref (a 0))] 0 []
  refine z_aload_n dX4_isFull_0 rfl ?_
  refine z_get (v := .int (R.1 4)) hI 0 rfl rfl uin_X4 4 (Nat.le_of_ble_eq_true rfl) tw_f_RX4_27 rfl rfl dX4_isFull_1 ?_
  refine z_bipush (v := 7) dX4_isFull_4 rfl ?_
  have J3 : ∀ m2 : Int32, m2 = (if (R.1 4) < 7 then (0 : Int32) else 1) → Z k_X4_isFull G Γ (rd Γ.2.2.1.1.heap) 0 0 [(0, .ref (a 0))] 14 [.int m2] := by
    intro m2 em2
    rewrite [em2]; clear em2
    exact z_zret_S hQ rfl (by (repeat' (first | with_reducible exact nz0 | with_reducible exact nz1 | with_reducible assumption | split | refine nb_oc ?_ (fun _ => ?_)))) hv dX4_isFull_14
  refine z_icmp_lt (tgt := 13) dX4_isFull_6 (by decide) (fun c1 => ?_) (fun c1 => ?_)
  · skip
    refine z_iconst (v := 0) dX4_isFull_13 rfl ?_
    exact z_lv rfl (J3 _ (if_pos c1).symm)
  · skip
    refine z_iconst (v := 1) dX4_isFull_9 rfl ?_
    refine z_goto (tgt := 14) dX4_isFull_10 (by decide) ?_
    exact z_lv rfl (J3 _ (if_neg c1).symm)
theorem dX4_nerveOf_0 : decode cX4_nerveOf 0 = .ok (.aload_n 0, 1) := by decide +kernel
theorem dX4_nerveOf_1 : decode cX4_nerveOf 1 = .ok (.iload_n 1, 1) := by decide +kernel
theorem dX4_nerveOf_2 : decode cX4_nerveOf 2 = .ok (.invokevirtual 53, 3) := by decide +kernel
theorem dX4_nerveOf_5 : decode cX4_nerveOf 5 = .ok (.ifCond .eq 12, 3) := by decide +kernel
theorem dX4_nerveOf_8 : decode cX4_nerveOf 8 = .ok (.aload_n 0, 1) := by decide +kernel
theorem dX4_nerveOf_9 : decode cX4_nerveOf 9 = .ok (.getfield 17, 3) := by decide +kernel
theorem dX4_nerveOf_12 : decode cX4_nerveOf 12 = .ok (.iload_n 1, 1) := by decide +kernel
theorem dX4_nerveOf_13 : decode cX4_nerveOf 13 = .ok (.iaload, 1) := by decide +kernel
theorem dX4_nerveOf_14 : decode cX4_nerveOf 14 = .ok (.goto 4, 3) := by decide +kernel
theorem dX4_nerveOf_17 : decode cX4_nerveOf 17 = .ok (.iconst 0, 1) := by decide +kernel
theorem dX4_nerveOf_18 : decode cX4_nerveOf 18 = .ok (.ireturn, 1) := by decide +kernel
abbrev k_X4_nerveOf : zK := (cX4_nerveOf, 2, RX4, (some .int), ({ frames := 2, cells := 0, slots := 0, locals := 42 } : Room))
theorem zc_X4_nerveOf : zcal yX4_nerveOf k_X4_nerveOf.1 k_X4_nerveOf.2.1 k_X4_nerveOf.2.2.2.1 1 := ⟨tw_code_yX4_nerveOf, tw_i_TollForHesitators_Road, ⟨by decide +kernel, by decide +kernel⟩, by decide +kernel⟩
theorem zv_X4_nerveOf : Cond.instanceMethod yX4_nerveOf ∈ TS ∧ Cond.selects RX4 yX4_nerveOf yX4_nerveOf ∈ TS := ⟨tw_inst_yX4_nerveOf, tw_s_yX4_nerveOf⟩
def v_X4_nerveOf (R : rT) (x1 : Int32) : Int32 := (if (v_X4_has R x1) = 0 then 0 else (R.2.1 1) x1.toNatClampNeg)
def p_X4_nerveOf (R : rT) (x1 : Int32) : Prop := p_X4_has R x1 ∧ (if (v_X4_has R x1) = 0 then True else vp_in x1 7)
set_option maxHeartbeats 4000000 in
theorem c_X4_nerveOf {l : Launch} (G : zG) (P : pT) (a : Nat → Nat) (R : rT) (x1 : Int32) (hp : p_X4_nerveOf R x1) : Met l yX4_nerveOf (.code yX4_nerveOf k_X4_nerveOf.1 k_X4_nerveOf.2.1 k_X4_nerveOf.2.2.2.1 :: TS) k_X4_nerveOf.2.2.2.2 (Pz G [.ref (a 0), .int x1] (Fr G P (rdW G a R))) (vp_Si (fun r => r = v_X4_nerveOf R x1)) 0 0 (fun _ => False) := by
  refine zmet (K := k_X4_nerveOf) (by decide +kernel) rfl rfl (fun Γ hl0 hQ hN hF => ?_)
  have hI := rd_P (G := G) hF.1
  have hG := rd_F hF.2
  obtain ⟨res, hv⟩ : ∃ res, v_X4_nerveOf R x1 = res := ⟨_, rfl⟩
  rw [hv] at hQ
  unfold v_X4_nerveOf at hv
  unfold p_X4_nerveOf at hp
  show Z k_X4_nerveOf G Γ _ 0 0 [(0, .ref (a 0)), (1, .int x1)] 0 []
  refine z_aload_n dX4_nerveOf_0 rfl ?_
  refine z_iload_n dX4_nerveOf_1 rfl ?_
  obtain ⟨q1, hp⟩ := hp
  refine z_cvi (c_X4_has G P a R x1 q1) zc_X4_has zv_X4_has tw_m_RX4_53 (zrec_of hI 0 rfl rfl) (fr_all hI hG) (zroom_of rfl) rfl (Nat.le_of_ble_eq_true rfl) dX4_nerveOf_2 ?_
  have hpm := hp
  have J5 : ∀ m4 : Int32, m4 = (if (v_X4_has R x1) = 0 then 0 else (R.2.1 1) x1.toNatClampNeg) → Z k_X4_nerveOf G Γ (rd Γ.2.2.1.1.heap) 0 0 [(0, .ref (a 0)), (1, .int x1)] 18 [.int m4] := by
    intro m4 em4
    rewrite [em4]; clear em4
    exact z_iret_S hQ rfl hv dX4_nerveOf_18
  refine z_if_eq (tgt := 17) dX4_nerveOf_5 (by decide) (fun c2 => ?_) (fun c2 => ?_)
  · have hp := ip_t hpm c2
    refine z_iconst (v := 0) dX4_nerveOf_17 rfl ?_
    exact z_lv rfl (J5 _ (if_pos c2).symm)
  · have hp := ip_f hpm c2
    refine z_aload_n dX4_nerveOf_8 rfl ?_
    refine z_get (v := .ref (a 2)) hI 0 rfl rfl uin_X4 1 (Nat.le_of_ble_eq_true rfl) tw_f_RX4_17 rfl rfl dX4_nerveOf_9 ?_
    refine z_iload_n dX4_nerveOf_12 rfl ?_
    have q3 := hp
    refine z_ialdx (x := (R.2.1 1) x1.toNatClampNeg) hI 2 rfl q3 rfl dX4_nerveOf_13 ?_
    refine z_goto (tgt := 18) dX4_nerveOf_14 (by decide) ?_
    exact z_lv rfl (J5 _ (if_neg c2).symm)
theorem dX4_slowAt_0 : decode cX4_slowAt 0 = .ok (.aload_n 0, 1) := by decide +kernel
theorem dX4_slowAt_1 : decode cX4_slowAt 1 = .ok (.iload_n 1, 1) := by decide +kernel
theorem dX4_slowAt_2 : decode cX4_slowAt 2 = .ok (.invokevirtual 49, 3) := by decide +kernel
theorem dX4_slowAt_5 : decode cX4_slowAt 5 = .ok (.astore 7, 2) := by decide +kernel
theorem dX4_slowAt_7 : decode cX4_slowAt 7 = .ok (.aload 7, 2) := by decide +kernel
theorem dX4_slowAt_9 : decode cX4_slowAt 9 = .ok (.ifnonnull 5, 3) := by decide +kernel
theorem dX4_slowAt_12 : decode cX4_slowAt 12 = .ok (.iconst (-1), 1) := by decide +kernel
theorem dX4_slowAt_13 : decode cX4_slowAt 13 = .ok (.ireturn, 1) := by decide +kernel
theorem dX4_slowAt_14 : decode cX4_slowAt 14 = .ok (.aload 7, 2) := by decide +kernel
theorem dX4_slowAt_16 : decode cX4_slowAt 16 = .ok (.iload_n 3, 1) := by decide +kernel
theorem dX4_slowAt_17 : decode cX4_slowAt 17 = .ok (.iload 4, 2) := by decide +kernel
theorem dX4_slowAt_19 : decode cX4_slowAt 19 = .ok (.iload 5, 2) := by decide +kernel
theorem dX4_slowAt_21 : decode cX4_slowAt 21 = .ok (.invokevirtual 60, 3) := by decide +kernel
theorem dX4_slowAt_24 : decode cX4_slowAt 24 = .ok (.aload_n 0, 1) := by decide +kernel
theorem dX4_slowAt_25 : decode cX4_slowAt 25 = .ok (.getfield 24, 3) := by decide +kernel
theorem dX4_slowAt_28 : decode cX4_slowAt 28 = .ok (.iload_n 1, 1) := by decide +kernel
theorem dX4_slowAt_29 : decode cX4_slowAt 29 = .ok (.iaload, 1) := by decide +kernel
theorem dX4_slowAt_30 : decode cX4_slowAt 30 = .ok (.isub, 1) := by decide +kernel
theorem dX4_slowAt_31 : decode cX4_slowAt 31 = .ok (.iload 6, 2) := by decide +kernel
theorem dX4_slowAt_33 : decode cX4_slowAt 33 = .ok (.isub, 1) := by decide +kernel
theorem dX4_slowAt_34 : decode cX4_slowAt 34 = .ok (.aload 7, 2) := by decide +kernel
theorem dX4_slowAt_36 : decode cX4_slowAt 36 = .ok (.iload_n 2, 1) := by decide +kernel
theorem dX4_slowAt_37 : decode cX4_slowAt 37 = .ok (.invokevirtual 64, 3) := by decide +kernel
theorem dX4_slowAt_40 : decode cX4_slowAt 40 = .ok (.isub, 1) := by decide +kernel
theorem dX4_slowAt_41 : decode cX4_slowAt 41 = .ok (.istore 8, 2) := by decide +kernel
theorem dX4_slowAt_43 : decode cX4_slowAt 43 = .ok (.iload 8, 2) := by decide +kernel
theorem dX4_slowAt_45 : decode cX4_slowAt 45 = .ok (.ifCond .ge 5, 3) := by decide +kernel
theorem dX4_slowAt_48 : decode cX4_slowAt 48 = .ok (.iconst 1, 1) := by decide +kernel
theorem dX4_slowAt_49 : decode cX4_slowAt 49 = .ok (.ireturn, 1) := by decide +kernel
theorem dX4_slowAt_50 : decode cX4_slowAt 50 = .ok (.aload 7, 2) := by decide +kernel
theorem dX4_slowAt_52 : decode cX4_slowAt 52 = .ok (.invokevirtual 68, 3) := by decide +kernel
theorem dX4_slowAt_55 : decode cX4_slowAt 55 = .ok (.istore 9, 2) := by decide +kernel
theorem dX4_slowAt_57 : decode cX4_slowAt 57 = .ok (.iload 9, 2) := by decide +kernel
theorem dX4_slowAt_59 : decode cX4_slowAt 59 = .ok (.ifCond .gt 5, 3) := by decide +kernel
theorem dX4_slowAt_62 : decode cX4_slowAt 62 = .ok (.iconst (-1), 1) := by decide +kernel
theorem dX4_slowAt_63 : decode cX4_slowAt 63 = .ok (.ireturn, 1) := by decide +kernel
theorem dX4_slowAt_64 : decode cX4_slowAt 64 = .ok (.iload 8, 2) := by decide +kernel
theorem dX4_slowAt_66 : decode cX4_slowAt 66 = .ok (.iload 9, 2) := by decide +kernel
theorem dX4_slowAt_68 : decode cX4_slowAt 68 = .ok (.idiv, 1) := by decide +kernel
theorem dX4_slowAt_69 : decode cX4_slowAt 69 = .ok (.iconst 1, 1) := by decide +kernel
theorem dX4_slowAt_70 : decode cX4_slowAt 70 = .ok (.iadd, 1) := by decide +kernel
theorem dX4_slowAt_71 : decode cX4_slowAt 71 = .ok (.istore 10, 2) := by decide +kernel
theorem dX4_slowAt_73 : decode cX4_slowAt 73 = .ok (.iload 10, 2) := by decide +kernel
theorem dX4_slowAt_75 : decode cX4_slowAt 75 = .ok (.aload 7, 2) := by decide +kernel
theorem dX4_slowAt_77 : decode cX4_slowAt 77 = .ok (.aload_n 0, 1) := by decide +kernel
theorem dX4_slowAt_78 : decode cX4_slowAt 78 = .ok (.getfield 31, 3) := by decide +kernel
theorem dX4_slowAt_81 : decode cX4_slowAt 81 = .ok (.invokevirtual 72, 3) := by decide +kernel
theorem dX4_slowAt_84 : decode cX4_slowAt 84 = .ok (.if_icmp .gt 8, 3) := by decide +kernel
theorem dX4_slowAt_87 : decode cX4_slowAt 87 = .ok (.iload 10, 2) := by decide +kernel
theorem dX4_slowAt_89 : decode cX4_slowAt 89 = .ok (.goto 4, 3) := by decide +kernel
theorem dX4_slowAt_92 : decode cX4_slowAt 92 = .ok (.iconst (-1), 1) := by decide +kernel
theorem dX4_slowAt_93 : decode cX4_slowAt 93 = .ok (.ireturn, 1) := by decide +kernel
abbrev k_X4_slowAt : zK := (cX4_slowAt, 11, RX4, (some .int), ({ frames := 2, cells := 0, slots := 0, locals := 36 } : Room))
theorem zc_X4_slowAt : zcal yX4_slowAt k_X4_slowAt.1 k_X4_slowAt.2.1 k_X4_slowAt.2.2.2.1 6 := ⟨tw_code_yX4_slowAt, tw_i_TollForHesitators_Road, ⟨by decide +kernel, by decide +kernel⟩, by decide +kernel⟩
theorem zv_X4_slowAt : Cond.instanceMethod yX4_slowAt ∈ TS ∧ Cond.selects RX4 yX4_slowAt yX4_slowAt ∈ TS := ⟨tw_inst_yX4_slowAt, tw_s_yX4_slowAt⟩
def v_X4_slowAt (P : pT) (R : rT) (x1 : Int32) (x2 : Int32) (x3 : Int32) (x4 : Int32) (x5 : Int32) (x6 : Int32) : Int32 := oc (v_X4_at R x1) ((-1)) (fun r2 : Nat => kk ((((v_X0_courage (P.2 r2) x3 x4 x5) - ((R.2.1 3) x1.toNatClampNeg)) - x6) - (v_X0_burden (P.2 r2) x2)) (fun y5 : Int32 => if 0 ≤ y5 then if 0 < (v_X0_step (P.2 r2)) then (if (v_X0_looksOn (P.2 r2) (R.1 5)) < ((y5 / (v_X0_step (P.2 r2))) + 1) then (-1) else (y5 / (v_X0_step (P.2 r2))) + 1) else (-1) else 1))
def p_X4_slowAt (P : pT) (R : rT) (x1 : Int32) (x2 : Int32) (x3 : Int32) (x4 : Int32) (x5 : Int32) (x6 : Int32) : Prop := p_X4_at R x1 ∧ (oc (v_X4_at R x1) (True) (fun r2 : Nat => (r2 ∈ P.1) ∧ (vp_in x1 7 ∧ (kk ((((v_X0_courage (P.2 r2) x3 x4 x5) - ((R.2.1 3) x1.toNatClampNeg)) - x6) - (v_X0_burden (P.2 r2) x2)) (fun y5 : Int32 => if 0 ≤ y5 then (r2 ∈ P.1) ∧ (if 0 < (v_X0_step (P.2 r2)) then (¬ (v_X0_step (P.2 r2)) = 0) ∧ ((r2 ∈ P.1) ∧ (p_X0_looksOn (P.2 r2) (R.1 5))) else True) else True)))))
set_option maxHeartbeats 4000000 in
theorem c_X4_slowAt {l : Launch} (G : zG) (P : pT) (a : Nat → Nat) (R : rT) (x1 : Int32) (x2 : Int32) (x3 : Int32) (x4 : Int32) (x5 : Int32) (x6 : Int32) (hp : p_X4_slowAt P R x1 x2 x3 x4 x5 x6) : Met l yX4_slowAt (.code yX4_slowAt k_X4_slowAt.1 k_X4_slowAt.2.1 k_X4_slowAt.2.2.2.1 :: TS) k_X4_slowAt.2.2.2.2 (Pz G [.ref (a 0), .int x1, .int x2, .int x3, .int x4, .int x5, .int x6] (Fr G P (rdW G a R))) (vp_Si (fun r => r = v_X4_slowAt P R x1 x2 x3 x4 x5 x6)) 0 0 (fun _ => False) := by
  refine zmet (K := k_X4_slowAt) (by decide +kernel) rfl rfl (fun Γ hl0 hQ hN hF => ?_)
  have hI := rd_P (G := G) hF.1
  have hG := rd_F hF.2
  obtain ⟨res, hv⟩ : ∃ res, v_X4_slowAt P R x1 x2 x3 x4 x5 x6 = res := ⟨_, rfl⟩
  rw [hv] at hQ
  unfold v_X4_slowAt at hv
  unfold p_X4_slowAt at hp
  show Z k_X4_slowAt G Γ _ 0 0 [(0, .ref (a 0)), (1, .int x1), (2, .int x2), (3, .int x3), (4, .int x4), (5, .int x5), (6, .int x6)] 0 []
  refine z_aload_n dX4_slowAt_0 rfl ?_
  refine z_iload_n dX4_slowAt_1 rfl ?_
  obtain ⟨q1, hp⟩ := hp
  refine z_cvq (c_X4_at G P a R x1 q1) zc_X4_at zv_X4_at tw_m_RX4_49 (zrec_of hI 0 rfl rfl) (fr_all hI hG) (zroom_of rfl) rfl (Nat.le_of_ble_eq_true rfl) dX4_slowAt_2 ?_
  suffices z14 : ∀ r2 : Option Nat, r2 = (v_X4_at R x1) → Z k_X4_slowAt G Γ (rd Γ.2.2.1.1.heap) 0 0 [(0, .ref (a 0)), (1, .int x1), (2, .int x2), (3, .int x3), (4, .int x4), (5, .int x5), (6, .int x6)] 5 [va_rf r2] from z14 _ rfl
  intro r2 hr2
  have hp := oc_pq hp hr2
  have hv := oc_vq hv hr2
  clear hr2
  rcases r2 with _ | r2
  · have hp := oc_pn hp; have hv := oc_n hv
    refine z_astoreN (lv' := [(7, .null), (0, .ref (a 0)), (1, .int x1), (2, .int x2), (3, .int x3), (4, .int x4), (5, .int x5), (6, .int x6)]) dX4_slowAt_5 (Nat.le_of_ble_eq_true rfl) rfl ?_
    refine z_aloadN dX4_slowAt_7 rfl ?_
    refine z_ifnonnullN dX4_slowAt_9 ?_
    refine z_iconst (v := (-1)) dX4_slowAt_12 rfl ?_
    exact z_iret_S hQ rfl hv dX4_slowAt_13
  · have hp := oc_ps hp; have hv := oc_s hv
    refine z_astore (lv' := [(7, .ref r2), (0, .ref (a 0)), (1, .int x1), (2, .int x2), (3, .int x3), (4, .int x4), (5, .int x5), (6, .int x6)]) dX4_slowAt_5 (Nat.le_of_ble_eq_true rfl) rfl ?_
    refine z_aload dX4_slowAt_7 rfl ?_
    refine z_ifnonnull (tgt := 14) dX4_slowAt_9 (by decide) ?_
    refine z_aload dX4_slowAt_14 rfl ?_
    refine z_iload_n dX4_slowAt_16 rfl ?_
    refine z_iload dX4_slowAt_17 rfl ?_
    refine z_iload dX4_slowAt_19 rfl ?_
    obtain ⟨q3, hp⟩ := hp
    skip
    refine z_cvi (c_X0_courage G P r2 (P.2 r2) x3 x4 x5 ) zc_X0_courage zv_X0_courage tw_m_RX4_60 (zrec_of (cm_P hG q3) 0 rfl rfl) (fr_all (cm_P hG q3) hG) (zroom_of rfl) rfl (Nat.le_of_ble_eq_true rfl) dX4_slowAt_21 ?_
    refine z_aload_n dX4_slowAt_24 rfl ?_
    refine z_get (v := .ref (a 4)) hI 0 rfl rfl uin_X4 3 (Nat.le_of_ble_eq_true rfl) tw_f_RX4_24 rfl rfl dX4_slowAt_25 ?_
    refine z_iload_n dX4_slowAt_28 rfl ?_
    obtain ⟨q4, hp⟩ := hp
    refine z_ialdx (x := (R.2.1 3) x1.toNatClampNeg) hI 4 rfl q4 rfl dX4_slowAt_29 ?_
    refine z_isub dX4_slowAt_30 ?_
    refine z_iload dX4_slowAt_31 rfl ?_
    refine z_isub dX4_slowAt_33 ?_
    refine z_aload dX4_slowAt_34 rfl ?_
    refine z_iload_n dX4_slowAt_36 rfl ?_
    refine z_cvi (c_X0_burden G P r2 (P.2 r2) x2 ) zc_X0_burden zv_X0_burden tw_m_RX4_64 (zrec_of (cm_P hG q3) 0 rfl rfl) (fr_all (cm_P hG q3) hG) (zroom_of rfl) rfl (Nat.le_of_ble_eq_true rfl) dX4_slowAt_37 ?_
    refine z_isub dX4_slowAt_40 ?_
    suffices z15 : ∀ y5 : Int32, y5 = ((((v_X0_courage (P.2 r2) x3 x4 x5) - ((R.2.1 3) x1.toNatClampNeg)) - x6) - (v_X0_burden (P.2 r2) x2)) → Z k_X4_slowAt G Γ (rd Γ.2.2.1.1.heap) 0 0 [(7, .ref r2), (0, .ref (a 0)), (1, .int x1), (2, .int x2), (3, .int x3), (4, .int x4), (5, .int x5), (6, .int x6)] 41 [.int y5] from z15 _ rfl
    intro y5 hy5
    have hp := kk_pq hp hy5
    have hv := kk_vq hv hy5
    clear hy5
    refine z_istore (lv' := [(8, .int y5), (7, .ref r2), (0, .ref (a 0)), (1, .int x1), (2, .int x2), (3, .int x3), (4, .int x4), (5, .int x5), (6, .int x6)]) dX4_slowAt_41 (Nat.le_of_ble_eq_true rfl) rfl ?_
    refine z_iload dX4_slowAt_43 rfl ?_
    refine z_if_ge (tgt := 50) dX4_slowAt_45 (by decide) (fun c6 => ?_) (fun c6 => ?_)
    · have hp := ip_t hp c6; have hv := it_t hv c6
      refine z_aload dX4_slowAt_50 rfl ?_
      obtain ⟨q7, hp⟩ := hp
      skip
      refine z_cvi (c_X0_step G P r2 (P.2 r2) ) zc_X0_step zv_X0_step tw_m_RX4_68 (zrec_of (cm_P hG q7) 0 rfl rfl) (fr_all (cm_P hG q7) hG) (zroom_of rfl) rfl (Nat.le_of_ble_eq_true rfl) dX4_slowAt_52 ?_
      refine z_istore (lv' := [(9, .int (v_X0_step (P.2 r2))), (8, .int y5), (7, .ref r2), (0, .ref (a 0)), (1, .int x1), (2, .int x2), (3, .int x3), (4, .int x4), (5, .int x5), (6, .int x6)]) dX4_slowAt_55 (Nat.le_of_ble_eq_true rfl) rfl ?_
      refine z_iload dX4_slowAt_57 rfl ?_
      refine z_if_gt (tgt := 64) dX4_slowAt_59 (by decide) (fun c8 => ?_) (fun c8 => ?_)
      · have hp := ip_t hp c8; have hv := it_t hv c8
        refine z_iload dX4_slowAt_64 rfl ?_
        refine z_iload dX4_slowAt_66 rfl ?_
        obtain ⟨q9, hp⟩ := hp
        refine z_idiv dX4_slowAt_68 q9 ?_
        refine z_iconst (v := 1) dX4_slowAt_69 rfl ?_
        refine z_iadd dX4_slowAt_70 ?_
        refine z_istore (lv' := [(10, .int ((y5 / (v_X0_step (P.2 r2))) + 1)), (9, .int (v_X0_step (P.2 r2))), (8, .int y5), (7, .ref r2), (0, .ref (a 0)), (1, .int x1), (2, .int x2), (3, .int x3), (4, .int x4), (5, .int x5), (6, .int x6)]) dX4_slowAt_71 (Nat.le_of_ble_eq_true rfl) rfl ?_
        refine z_iload dX4_slowAt_73 rfl ?_
        refine z_aload dX4_slowAt_75 rfl ?_
        refine z_aload_n dX4_slowAt_77 rfl ?_
        refine z_get (v := .int (R.1 5)) hI 0 rfl rfl uin_X4 5 (Nat.le_of_ble_eq_true rfl) tw_f_RX4_31 rfl rfl dX4_slowAt_78 ?_
        obtain ⟨q11, hp⟩ := hp
        skip
        have q10 := hp
        refine z_cvi (c_X0_looksOn G P r2 (P.2 r2) (R.1 5) q10) zc_X0_looksOn zv_X0_looksOn tw_m_RX4_72 (zrec_of (cm_P hG q11) 0 rfl rfl) (fr_all (cm_P hG q11) hG) (zroom_of rfl) rfl (Nat.le_of_ble_eq_true rfl) dX4_slowAt_81 ?_
        have J16 : ∀ m13 : Int32, m13 = (if (v_X0_looksOn (P.2 r2) (R.1 5)) < ((y5 / (v_X0_step (P.2 r2))) + 1) then (-1) else (y5 / (v_X0_step (P.2 r2))) + 1) → Z k_X4_slowAt G Γ (rd Γ.2.2.1.1.heap) 0 0 [(10, .int ((y5 / (v_X0_step (P.2 r2))) + 1)), (9, .int (v_X0_step (P.2 r2))), (8, .int y5), (7, .ref r2), (0, .ref (a 0)), (1, .int x1), (2, .int x2), (3, .int x3), (4, .int x4), (5, .int x5), (6, .int x6)] 93 [.int m13] := by
          intro m13 em13
          rewrite [em13]; clear em13
          exact z_iret_S hQ rfl hv dX4_slowAt_93
        refine z_icmp_gt (tgt := 92) dX4_slowAt_84 (by decide) (fun c12 => ?_) (fun c12 => ?_)
        · skip
          refine z_iconst (v := (-1)) dX4_slowAt_92 rfl ?_
          exact z_lv rfl (J16 _ (if_pos c12).symm)
        · skip
          refine z_iload dX4_slowAt_87 rfl ?_
          refine z_goto (tgt := 93) dX4_slowAt_89 (by decide) ?_
          exact z_lv rfl (J16 _ (if_neg c12).symm)
      · have hp := ip_f hp c8; have hv := it_f hv c8
        refine z_iconst (v := (-1)) dX4_slowAt_62 rfl ?_
        exact z_iret_S hQ rfl hv dX4_slowAt_63
    · have hp := ip_f hp c6; have hv := it_f hv c6
      refine z_iconst (v := 1) dX4_slowAt_48 rfl ?_
      exact z_iret_S hQ rfl hv dX4_slowAt_49
theorem dX4_slowAlone_0 : decode cX4_slowAlone 0 = .ok (.aload_n 0, 1) := by decide +kernel
theorem dX4_slowAlone_1 : decode cX4_slowAlone 1 = .ok (.iload_n 1, 1) := by decide +kernel
theorem dX4_slowAlone_2 : decode cX4_slowAlone 2 = .ok (.iload_n 2, 1) := by decide +kernel
theorem dX4_slowAlone_3 : decode cX4_slowAlone 3 = .ok (.iload_n 3, 1) := by decide +kernel
theorem dX4_slowAlone_4 : decode cX4_slowAlone 4 = .ok (.iconst 0, 1) := by decide +kernel
theorem dX4_slowAlone_5 : decode cX4_slowAlone 5 = .ok (.iconst 0, 1) := by decide +kernel
theorem dX4_slowAlone_6 : decode cX4_slowAlone 6 = .ok (.iconst 0, 1) := by decide +kernel
theorem dX4_slowAlone_7 : decode cX4_slowAlone 7 = .ok (.invokevirtual 75, 3) := by decide +kernel
theorem dX4_slowAlone_10 : decode cX4_slowAlone 10 = .ok (.ireturn, 1) := by decide +kernel
abbrev k_X4_slowAlone : zK := (cX4_slowAlone, 4, RX4, (some .int), ({ frames := 3, cells := 0, slots := 0, locals := 66 } : Room))
theorem zc_X4_slowAlone : zcal yX4_slowAlone k_X4_slowAlone.1 k_X4_slowAlone.2.1 k_X4_slowAlone.2.2.2.1 3 := ⟨tw_code_yX4_slowAlone, tw_i_TollForHesitators_Road, ⟨by decide +kernel, by decide +kernel⟩, by decide +kernel⟩
theorem zv_X4_slowAlone : Cond.instanceMethod yX4_slowAlone ∈ TS ∧ Cond.selects RX4 yX4_slowAlone yX4_slowAlone ∈ TS := ⟨tw_inst_yX4_slowAlone, tw_s_yX4_slowAlone⟩
def v_X4_slowAlone (P : pT) (R : rT) (x1 : Int32) (x2 : Int32) (x3 : Int32) : Int32 := (v_X4_slowAt P R x1 x2 x3 0 0 0)
def p_X4_slowAlone (P : pT) (R : rT) (x1 : Int32) (x2 : Int32) (x3 : Int32) : Prop := p_X4_slowAt P R x1 x2 x3 0 0 0
set_option maxHeartbeats 4000000 in
theorem c_X4_slowAlone {l : Launch} (G : zG) (P : pT) (a : Nat → Nat) (R : rT) (x1 : Int32) (x2 : Int32) (x3 : Int32) (hp : p_X4_slowAlone P R x1 x2 x3) : Met l yX4_slowAlone (.code yX4_slowAlone k_X4_slowAlone.1 k_X4_slowAlone.2.1 k_X4_slowAlone.2.2.2.1 :: TS) k_X4_slowAlone.2.2.2.2 (Pz G [.ref (a 0), .int x1, .int x2, .int x3] (Fr G P (rdW G a R))) (vp_Si (fun r => r = v_X4_slowAlone P R x1 x2 x3)) 0 0 (fun _ => False) := by
  refine zmet (K := k_X4_slowAlone) (by decide +kernel) rfl rfl (fun Γ hl0 hQ hN hF => ?_)
  have hI := rd_P (G := G) hF.1
  have hG := rd_F hF.2
  obtain ⟨res, hv⟩ : ∃ res, v_X4_slowAlone P R x1 x2 x3 = res := ⟨_, rfl⟩
  rw [hv] at hQ
  unfold v_X4_slowAlone at hv
  unfold p_X4_slowAlone at hp
  show Z k_X4_slowAlone G Γ _ 0 0 [(0, .ref (a 0)), (1, .int x1), (2, .int x2), (3, .int x3)] 0 []
  refine z_aload_n dX4_slowAlone_0 rfl ?_
  refine z_iload_n dX4_slowAlone_1 rfl ?_
  refine z_iload_n dX4_slowAlone_2 rfl ?_
  refine z_iload_n dX4_slowAlone_3 rfl ?_
  refine z_iconst (v := 0) dX4_slowAlone_4 rfl ?_
  refine z_iconst (v := 0) dX4_slowAlone_5 rfl ?_
  refine z_iconst (v := 0) dX4_slowAlone_6 rfl ?_
  have q1 := hp
  refine z_cvi (c_X4_slowAt G P a R x1 x2 x3 0 0 0 q1) zc_X4_slowAt zv_X4_slowAt tw_m_RX4_75 (zrec_of hI 0 rfl rfl) (fr_all hI hG) (zroom_of rfl) rfl (Nat.le_of_ble_eq_true rfl) dX4_slowAlone_7 ?_
  exact z_iret_S hQ rfl hv dX4_slowAlone_10
theorem dX4_fogsOf_0 : decode cX4_fogsOf 0 = .ok (.iconst 0, 1) := by decide +kernel
theorem dX4_fogsOf_1 : decode cX4_fogsOf 1 = .ok (.istore_n 3, 1) := by decide +kernel
theorem dX4_fogsOf_2 : decode cX4_fogsOf 2 = .ok (.iconst 0, 1) := by decide +kernel
theorem dX4_fogsOf_3 : decode cX4_fogsOf 3 = .ok (.istore 4, 2) := by decide +kernel
theorem dX4_fogsOf_5 : decode cX4_fogsOf 5 = .ok (.iload 4, 2) := by decide +kernel
theorem dX4_fogsOf_7 : decode cX4_fogsOf 7 = .ok (.bipush 9, 2) := by decide +kernel
theorem dX4_fogsOf_9 : decode cX4_fogsOf 9 = .ok (.if_icmp .gt 24, 3) := by decide +kernel
theorem dX4_fogsOf_12 : decode cX4_fogsOf 12 = .ok (.aload_n 0, 1) := by decide +kernel
theorem dX4_fogsOf_13 : decode cX4_fogsOf 13 = .ok (.iload_n 1, 1) := by decide +kernel
theorem dX4_fogsOf_14 : decode cX4_fogsOf 14 = .ok (.iload 4, 2) := by decide +kernel
theorem dX4_fogsOf_16 : decode cX4_fogsOf 16 = .ok (.iload_n 2, 1) := by decide +kernel
theorem dX4_fogsOf_17 : decode cX4_fogsOf 17 = .ok (.invokevirtual 79, 3) := by decide +kernel
theorem dX4_fogsOf_20 : decode cX4_fogsOf 20 = .ok (.iconst (-1), 1) := by decide +kernel
theorem dX4_fogsOf_21 : decode cX4_fogsOf 21 = .ok (.if_icmp .eq 6, 3) := by decide +kernel
theorem dX4_fogsOf_24 : decode cX4_fogsOf 24 = .ok (.iinc 3 1, 3) := by decide +kernel
theorem dX4_fogsOf_27 : decode cX4_fogsOf 27 = .ok (.iinc 4 1, 3) := by decide +kernel
theorem dX4_fogsOf_30 : decode cX4_fogsOf 30 = .ok (.goto (-25), 3) := by decide +kernel
theorem dX4_fogsOf_33 : decode cX4_fogsOf 33 = .ok (.iload_n 3, 1) := by decide +kernel
theorem dX4_fogsOf_34 : decode cX4_fogsOf 34 = .ok (.ireturn, 1) := by decide +kernel
abbrev k_X4_fogsOf : zK := (cX4_fogsOf, 5, RX4, (some .int), ({ frames := 4, cells := 0, slots := 0, locals := 89 } : Room))
theorem zc_X4_fogsOf : zcal yX4_fogsOf k_X4_fogsOf.1 k_X4_fogsOf.2.1 k_X4_fogsOf.2.2.2.1 2 := ⟨tw_code_yX4_fogsOf, tw_i_TollForHesitators_Road, ⟨by decide +kernel, by decide +kernel⟩, by decide +kernel⟩
theorem zv_X4_fogsOf : Cond.instanceMethod yX4_fogsOf ∈ TS ∧ Cond.selects RX4 yX4_fogsOf yX4_fogsOf ∈ TS := ⟨tw_inst_yX4_fogsOf, tw_s_yX4_fogsOf⟩
def v_X4_fogsOf_r (P : pT) (R : rT) : Nat → Int32 → Int32 → Int32 → Int32 → Int32
  | 0, _, _, _, _ => 0
  | n + 1, v1, v2, v3, v4 => if 9 < v4 then v3 else v_X4_fogsOf_r P R n v1 v2 (if (v_X4_slowAlone P R v1 v4 v2) = (-1) then v3 else v3 + 1) (v4 + 1)
def p_X4_fogsOf_r (P : pT) (R : rT) : Nat → Int32 → Int32 → Int32 → Int32 → Prop
  | 0, _, _, _, _ => False
  | n + 1, v1, v2, v3, v4 => if 9 < v4 then True else p_X4_slowAlone P R v1 v4 v2 ∧ (p_X4_fogsOf_r P R n v1 v2 (if (v_X4_slowAlone P R v1 v4 v2) = (-1) then v3 else v3 + 1) (v4 + 1))
def v_X4_fogsOf (P : pT) (R : rT) (x1 : Int32) (x2 : Int32) : Int32 := v_X4_fogsOf_r P R 200 x1 x2 0 0
def p_X4_fogsOf (P : pT) (R : rT) (x1 : Int32) (x2 : Int32) : Prop := p_X4_fogsOf_r P R 200 x1 x2 0 0
set_option maxHeartbeats 4000000 in
theorem w_X4_fogsOf {G : zG} {P : pT} {Γ : zT} {res : Int32} (a : Nat → Nat) (R : rT) (hF : Fr G P (rdW G a R) Γ.2.2.1.1.heap) (hQ : zQ Γ (vp_Si (fun r => r = res)) 0 0 (fun _ => False)) : ∀ n : Nat, (∀ (v1 : Int32) (v2 : Int32) (v3 : Int32) (v4 : Int32), p_X4_fogsOf_r P R n v1 v2 v3 v4 → v_X4_fogsOf_r P R n v1 v2 v3 v4 = res → Z k_X4_fogsOf G Γ (rd Γ.2.2.1.1.heap) 0 0 [(0, .ref (a 0)), (1, .int v1), (2, .int v2), (3, .int v3), (4, .int v4)] 5 []) := by
  have hI := rd_P (G := G) hF.1
  have hG := rd_F hF.2
  intro n
  induction n with
  | zero => exact fun v1 v2 v3 v4 hp => absurd hp (by rw [p_X4_fogsOf_r]; exact not_false)
  | succ n ih =>
    intro v1 v2 v3 v4 hp hv
    rw [p_X4_fogsOf_r] at hp
    rw [v_X4_fogsOf_r] at hv
    refine z_iload dX4_fogsOf_5 rfl ?_
    refine z_bipush (v := 9) dX4_fogsOf_7 rfl ?_
    refine z_icmp_gt (tgt := 33) dX4_fogsOf_9 (by decide) (fun c1 => ?_) (fun c1 => ?_)
    · have hp := ip_t hp c1; have hv := it_t hv c1
      refine z_iload_n dX4_fogsOf_33 rfl ?_
      exact z_iret_S hQ rfl hv dX4_fogsOf_34
    · have hp := ip_f hp c1; have hv := it_f hv c1
      refine z_aload_n dX4_fogsOf_12 rfl ?_
      refine z_iload_n dX4_fogsOf_13 rfl ?_
      refine z_iload dX4_fogsOf_14 rfl ?_
      refine z_iload_n dX4_fogsOf_16 rfl ?_
      obtain ⟨q5, hp⟩ := hp
      refine z_cvi (c_X4_slowAlone G P a R v1 v4 v2 q5) zc_X4_slowAlone zv_X4_slowAlone tw_m_RX4_79 (zrec_of hI 0 rfl rfl) (fr_all hI hG) (zroom_of rfl) rfl (Nat.le_of_ble_eq_true rfl) dX4_fogsOf_17 ?_
      refine z_iconst (v := (-1)) dX4_fogsOf_20 rfl ?_
      have J8 : ∀ m7 : Int32, m7 = (if (v_X4_slowAlone P R v1 v4 v2) = (-1) then v3 else v3 + 1) → Z k_X4_fogsOf G Γ (rd Γ.2.2.1.1.heap) 0 0 [(0, .ref (a 0)), (1, .int v1), (2, .int v2), (3, .int m7), (4, .int v4)] 27 [] := by
        intro m7 em7
        rewrite [em7]; clear em7
        refine z_iinc (v := v4 + 1) (lv' := [(4, .int (v4 + 1)), (0, .ref (a 0)), (1, .int v1), (2, .int v2), (3, .int (if (v_X4_slowAlone P R v1 v4 v2) = (-1) then v3 else v3 + 1))]) dX4_fogsOf_27 4 rfl rfl (Nat.le_of_ble_eq_true rfl) rfl ?_
        refine z_goto (tgt := 5) dX4_fogsOf_30 (by decide) ?_
        exact z_lv rfl ((ih) v1 v2 (if (v_X4_slowAlone P R v1 v4 v2) = (-1) then v3 else v3 + 1) (v4 + 1) hp hv)
      refine z_icmp_eq (tgt := 27) dX4_fogsOf_21 (by decide) (fun c6 => ?_) (fun c6 => ?_)
      · skip
        exact z_lv rfl (J8 _ (if_pos c6).symm)
      · skip
        refine z_iinc (v := v3 + 1) (lv' := [(3, .int (v3 + 1)), (0, .ref (a 0)), (1, .int v1), (2, .int v2), (4, .int v4)]) dX4_fogsOf_24 3 rfl rfl (Nat.le_of_ble_eq_true rfl) rfl ?_
        exact z_lv rfl (J8 _ (if_neg c6).symm)
set_option maxHeartbeats 4000000 in
theorem c_X4_fogsOf {l : Launch} (G : zG) (P : pT) (a : Nat → Nat) (R : rT) (x1 : Int32) (x2 : Int32) (hp : p_X4_fogsOf P R x1 x2) : Met l yX4_fogsOf (.code yX4_fogsOf k_X4_fogsOf.1 k_X4_fogsOf.2.1 k_X4_fogsOf.2.2.2.1 :: TS) k_X4_fogsOf.2.2.2.2 (Pz G [.ref (a 0), .int x1, .int x2] (Fr G P (rdW G a R))) (vp_Si (fun r => r = v_X4_fogsOf P R x1 x2)) 0 0 (fun _ => False) := by
  refine zmet (K := k_X4_fogsOf) (by decide +kernel) rfl rfl (fun Γ hl0 hQ hN hF => ?_)
  have hI := rd_P (G := G) hF.1
  have hG := rd_F hF.2
  obtain ⟨res, hv⟩ : ∃ res, v_X4_fogsOf P R x1 x2 = res := ⟨_, rfl⟩
  rw [hv] at hQ
  unfold v_X4_fogsOf at hv
  unfold p_X4_fogsOf at hp
  show Z k_X4_fogsOf G Γ _ 0 0 [(0, .ref (a 0)), (1, .int x1), (2, .int x2)] 0 []
  refine z_iconst (v := 0) dX4_fogsOf_0 rfl ?_
  refine z_istore_n (lv' := [(3, .int 0), (0, .ref (a 0)), (1, .int x1), (2, .int x2)]) dX4_fogsOf_1 (Nat.le_of_ble_eq_true rfl) rfl ?_
  refine z_iconst (v := 0) dX4_fogsOf_2 rfl ?_
  refine z_istore (lv' := [(4, .int 0), (3, .int 0), (0, .ref (a 0)), (1, .int x1), (2, .int x2)]) dX4_fogsOf_3 (Nat.le_of_ble_eq_true rfl) rfl ?_
  exact z_lv rfl ((w_X4_fogsOf a R hF hQ 200) x1 x2 0 0 hp hv)
theorem dX4_comesTo_0 : decode cX4_comesTo 0 = .ok (.aload_n 0, 1) := by decide +kernel
theorem dX4_comesTo_1 : decode cX4_comesTo 1 = .ok (.iload_n 1, 1) := by decide +kernel
theorem dX4_comesTo_2 : decode cX4_comesTo 2 = .ok (.invokevirtual 53, 3) := by decide +kernel
theorem dX4_comesTo_5 : decode cX4_comesTo 5 = .ok (.ifCond .eq 26, 3) := by decide +kernel
theorem dX4_comesTo_8 : decode cX4_comesTo 8 = .ok (.aload_n 0, 1) := by decide +kernel
theorem dX4_comesTo_9 : decode cX4_comesTo 9 = .ok (.iload_n 1, 1) := by decide +kernel
theorem dX4_comesTo_10 : decode cX4_comesTo 10 = .ok (.aload_n 0, 1) := by decide +kernel
theorem dX4_comesTo_11 : decode cX4_comesTo 11 = .ok (.getfield 34, 3) := by decide +kernel
theorem dX4_comesTo_14 : decode cX4_comesTo 14 = .ok (.aload_n 0, 1) := by decide +kernel
theorem dX4_comesTo_15 : decode cX4_comesTo 15 = .ok (.getfield 17, 3) := by decide +kernel
theorem dX4_comesTo_18 : decode cX4_comesTo 18 = .ok (.iload_n 1, 1) := by decide +kernel
theorem dX4_comesTo_19 : decode cX4_comesTo 19 = .ok (.iaload, 1) := by decide +kernel
theorem dX4_comesTo_20 : decode cX4_comesTo 20 = .ok (.iload_n 2, 1) := by decide +kernel
theorem dX4_comesTo_21 : decode cX4_comesTo 21 = .ok (.iload_n 3, 1) := by decide +kernel
theorem dX4_comesTo_22 : decode cX4_comesTo 22 = .ok (.iload 4, 2) := by decide +kernel
theorem dX4_comesTo_24 : decode cX4_comesTo 24 = .ok (.invokevirtual 75, 3) := by decide +kernel
theorem dX4_comesTo_27 : decode cX4_comesTo 27 = .ok (.iconst (-1), 1) := by decide +kernel
theorem dX4_comesTo_28 : decode cX4_comesTo 28 = .ok (.if_icmp .ne 5, 3) := by decide +kernel
theorem dX4_comesTo_31 : decode cX4_comesTo 31 = .ok (.iconst 0, 1) := by decide +kernel
theorem dX4_comesTo_32 : decode cX4_comesTo 32 = .ok (.ireturn, 1) := by decide +kernel
theorem dX4_comesTo_33 : decode cX4_comesTo 33 = .ok (.aload_n 0, 1) := by decide +kernel
theorem dX4_comesTo_34 : decode cX4_comesTo 34 = .ok (.getfield 21, 3) := by decide +kernel
theorem dX4_comesTo_37 : decode cX4_comesTo 37 = .ok (.iload_n 1, 1) := by decide +kernel
theorem dX4_comesTo_38 : decode cX4_comesTo 38 = .ok (.iaload, 1) := by decide +kernel
theorem dX4_comesTo_39 : decode cX4_comesTo 39 = .ok (.aload_n 0, 1) := by decide +kernel
theorem dX4_comesTo_40 : decode cX4_comesTo 40 = .ok (.getfield 37, 3) := by decide +kernel
theorem dX4_comesTo_43 : decode cX4_comesTo 43 = .ok (.if_icmp .lt 7, 3) := by decide +kernel
theorem dX4_comesTo_46 : decode cX4_comesTo 46 = .ok (.iconst 1, 1) := by decide +kernel
theorem dX4_comesTo_47 : decode cX4_comesTo 47 = .ok (.goto 4, 3) := by decide +kernel
theorem dX4_comesTo_50 : decode cX4_comesTo 50 = .ok (.iconst 2, 1) := by decide +kernel
theorem dX4_comesTo_51 : decode cX4_comesTo 51 = .ok (.ireturn, 1) := by decide +kernel
abbrev k_X4_comesTo : zK := (cX4_comesTo, 5, RX4, (some .int), ({ frames := 3, cells := 0, slots := 0, locals := 66 } : Room))
theorem zc_X4_comesTo : zcal yX4_comesTo k_X4_comesTo.1 k_X4_comesTo.2.1 k_X4_comesTo.2.2.2.1 4 := ⟨tw_code_yX4_comesTo, tw_i_TollForHesitators_Road, ⟨by decide +kernel, by decide +kernel⟩, by decide +kernel⟩
theorem zv_X4_comesTo : Cond.instanceMethod yX4_comesTo ∈ TS ∧ Cond.selects RX4 yX4_comesTo yX4_comesTo ∈ TS := ⟨tw_inst_yX4_comesTo, tw_s_yX4_comesTo⟩
def v_X4_comesTo (P : pT) (R : rT) (x1 : Int32) (x2 : Int32) (x3 : Int32) (x4 : Int32) : Int32 := if (v_X4_has R x1) = 0 then 0 else if (v_X4_slowAt P R x1 (R.1 6) ((R.2.1 1) x1.toNatClampNeg) x2 x3 x4) = (-1) then 0 else (if ((R.2.1 2) x1.toNatClampNeg) < (R.1 7) then (2 : Int32) else 1)
def p_X4_comesTo (P : pT) (R : rT) (x1 : Int32) (x2 : Int32) (x3 : Int32) (x4 : Int32) : Prop := p_X4_has R x1 ∧ (if (v_X4_has R x1) = 0 then True else vp_in x1 7 ∧ ((p_X4_slowAt P R x1 (R.1 6) ((R.2.1 1) x1.toNatClampNeg) x2 x3 x4) ∧ (if (v_X4_slowAt P R x1 (R.1 6) ((R.2.1 1) x1.toNatClampNeg) x2 x3 x4) = (-1) then True else vp_in x1 7)))
set_option maxHeartbeats 4000000 in
theorem c_X4_comesTo {l : Launch} (G : zG) (P : pT) (a : Nat → Nat) (R : rT) (x1 : Int32) (x2 : Int32) (x3 : Int32) (x4 : Int32) (hp : p_X4_comesTo P R x1 x2 x3 x4) : Met l yX4_comesTo (.code yX4_comesTo k_X4_comesTo.1 k_X4_comesTo.2.1 k_X4_comesTo.2.2.2.1 :: TS) k_X4_comesTo.2.2.2.2 (Pz G [.ref (a 0), .int x1, .int x2, .int x3, .int x4] (Fr G P (rdW G a R))) (vp_Si (fun r => r = v_X4_comesTo P R x1 x2 x3 x4)) 0 0 (fun _ => False) := by
  refine zmet (K := k_X4_comesTo) (by decide +kernel) rfl rfl (fun Γ hl0 hQ hN hF => ?_)
  have hI := rd_P (G := G) hF.1
  have hG := rd_F hF.2
  obtain ⟨res, hv⟩ : ∃ res, v_X4_comesTo P R x1 x2 x3 x4 = res := ⟨_, rfl⟩
  rw [hv] at hQ
  unfold v_X4_comesTo at hv
  unfold p_X4_comesTo at hp
  show Z k_X4_comesTo G Γ _ 0 0 [(0, .ref (a 0)), (1, .int x1), (2, .int x2), (3, .int x3), (4, .int x4)] 0 []
  refine z_aload_n dX4_comesTo_0 rfl ?_
  refine z_iload_n dX4_comesTo_1 rfl ?_
  obtain ⟨q1, hp⟩ := hp
  refine z_cvi (c_X4_has G P a R x1 q1) zc_X4_has zv_X4_has tw_m_RX4_53 (zrec_of hI 0 rfl rfl) (fr_all hI hG) (zroom_of rfl) rfl (Nat.le_of_ble_eq_true rfl) dX4_comesTo_2 ?_
  refine z_if_eq (tgt := 31) dX4_comesTo_5 (by decide) (fun c2 => ?_) (fun c2 => ?_)
  · have hp := ip_t hp c2; have hv := it_t hv c2
    refine z_iconst (v := 0) dX4_comesTo_31 rfl ?_
    exact z_iret_S hQ rfl hv dX4_comesTo_32
  · have hp := ip_f hp c2; have hv := it_f hv c2
    refine z_aload_n dX4_comesTo_8 rfl ?_
    refine z_iload_n dX4_comesTo_9 rfl ?_
    refine z_aload_n dX4_comesTo_10 rfl ?_
    refine z_get (v := .int (R.1 6)) hI 0 rfl rfl uin_X4 6 (Nat.le_of_ble_eq_true rfl) tw_f_RX4_34 rfl rfl dX4_comesTo_11 ?_
    refine z_aload_n dX4_comesTo_14 rfl ?_
    refine z_get (v := .ref (a 2)) hI 0 rfl rfl uin_X4 1 (Nat.le_of_ble_eq_true rfl) tw_f_RX4_17 rfl rfl dX4_comesTo_15 ?_
    refine z_iload_n dX4_comesTo_18 rfl ?_
    obtain ⟨q3, hp⟩ := hp
    refine z_ialdx (x := (R.2.1 1) x1.toNatClampNeg) hI 2 rfl q3 rfl dX4_comesTo_19 ?_
    refine z_iload_n dX4_comesTo_20 rfl ?_
    refine z_iload_n dX4_comesTo_21 rfl ?_
    refine z_iload dX4_comesTo_22 rfl ?_
    obtain ⟨q4, hp⟩ := hp
    refine z_cvi (c_X4_slowAt G P a R x1 (R.1 6) ((R.2.1 1) x1.toNatClampNeg) x2 x3 x4 q4) zc_X4_slowAt zv_X4_slowAt tw_m_RX4_75 (zrec_of hI 0 rfl rfl) (fr_all hI hG) (zroom_of rfl) rfl (Nat.le_of_ble_eq_true rfl) dX4_comesTo_24 ?_
    refine z_iconst (v := (-1)) dX4_comesTo_27 rfl ?_
    refine z_icmp_ne (tgt := 33) dX4_comesTo_28 (by decide) (fun c5 => ?_) (fun c5 => ?_)
    · have hp := ip_f hp c5; have hv := it_f hv c5
      refine z_aload_n dX4_comesTo_33 rfl ?_
      refine z_get (v := .ref (a 3)) hI 0 rfl rfl uin_X4 2 (Nat.le_of_ble_eq_true rfl) tw_f_RX4_21 rfl rfl dX4_comesTo_34 ?_
      refine z_iload_n dX4_comesTo_37 rfl ?_
      have q6 := hp
      refine z_ialdx (x := (R.2.1 2) x1.toNatClampNeg) hI 3 rfl q6 rfl dX4_comesTo_38 ?_
      refine z_aload_n dX4_comesTo_39 rfl ?_
      refine z_get (v := .int (R.1 7)) hI 0 rfl rfl uin_X4 7 (Nat.le_of_ble_eq_true rfl) tw_f_RX4_37 rfl rfl dX4_comesTo_40 ?_
      have J9 : ∀ m8 : Int32, m8 = (if ((R.2.1 2) x1.toNatClampNeg) < (R.1 7) then (2 : Int32) else 1) → Z k_X4_comesTo G Γ (rd Γ.2.2.1.1.heap) 0 0 [(0, .ref (a 0)), (1, .int x1), (2, .int x2), (3, .int x3), (4, .int x4)] 51 [.int m8] := by
        intro m8 em8
        rewrite [em8]; clear em8
        exact z_iret_S hQ rfl hv dX4_comesTo_51
      refine z_icmp_lt (tgt := 50) dX4_comesTo_43 (by decide) (fun c7 => ?_) (fun c7 => ?_)
      · skip
        refine z_iconst (v := 2) dX4_comesTo_50 rfl ?_
        exact z_lv rfl (J9 _ (if_pos c7).symm)
      · skip
        refine z_iconst (v := 1) dX4_comesTo_46 rfl ?_
        refine z_goto (tgt := 51) dX4_comesTo_47 (by decide) ?_
        exact z_lv rfl (J9 _ (if_neg c7).symm)
    · have hp := ip_t hp c5; have hv := it_t hv c5
      refine z_iconst (v := 0) dX4_comesTo_31 rfl ?_
      exact z_iret_S hQ rfl hv dX4_comesTo_32
theorem dX4_weightOf_0 : decode cX4_weightOf 0 = .ok (.iload_n 1, 1) := by decide +kernel
theorem dX4_weightOf_1 : decode cX4_weightOf 1 = .ok (.ifCond .ne 7, 3) := by decide +kernel
theorem dX4_weightOf_4 : decode cX4_weightOf 4 = .ok (.iconst 0, 1) := by decide +kernel
theorem dX4_weightOf_5 : decode cX4_weightOf 5 = .ok (.goto 18, 3) := by decide +kernel
theorem dX4_weightOf_8 : decode cX4_weightOf 8 = .ok (.iload_n 1, 1) := by decide +kernel
theorem dX4_weightOf_9 : decode cX4_weightOf 9 = .ok (.iconst 1, 1) := by decide +kernel
theorem dX4_weightOf_10 : decode cX4_weightOf 10 = .ok (.if_icmp .ne 10, 3) := by decide +kernel
theorem dX4_weightOf_13 : decode cX4_weightOf 13 = .ok (.aload_n 0, 1) := by decide +kernel
theorem dX4_weightOf_14 : decode cX4_weightOf 14 = .ok (.getfield 37, 3) := by decide +kernel
theorem dX4_weightOf_17 : decode cX4_weightOf 17 = .ok (.goto 6, 3) := by decide +kernel
theorem dX4_weightOf_20 : decode cX4_weightOf 20 = .ok (.sipush 1000, 3) := by decide +kernel
theorem dX4_weightOf_23 : decode cX4_weightOf 23 = .ok (.ireturn, 1) := by decide +kernel
abbrev k_X4_weightOf : zK := (cX4_weightOf, 2, RX4, (some .int), ({ frames := 0, cells := 0, slots := 0, locals := 0 } : Room))
theorem zc_X4_weightOf : zcal yX4_weightOf k_X4_weightOf.1 k_X4_weightOf.2.1 k_X4_weightOf.2.2.2.1 1 := ⟨tw_code_yX4_weightOf, tw_i_TollForHesitators_Road, ⟨by decide +kernel, by decide +kernel⟩, by decide +kernel⟩
theorem zv_X4_weightOf : Cond.instanceMethod yX4_weightOf ∈ TS ∧ Cond.selects RX4 yX4_weightOf yX4_weightOf ∈ TS := ⟨tw_inst_yX4_weightOf, tw_s_yX4_weightOf⟩
def v_X4_weightOf (R : rT) (x1 : Int32) : Int32 := (if x1 = 0 then 0 else (if x1 = 1 then R.1 7 else 1000))
set_option maxHeartbeats 4000000 in
theorem c_X4_weightOf {l : Launch} (G : zG) (P : pT) (a : Nat → Nat) (R : rT) (x1 : Int32) : Met l yX4_weightOf (.code yX4_weightOf k_X4_weightOf.1 k_X4_weightOf.2.1 k_X4_weightOf.2.2.2.1 :: TS) k_X4_weightOf.2.2.2.2 (Pz G [.ref (a 0), .int x1] (Fr G P (rdW G a R))) (vp_Si (fun r => r = v_X4_weightOf R x1)) 0 0 (fun _ => False) := by
  refine zmet (K := k_X4_weightOf) (by decide +kernel) rfl rfl (fun Γ hl0 hQ hN hF => ?_)
  have hI := rd_P (G := G) hF.1
  have hG := rd_F hF.2
  obtain ⟨res, hv⟩ : ∃ res, v_X4_weightOf R x1 = res := ⟨_, rfl⟩
  rw [hv] at hQ
  unfold v_X4_weightOf at hv
  show Z k_X4_weightOf G Γ _ 0 0 [(0, .ref (a 0)), (1, .int x1)] 0 []
  refine z_iload_n dX4_weightOf_0 rfl ?_
  have J5 : ∀ m4 : Int32, m4 = (if x1 = 0 then 0 else (if x1 = 1 then R.1 7 else 1000)) → Z k_X4_weightOf G Γ (rd Γ.2.2.1.1.heap) 0 0 [(0, .ref (a 0)), (1, .int x1)] 23 [.int m4] := by
    intro m4 em4
    rewrite [em4]; clear em4
    exact z_iret_S hQ rfl hv dX4_weightOf_23
  refine z_if_ne (tgt := 8) dX4_weightOf_1 (by decide) (fun c1 => ?_) (fun c1 => ?_)
  · skip
    refine z_iload_n dX4_weightOf_8 rfl ?_
    refine z_iconst (v := 1) dX4_weightOf_9 rfl ?_
    have J6 : ∀ m3 : Int32, m3 = (if x1 = 1 then R.1 7 else 1000) → Z k_X4_weightOf G Γ (rd Γ.2.2.1.1.heap) 0 0 [(0, .ref (a 0)), (1, .int x1)] 23 [.int m3] := by
      intro m3 em3
      rewrite [em3]; clear em3
      exact z_lv rfl (J5 _ (if_neg c1).symm)
    refine z_icmp_ne (tgt := 20) dX4_weightOf_10 (by decide) (fun c2 => ?_) (fun c2 => ?_)
    · skip
      refine z_sipush (v := 1000) dX4_weightOf_20 rfl ?_
      exact z_lv rfl (J6 _ (if_neg c2).symm)
    · skip
      refine z_aload_n dX4_weightOf_13 rfl ?_
      refine z_get (v := .int (R.1 7)) hI 0 rfl rfl uin_X4 7 (Nat.le_of_ble_eq_true rfl) tw_f_RX4_37 rfl rfl dX4_weightOf_14 ?_
      refine z_goto (tgt := 23) dX4_weightOf_17 (by decide) ?_
      exact z_lv rfl (J6 _ (if_pos c2).symm)
  · skip
    refine z_iconst (v := 0) dX4_weightOf_4 rfl ?_
    refine z_goto (tgt := 23) dX4_weightOf_5 (by decide) ?_
    exact z_lv rfl (J5 _ (if_pos c1).symm)
