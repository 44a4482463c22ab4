theorem tw_code_yX3_wordFrom : Cond.code yX3_wordFrom cX3_wordFrom 1 (some (.object RJ0)) ∈ TS := ts_mem 480 (by decide +kernel) rfl
theorem tw_i_TollForHesitators_Reader : Cond.initialized RX3 ∈ TS := ts_mem 71 (by decide +kernel) rfl
theorem tw_code_yX3_mostOf : Cond.code yX3_mostOf cX3_mostOf 1 (some .int) ∈ TS := ts_mem 577 (by decide +kernel) rfl
theorem tw_code_yX3_isDigit : Cond.code yX3_isDigit cX3_isDigit 1 (some .boolean) ∈ TS := ts_mem 563 (by decide +kernel) rfl
theorem tw_f_RX3_15 : Cond.fieldLink RX3 15 RX3 "fault" "I" ∈ TS := ts_mem 182 (by decide +kernel) rfl
theorem tw_code_yX3_fail : Cond.code yX3_fail cX3_fail 2 (some .boolean) ∈ TS := ts_mem 495 (by decide +kernel) rfl
theorem tw_inst_yX3_fail : Cond.instanceMethod yX3_fail ∈ TS := ts_mem 494 (by decide +kernel) rfl
theorem tw_s_yX3_fail : Cond.selects RX3 yX3_fail yX3_fail ∈ TS := ts_mem 5 (by decide +kernel) rfl
theorem tw_f_RX3_26 : Cond.fieldLink RX3 26 RX3 "length" "I" ∈ TS := ts_mem 187 (by decide +kernel) rfl
theorem tw_f_RX3_22 : Cond.fieldLink RX3 22 RX3 "letters" "[J" ∈ TS := ts_mem 186 (by decide +kernel) rfl
theorem tw_code_yX3_letter : Cond.code yX3_letter cX3_letter 2 (some .int) ∈ TS := ts_mem 477 (by decide +kernel) rfl
theorem tw_inst_yX3_letter : Cond.instanceMethod yX3_letter ∈ TS := ts_mem 476 (by decide +kernel) rfl
theorem tw_s_yX3_letter : Cond.selects RX3 yX3_letter yX3_letter ∈ TS := ts_mem 4 (by decide +kernel) rfl
theorem tw_f_RX3_29 : Cond.fieldLink RX3 29 RX3 "at" "I" ∈ TS := ts_mem 188 (by decide +kernel) rfl
theorem tw_m_RX3_52 : Cond.methodLink RX3 52 yX3_letter ∈ TS := ts_mem 474 (by decide +kernel) rfl
theorem tw_m_RX3_49 : Cond.methodLink RX3 49 yX3_fail ∈ TS := ts_mem 492 (by decide +kernel) rfl
theorem tw_code_yX3_sign : Cond.code yX3_sign cX3_sign 2 (some .boolean) ∈ TS := ts_mem 547 (by decide +kernel) rfl
theorem tw_inst_yX3_sign : Cond.instanceMethod yX3_sign ∈ TS := ts_mem 546 (by decide +kernel) rfl
theorem tw_s_yX3_sign : Cond.selects RX3 yX3_sign yX3_sign ∈ TS := ts_mem 6 (by decide +kernel) rfl
theorem tw_m_RX3_45 : Cond.methodLink RX3 45 yX3_sign ∈ TS := ts_mem 544 (by decide +kernel) rfl
theorem tw_st_yX3_isDigit : Cond.static yX3_isDigit ∈ TS := ts_mem 562 (by decide +kernel) rfl
theorem tw_m_RX3_135 : Cond.methodLink RX3 135 yX3_isDigit ∈ TS := ts_mem 561 (by decide +kernel) rfl
theorem tw_f_RX3_32 : Cond.fieldLink RX3 32 RX3 "number" "I" ∈ TS := ts_mem 189 (by decide +kernel) rfl
theorem tw_code_yX3_numeral : Cond.code yX3_numeral cX3_numeral 4 (some .boolean) ∈ TS := ts_mem 560 (by decide +kernel) rfl
theorem tw_inst_yX3_numeral : Cond.instanceMethod yX3_numeral ∈ TS := ts_mem 559 (by decide +kernel) rfl
theorem tw_s_yX3_numeral : Cond.selects RX3 yX3_numeral yX3_numeral ∈ TS := ts_mem 8 (by decide +kernel) rfl
theorem tw_f_RX3_116 : Cond.fieldLink RX3 116 RX4 "count" "I" ∈ TS := ts_mem 109 (by decide +kernel) rfl
theorem tw_m_RX3_108 : Cond.methodLink RX3 108 yX3_numeral ∈ TS := ts_mem 557 (by decide +kernel) rfl
theorem tw_m_RX3_119 : Cond.methodLink RX3 119 yX4_has ∈ TS := ts_mem 570 (by decide +kernel) rfl
theorem tw_f_RX3_122 : Cond.fieldLink RX3 122 RX4 "doubt" "[I" ∈ TS := ts_mem 105 (by decide +kernel) rfl
theorem tw_code_yX3_doubtItem : Cond.code yX3_doubtItem cX3_doubtItem 3 (some .boolean) ∈ TS := ts_mem 569 (by decide +kernel) rfl
theorem tw_inst_yX3_doubtItem : Cond.instanceMethod yX3_doubtItem ∈ TS := ts_mem 568 (by decide +kernel) rfl
theorem tw_s_yX3_doubtItem : Cond.selects RX3 yX3_doubtItem yX3_doubtItem ∈ TS := ts_mem 9 (by decide +kernel) rfl
theorem tw_st_yX3_mostOf : Cond.static yX3_mostOf ∈ TS := ts_mem 576 (by decide +kernel) rfl
theorem tw_m_RX3_124 : Cond.methodLink RX3 124 yX3_mostOf ∈ TS := ts_mem 575 (by decide +kernel) rfl
theorem tw_f_RX3_129 : Cond.fieldLink RX3 129 RX4 "fog" "I" ∈ TS := ts_mem 115 (by decide +kernel) rfl
theorem tw_f_RX3_131 : Cond.fieldLink RX3 131 RX4 "toll" "I" ∈ TS := ts_mem 119 (by decide +kernel) rfl
theorem tw_f_RX3_127 : Cond.fieldLink RX3 127 RX4 "way" "I" ∈ TS := ts_mem 112 (by decide +kernel) rfl
theorem tw_f_RX3_133 : Cond.fieldLink RX3 133 RX4 "push" "I" ∈ TS := ts_mem 122 (by decide +kernel) rfl
theorem tw_code_yX3_settingItem : Cond.code yX3_settingItem cX3_settingItem 4 (some .boolean) ∈ TS := ts_mem 574 (by decide +kernel) rfl
theorem tw_inst_yX3_settingItem : Cond.instanceMethod yX3_settingItem ∈ TS := ts_mem 573 (by decide +kernel) rfl
theorem tw_s_yX3_settingItem : Cond.selects RX3 yX3_settingItem yX3_settingItem ∈ TS := ts_mem 10 (by decide +kernel) rfl
theorem dX3_wordFrom_0 : decode cX3_wordFrom 0 = .ok (.iload_n 0, 1) := by decide +kernel
theorem dX3_wordFrom_1 : decode cX3_wordFrom 1 = .ok (.lookupswitch 77 #[(99, 59), (100, 62), (102, 68), (112, 74), (116, 71), (119, 65)], 59) := by decide +kernel
theorem dX3_wordFrom_60 : decode cX3_wordFrom 60 = .ok (.ldc 88, 2) := by decide +kernel
theorem dX3_wordFrom_62 : decode cX3_wordFrom 62 = .ok (.areturn, 1) := by decide +kernel
theorem dX3_wordFrom_63 : decode cX3_wordFrom 63 = .ok (.ldc 90, 2) := by decide +kernel
theorem dX3_wordFrom_65 : decode cX3_wordFrom 65 = .ok (.areturn, 1) := by decide +kernel
theorem dX3_wordFrom_66 : decode cX3_wordFrom 66 = .ok (.ldc 92, 2) := by decide +kernel
theorem dX3_wordFrom_68 : decode cX3_wordFrom 68 = .ok (.areturn, 1) := by decide +kernel
theorem dX3_wordFrom_69 : decode cX3_wordFrom 69 = .ok (.ldc 94, 2) := by decide +kernel
theorem dX3_wordFrom_71 : decode cX3_wordFrom 71 = .ok (.areturn, 1) := by decide +kernel
theorem dX3_wordFrom_72 : decode cX3_wordFrom 72 = .ok (.ldc 96, 2) := by decide +kernel
theorem dX3_wordFrom_74 : decode cX3_wordFrom 74 = .ok (.areturn, 1) := by decide +kernel
theorem dX3_wordFrom_75 : decode cX3_wordFrom 75 = .ok (.ldc 98, 2) := by decide +kernel
theorem dX3_wordFrom_77 : decode cX3_wordFrom 77 = .ok (.areturn, 1) := by decide +kernel
theorem dX3_wordFrom_78 : decode cX3_wordFrom 78 = .ok (.ldc 100, 2) := by decide +kernel
theorem dX3_wordFrom_80 : decode cX3_wordFrom 80 = .ok (.areturn, 1) := by decide +kernel
abbrev k_X3_wordFrom : zK := (cX3_wordFrom, 1, RX3, (some (.object RJ0)), ({ frames := 0, cells := 0, slots := 0, locals := 0 } : Room))
theorem zc_X3_wordFrom : zcal yX3_wordFrom k_X3_wordFrom.1 k_X3_wordFrom.2.1 k_X3_wordFrom.2.2.2.1 1 := ⟨tw_code_yX3_wordFrom, tw_i_TollForHesitators_Reader, ⟨by decide +kernel, by decide +kernel⟩, by decide +kernel⟩
def v_X3_wordFrom (x0 : Int32) : Nat := if x0 = 99 then 0 else if x0 = 100 then 1 else if x0 = 102 then 3 else if x0 = 112 then 5 else if x0 = 116 then 4 else if x0 = 119 then 2 else 6
set_option maxHeartbeats 800000 in
theorem c_X3_wordFrom {l : Launch} (G : zG) (P : pT) (x0 : Int32) : Met l yX3_wordFrom (.code yX3_wordFrom k_X3_wordFrom.1 k_X3_wordFrom.2.1 k_X3_wordFrom.2.2.2.1 :: TS) k_X3_wordFrom.2.2.2.2 (Pz G [.int x0] (Fr G P ([]))) (va_Sq (fun r => r = some (G.2.2.2 (10 + (v_X3_wordFrom x0))))) 0 0 (fun _ => False) := by
  refine zmet (K := k_X3_wordFrom) (by decide +kernel) rfl rfl (fun Γ hl0 hQ hN hF => ?_)
  have hI := rd_P (G := G) hF.1
  have hG := rd_F hF.2
  obtain ⟨res, hv⟩ : ∃ res, v_X3_wordFrom x0 = res := ⟨_, rfl⟩
  rw [hv] at hQ
  unfold v_X3_wordFrom at hv
  show Z k_X3_wordFrom G Γ _ 0 0 [(0, .int x0)] 0 []
  refine z_iload_n dX3_wordFrom_0 rfl ?_
  by_cases c1 : x0 = 99
  · have hv := it_t hv c1
    refine z_lookup (tgt := 60) dX3_wordFrom_1 (by decide) (look_in c1 rfl) (by decide) ?_
    refine z_ldcS (tx := "comer") (i := 0) rfl (by decide) dX3_wordFrom_60 ?_
    exact z_aret_S (r := some (G.2.2.2 (10 + 0))) hQ rfl (by subst hv; rfl) dX3_wordFrom_62
  have hv := it_f hv c1
  by_cases c2 : x0 = 100
  · have hv := it_t hv c2
    refine z_lookup (tgt := 63) dX3_wordFrom_1 (by decide) (look_in c2 rfl) (by decide) ?_
    refine z_ldcS (tx := "doubt") (i := 1) rfl (by decide) dX3_wordFrom_63 ?_
    exact z_aret_S (r := some (G.2.2.2 (10 + 1))) hQ rfl (by subst hv; rfl) dX3_wordFrom_65
  have hv := it_f hv c2
  by_cases c3 : x0 = 102
  · have hv := it_t hv c3
    refine z_lookup (tgt := 69) dX3_wordFrom_1 (by decide) (look_in c3 rfl) (by decide) ?_
    refine z_ldcS (tx := "fog") (i := 3) rfl (by decide) dX3_wordFrom_69 ?_
    exact z_aret_S (r := some (G.2.2.2 (10 + 3))) hQ rfl (by subst hv; rfl) dX3_wordFrom_71
  have hv := it_f hv c3
  by_cases c4 : x0 = 112
  · have hv := it_t hv c4
    refine z_lookup (tgt := 75) dX3_wordFrom_1 (by decide) (look_in c4 rfl) (by decide) ?_
    refine z_ldcS (tx := "push") (i := 5) rfl (by decide) dX3_wordFrom_75 ?_
    exact z_aret_S (r := some (G.2.2.2 (10 + 5))) hQ rfl (by subst hv; rfl) dX3_wordFrom_77
  have hv := it_f hv c4
  by_cases c5 : x0 = 116
  · have hv := it_t hv c5
    refine z_lookup (tgt := 72) dX3_wordFrom_1 (by decide) (look_in c5 rfl) (by decide) ?_
    refine z_ldcS (tx := "toll") (i := 4) rfl (by decide) dX3_wordFrom_72 ?_
    exact z_aret_S (r := some (G.2.2.2 (10 + 4))) hQ rfl (by subst hv; rfl) dX3_wordFrom_74
  have hv := it_f hv c5
  by_cases c6 : x0 = 119
  · have hv := it_t hv c6
    refine z_lookup (tgt := 66) dX3_wordFrom_1 (by decide) (look_in c6 rfl) (by decide) ?_
    refine z_ldcS (tx := "way") (i := 2) rfl (by decide) dX3_wordFrom_66 ?_
    exact z_aret_S (r := some (G.2.2.2 (10 + 2))) hQ rfl (by subst hv; rfl) dX3_wordFrom_68
  have hv := it_f hv c6
  refine z_lookup (tgt := 78) dX3_wordFrom_1 (by decide) (look_c c1 rfl (look_c c2 rfl (look_c c3 rfl (look_c c4 rfl (look_c c5 rfl (look_c c6 rfl look_n)))))) (by decide) ?_
  refine z_ldcS (tx := "") (i := 6) rfl (by decide) dX3_wordFrom_78 ?_
  exact z_aret_S (r := some (G.2.2.2 (10 + 6))) hQ rfl (by subst hv; rfl) dX3_wordFrom_80
theorem wordFrom_lt (x0 : Int32) : v_X3_wordFrom x0 < 7 := by
  unfold v_X3_wordFrom
  repeat' split
  all_goals decide
theorem dX3_mostOf_0 : decode cX3_mostOf 0 = .ok (.iload_n 0, 1) := by decide +kernel
theorem dX3_mostOf_1 : decode cX3_mostOf 1 = .ok (.lookupswitch 44 #[(102, 38), (116, 41), (119, 35)], 35) := by decide +kernel
theorem dX3_mostOf_36 : decode cX3_mostOf 36 = .ok (.bipush 20, 2) := by decide +kernel
theorem dX3_mostOf_38 : decode cX3_mostOf 38 = .ok (.ireturn, 1) := by decide +kernel
theorem dX3_mostOf_39 : decode cX3_mostOf 39 = .ok (.bipush 9, 2) := by decide +kernel
theorem dX3_mostOf_41 : decode cX3_mostOf 41 = .ok (.ireturn, 1) := by decide +kernel
theorem dX3_mostOf_42 : decode cX3_mostOf 42 = .ok (.bipush 99, 2) := by decide +kernel
theorem dX3_mostOf_44 : decode cX3_mostOf 44 = .ok (.ireturn, 1) := by decide +kernel
theorem dX3_mostOf_45 : decode cX3_mostOf 45 = .ok (.bipush 99, 2) := by decide +kernel
theorem dX3_mostOf_47 : decode cX3_mostOf 47 = .ok (.ireturn, 1) := by decide +kernel
abbrev k_X3_mostOf : zK := (cX3_mostOf, 1, RX3, (some .int), ({ frames := 0, cells := 0, slots := 0, locals := 0 } : Room))
theorem zc_X3_mostOf : zcal yX3_mostOf k_X3_mostOf.1 k_X3_mostOf.2.1 k_X3_mostOf.2.2.2.1 1 := ⟨tw_code_yX3_mostOf, tw_i_TollForHesitators_Reader, ⟨by decide +kernel, by decide +kernel⟩, by decide +kernel⟩
def v_X3_mostOf (x0 : Int32) : Int32 := if x0 = 102 then 9 else if x0 = 116 then 99 else if x0 = 119 then 20 else 99
set_option maxHeartbeats 800000 in
theorem c_X3_mostOf {l : Launch} (G : zG) (P : pT) (x0 : Int32) : Met l yX3_mostOf (.code yX3_mostOf k_X3_mostOf.1 k_X3_mostOf.2.1 k_X3_mostOf.2.2.2.1 :: TS) k_X3_mostOf.2.2.2.2 (Pz G [.int x0] (Fr G P ([]))) (vp_Si (fun r => r = v_X3_mostOf x0)) 0 0 (fun _ => False) := by
  refine zmet (K := k_X3_mostOf) (by decide +kernel) rfl rfl (fun Γ hl0 hQ hN hF => ?_)
  have hI := rd_P (G := G) hF.1
  have hG := rd_F hF.2
  obtain ⟨res, hv⟩ : ∃ res, v_X3_mostOf x0 = res := ⟨_, rfl⟩
  rw [hv] at hQ
  unfold v_X3_mostOf at hv
  show Z k_X3_mostOf G Γ _ 0 0 [(0, .int x0)] 0 []
  refine z_iload_n dX3_mostOf_0 rfl ?_
  by_cases c1 : x0 = 102
  · have hv := it_t hv c1
    refine z_lookup (tgt := 39) dX3_mostOf_1 (by decide) (look_in c1 rfl) (by decide) ?_
    refine z_bipush (v := 9) dX3_mostOf_39 rfl ?_
    exact z_iret_S hQ rfl hv dX3_mostOf_41
  have hv := it_f hv c1
  by_cases c2 : x0 = 116
  · have hv := it_t hv c2
    refine z_lookup (tgt := 42) dX3_mostOf_1 (by decide) (look_in c2 rfl) (by decide) ?_
    refine z_bipush (v := 99) dX3_mostOf_42 rfl ?_
    exact z_iret_S hQ rfl hv dX3_mostOf_44
  have hv := it_f hv c2
  by_cases c3 : x0 = 119
  · have hv := it_t hv c3
    refine z_lookup (tgt := 36) dX3_mostOf_1 (by decide) (look_in c3 rfl) (by decide) ?_
    refine z_bipush (v := 20) dX3_mostOf_36 rfl ?_
    exact z_iret_S hQ rfl hv dX3_mostOf_38
  have hv := it_f hv c3
  refine z_lookup (tgt := 45) dX3_mostOf_1 (by decide) (look_c c1 rfl (look_c c2 rfl (look_c c3 rfl look_n))) (by decide) ?_
  refine z_bipush (v := 99) dX3_mostOf_45 rfl ?_
  exact z_iret_S hQ rfl hv dX3_mostOf_47
theorem dX3_isDigit_0 : decode cX3_isDigit 0 = .ok (.iload_n 0, 1) := by decide +kernel
theorem dX3_isDigit_1 : decode cX3_isDigit 1 = .ok (.bipush 48, 2) := by decide +kernel
theorem dX3_isDigit_3 : decode cX3_isDigit 3 = .ok (.if_icmp .lt 13, 3) := by decide +kernel
theorem dX3_isDigit_6 : decode cX3_isDigit 6 = .ok (.iload_n 0, 1) := by decide +kernel
theorem dX3_isDigit_7 : decode cX3_isDigit 7 = .ok (.bipush 57, 2) := by decide +kernel
theorem dX3_isDigit_9 : decode cX3_isDigit 9 = .ok (.if_icmp .gt 7, 3) := by decide +kernel
theorem dX3_isDigit_12 : decode cX3_isDigit 12 = .ok (.iconst 1, 1) := by decide +kernel
theorem dX3_isDigit_13 : decode cX3_isDigit 13 = .ok (.goto 4, 3) := by decide +kernel
theorem dX3_isDigit_16 : decode cX3_isDigit 16 = .ok (.iconst 0, 1) := by decide +kernel
theorem dX3_isDigit_17 : decode cX3_isDigit 17 = .ok (.ireturn, 1) := by decide +kernel
abbrev k_X3_isDigit : zK := (cX3_isDigit, 1, RX3, (some .boolean), ({ frames := 0, cells := 0, slots := 0, locals := 0 } : Room))
theorem zc_X3_isDigit : zcal yX3_isDigit k_X3_isDigit.1 k_X3_isDigit.2.1 k_X3_isDigit.2.2.2.1 1 := ⟨tw_code_yX3_isDigit, tw_i_TollForHesitators_Reader, ⟨by decide +kernel, by decide +kernel⟩, by decide +kernel⟩
def v_X3_isDigit (x0 : Int32) : Int32 := (if x0 < 48 then 0 else (if 57 < x0 then (0 : Int32) else 1))
theorem nb_X3_isDigit (x0 : Int32) : narrow .boolean (.int (v_X3_isDigit x0)) = .int (v_X3_isDigit x0) := by
  unfold v_X3_isDigit
  skip
  (repeat' (first | with_reducible exact nz0 | with_reducible exact nz1 | with_reducible assumption | split | refine nb_oc ?_ (fun _ => ?_)))
set_option maxHeartbeats 800000 in
theorem c_X3_isDigit {l : Launch} (G : zG) (P : pT) (x0 : Int32) : Met l yX3_isDigit (.code yX3_isDigit k_X3_isDigit.1 k_X3_isDigit.2.1 k_X3_isDigit.2.2.2.1 :: TS) k_X3_isDigit.2.2.2.2 (Pz G [.int x0] (Fr G P ([]))) (vp_Si (fun r => r = v_X3_isDigit x0)) 0 0 (fun _ => False) := by
  refine zmet (K := k_X3_isDigit) (by decide +kernel) rfl rfl (fun Γ hl0 hQ hN hF => ?_)
  have hI := rd_P (G := G) hF.1
  have hG := rd_F hF.2
  obtain ⟨res, hv⟩ : ∃ res, v_X3_isDigit x0 = res := ⟨_, rfl⟩
  rw [hv] at hQ
  unfold v_X3_isDigit at hv
  show Z k_X3_isDigit G Γ _ 0 0 [(0, .int x0)] 0 []
  refine z_iload_n dX3_isDigit_0 rfl ?_
  refine z_bipush (v := 48) dX3_isDigit_1 rfl ?_
  have J5 : ∀ m4 : Int32, m4 = (if x0 < 48 then 0 else (if 57 < x0 then (0 : Int32) else 1)) → Z k_X3_isDigit G Γ (rd Γ.2.2.1.1.heap) 0 0 [(0, .int x0)] 17 [.int m4] := by
    intro m4 em4
    rewrite [em4]; clear em4
    exact z_zret_S hQ rfl (by (repeat' (first | with_reducible exact nz0 | with_reducible exact nz1 | with_reducible assumption | split | refine nb_oc ?_ (fun _ => ?_)))) hv dX3_isDigit_17
  refine z_icmp_lt (tgt := 16) dX3_isDigit_3 (by decide) (fun c1 => ?_) (fun c1 => ?_)
  · skip
    refine z_iconst (v := 0) dX3_isDigit_16 rfl ?_
    exact z_lv rfl (J5 _ (if_pos c1).symm)
  · skip
    refine z_iload_n dX3_isDigit_6 rfl ?_
    refine z_bipush (v := 57) dX3_isDigit_7 rfl ?_
    have J6 : ∀ m3 : Int32, m3 = (if 57 < x0 then (0 : Int32) else 1) → Z k_X3_isDigit G Γ (rd Γ.2.2.1.1.heap) 0 0 [(0, .int x0)] 17 [.int m3] := by
      intro m3 em3
      rewrite [em3]; clear em3
      exact z_lv rfl (J5 _ (if_neg c1).symm)
    refine z_icmp_gt (tgt := 16) dX3_isDigit_9 (by decide) (fun c2 => ?_) (fun c2 => ?_)
    · skip
      refine z_iconst (v := 0) dX3_isDigit_16 rfl ?_
      exact z_lv rfl (J6 _ (if_pos c2).symm)
    · skip
      refine z_iconst (v := 1) dX3_isDigit_12 rfl ?_
      refine z_goto (tgt := 17) dX3_isDigit_13 (by decide) ?_
      exact z_lv rfl (J6 _ (if_neg c2).symm)
theorem dX3_fail_0 : decode cX3_fail 0 = .ok (.aload_n 0, 1) := by decide +kernel
theorem dX3_fail_1 : decode cX3_fail 1 = .ok (.iload_n 1, 1) := by decide +kernel
theorem dX3_fail_2 : decode cX3_fail 2 = .ok (.putfield 15, 3) := by decide +kernel
theorem dX3_fail_5 : decode cX3_fail 5 = .ok (.iconst 0, 1) := by decide +kernel
theorem dX3_fail_6 : decode cX3_fail 6 = .ok (.ireturn, 1) := by decide +kernel
abbrev k_X3_fail : zK := (cX3_fail, 2, RX3, (some .boolean), ({ frames := 0, cells := 0, slots := 0, locals := 0 } : Room))
theorem zc_X3_fail : zcal yX3_fail k_X3_fail.1 k_X3_fail.2.1 k_X3_fail.2.2.2.1 1 := ⟨tw_code_yX3_fail, tw_i_TollForHesitators_Reader, ⟨by decide +kernel, by decide +kernel⟩, by decide +kernel⟩
theorem zv_X3_fail : Cond.instanceMethod yX3_fail ∈ TS ∧ Cond.selects RX3 yX3_fail yX3_fail ∈ TS := ⟨tw_inst_yX3_fail, tw_s_yX3_fail⟩
def v_X3_fail (E : e2T) (x1 : Int32) : Int32 × e2T := (0, e2f E 1 x1)
theorem nb_X3_fail (E : e2T) (x1 : Int32) : narrow .boolean (.int (v_X3_fail E x1).1) = .int (v_X3_fail E x1).1 := by
  unfold v_X3_fail
  dsimp only
  (repeat' (first | with_reducible exact nz0 | with_reducible exact nz1 | with_reducible assumption | split | refine nb_oc ?_ (fun _ => ?_)))
set_option maxHeartbeats 800000 in
theorem c_X3_fail {l : Launch} (G : zG) (P : pT) (a : Nat → Nat) (q : Nat) (sz : Nat) (E : e2T) (x1 : Int32) : Met l yX3_fail (.code yX3_fail k_X3_fail.1 k_X3_fail.2.1 k_X3_fail.2.2.2.1 :: TS) k_X3_fail.2.2.2.2 (Pz G [.ref (a 0), .int x1] (Fw G (gX G P) (re2W G a q E) sz)) (Qwi G (fun r w => r = (v_X3_fail E x1).1 ∧ w = re2W G a q ((v_X3_fail E x1).2)) (va_A (re2W G a q E) sz)) 0 0 (va_A (re2W G a q E) sz) := by
  refine zmet (K := k_X3_fail) (by decide +kernel) rfl rfl (fun Γ hl0 hQ hN hF => ?_)
  refine z_start (gX_ok G P) hF (fun hw => ?_)
  generalize va_A (re2W G a q E) sz = A at hQ hw ⊢
  obtain ⟨res, hv⟩ : ∃ res, v_X3_fail E x1 = res := ⟨_, rfl⟩
  rw [hv] at hQ
  unfold v_X3_fail at hv
  show Z k_X3_fail G Γ _ 0 0 [(0, .ref (a 0)), (1, .int x1)] 0 []
  refine z_aload_n dX3_fail_0 rfl ?_
  refine z_iload_n dX3_fail_1 rfl ?_
  refine z_put (fs := re2F a q E) (v := .int x1) (ws' := re2W G a q (e2f E 1 x1)) 0 rfl rfl uin_X3 tyX3 tyX3_ok nmX3 1 (Nat.le_of_ble_eq_true rfl) tw_f_RX3_15 rfl rfl (ty := .int) rfl rfl rfl (Nat.le_of_ble_eq_true rfl) rfl dX3_fail_2 ?_
  refine z_iconst (v := 0) dX3_fail_5 rfl ?_
  subst hv; exact z_zret_W hQ rfl rfl rfl rfl ⟨rfl, rfl⟩ dX3_fail_6
theorem dX3_letter_0 : decode cX3_letter 0 = .ok (.iload_n 1, 1) := by decide +kernel
theorem dX3_letter_1 : decode cX3_letter 1 = .ok (.ifCond .lt 20, 3) := by decide +kernel
theorem dX3_letter_4 : decode cX3_letter 4 = .ok (.iload_n 1, 1) := by decide +kernel
theorem dX3_letter_5 : decode cX3_letter 5 = .ok (.aload_n 0, 1) := by decide +kernel
theorem dX3_letter_6 : decode cX3_letter 6 = .ok (.getfield 26, 3) := by decide +kernel
theorem dX3_letter_9 : decode cX3_letter 9 = .ok (.if_icmp .ge 12, 3) := by decide +kernel
theorem dX3_letter_12 : decode cX3_letter 12 = .ok (.iload_n 1, 1) := by decide +kernel
theorem dX3_letter_13 : decode cX3_letter 13 = .ok (.aload_n 0, 1) := by decide +kernel
theorem dX3_letter_14 : decode cX3_letter 14 = .ok (.getfield 22, 3) := by decide +kernel
theorem dX3_letter_17 : decode cX3_letter 17 = .ok (.arraylength, 1) := by decide +kernel
theorem dX3_letter_18 : decode cX3_letter 18 = .ok (.if_icmp .lt 7, 3) := by decide +kernel
theorem dX3_letter_21 : decode cX3_letter 21 = .ok (.iconst 0, 1) := by decide +kernel
theorem dX3_letter_22 : decode cX3_letter 22 = .ok (.goto 10, 3) := by decide +kernel
theorem dX3_letter_25 : decode cX3_letter 25 = .ok (.aload_n 0, 1) := by decide +kernel
theorem dX3_letter_26 : decode cX3_letter 26 = .ok (.getfield 22, 3) := by decide +kernel
theorem dX3_letter_29 : decode cX3_letter 29 = .ok (.iload_n 1, 1) := by decide +kernel
theorem dX3_letter_30 : decode cX3_letter 30 = .ok (.laload, 1) := by decide +kernel
theorem dX3_letter_31 : decode cX3_letter 31 = .ok (.l2i, 1) := by decide +kernel
theorem dX3_letter_32 : decode cX3_letter 32 = .ok (.ireturn, 1) := by decide +kernel
abbrev k_X3_letter : zK := (cX3_letter, 2, RX3, (some .int), ({ frames := 0, cells := 0, slots := 0, locals := 0 } : Room))
theorem zc_X3_letter : zcal yX3_letter k_X3_letter.1 k_X3_letter.2.1 k_X3_letter.2.2.2.1 1 := ⟨tw_code_yX3_letter, tw_i_TollForHesitators_Reader, ⟨by decide +kernel, by decide +kernel⟩, by decide +kernel⟩
theorem zv_X3_letter : Cond.instanceMethod yX3_letter ∈ TS ∧ Cond.selects RX3 yX3_letter yX3_letter ∈ TS := ⟨tw_inst_yX3_letter, tw_s_yX3_letter⟩
def v_X3_letter (E : e2T) (f : (Nat → Int64)) (x1 : Int32) : Int32 := (if x1 < 0 then 0 else (if (E.1 4) ≤ x1 then 0 else (if x1 < 160 then (f x1.toNatClampNeg).toInt32 else 0)))
def p_X3_letter (E : e2T) (f : (Nat → Int64)) (x1 : Int32) : Prop := if x1 < 0 then True else if (E.1 4) ≤ x1 then True else if x1 < 160 then vp_in x1 160 else True
set_option maxHeartbeats 800000 in
theorem c_X3_letter {l : Launch} (G : zG) (P : pT) (a : Nat → Nat) (q : Nat) (E : e2T) (f : (Nat → Int64)) (x1 : Int32) (hp : p_X3_letter E f x1) : Met l yX3_letter (.code yX3_letter k_X3_letter.1 k_X3_letter.2.1 k_X3_letter.2.2.2.1 :: TS) k_X3_letter.2.2.2.2 (Pz G [.ref (a 0), .int x1] (Fr G P (re2W G a q E ++ ltW G q f))) (vp_Si (fun r => r = v_X3_letter E f x1)) 0 0 (fun _ => False) := by
  refine zmet (K := k_X3_letter) (by decide +kernel) rfl rfl (fun Γ hl0 hQ hN hF => ?_)
  have hI := rd_P (G := G) hF.1
  have hG := rd_F hF.2
  obtain ⟨res, hv⟩ : ∃ res, v_X3_letter E f x1 = res := ⟨_, rfl⟩
  rw [hv] at hQ
  unfold v_X3_letter at hv
  unfold p_X3_letter at hp
  show Z k_X3_letter G Γ _ 0 0 [(0, .ref (a 0)), (1, .int x1)] 0 []
  refine z_iload_n dX3_letter_0 rfl ?_
  have hpm := hp
  have J8 : ∀ m7 : Int32, m7 = (if x1 < 0 then 0 else (if (E.1 4) ≤ x1 then 0 else (if x1 < 160 then (f x1.toNatClampNeg).toInt32 else 0))) → Z k_X3_letter G Γ (rd Γ.2.2.1.1.heap) 0 0 [(0, .ref (a 0)), (1, .int x1)] 32 [.int m7] := by
    intro m7 em7
    rewrite [em7]; clear em7
    exact z_iret_S hQ rfl hv dX3_letter_32
  refine z_if_lt (tgt := 21) dX3_letter_1 (by decide) (fun c1 => ?_) (fun c1 => ?_)
  · have hp := ip_t hpm c1
    refine z_iconst (v := 0) dX3_letter_21 rfl ?_
    refine z_goto (tgt := 32) dX3_letter_22 (by decide) ?_
    exact z_lv rfl (J8 _ (if_pos c1).symm)
  · have hp := ip_f hpm c1
    refine z_iload_n dX3_letter_4 rfl ?_
    refine z_aload_n dX3_letter_5 rfl ?_
    refine z_get (v := .int (E.1 4)) hI 0 rfl rfl uin_X3 4 (Nat.le_of_ble_eq_true rfl) tw_f_RX3_26 rfl rfl dX3_letter_6 ?_
    have hpm := hp
    have J9 : ∀ m6 : Int32, m6 = (if (E.1 4) ≤ x1 then 0 else (if x1 < 160 then (f x1.toNatClampNeg).toInt32 else 0)) → Z k_X3_letter G Γ (rd Γ.2.2.1.1.heap) 0 0 [(0, .ref (a 0)), (1, .int x1)] 32 [.int m6] := by
      intro m6 em6
      rewrite [em6]; clear em6
      exact z_lv rfl (J8 _ (if_neg c1).symm)
    refine z_icmp_ge (tgt := 21) dX3_letter_9 (by decide) (fun c2 => ?_) (fun c2 => ?_)
    · have hp := ip_t hpm c2
      refine z_iconst (v := 0) dX3_letter_21 rfl ?_
      refine z_goto (tgt := 32) dX3_letter_22 (by decide) ?_
      exact z_lv rfl (J9 _ (if_pos c2).symm)
    · have hp := ip_f hpm c2
      refine z_iload_n dX3_letter_12 rfl ?_
      refine z_aload_n dX3_letter_13 rfl ?_
      refine z_get (v := .ref q) hI 0 rfl rfl uin_X3 3 (Nat.le_of_ble_eq_true rfl) tw_f_RX3_22 rfl rfl dX3_letter_14 ?_
      refine z_alen (cA := G.2.2.1 0) (v := 160) 1 (fun _ => rfl) hI 2 rfl rfl dX3_letter_17 ?_
      have hpm := hp
      have J10 : ∀ m5 : Int32, m5 = (if x1 < 160 then (f x1.toNatClampNeg).toInt32 else 0) → Z k_X3_letter G Γ (rd Γ.2.2.1.1.heap) 0 0 [(0, .ref (a 0)), (1, .int x1)] 32 [.int m5] := by
        intro m5 em5
        rewrite [em5]; clear em5
        exact z_lv rfl (J9 _ (if_neg c2).symm)
      refine z_icmp_lt (tgt := 25) dX3_letter_18 (by decide) (fun c3 => ?_) (fun c3 => ?_)
      · have hp := ip_t hpm c3
        refine z_aload_n dX3_letter_25 rfl ?_
        refine z_get (v := .ref q) hI 0 rfl rfl uin_X3 3 (Nat.le_of_ble_eq_true rfl) tw_f_RX3_22 rfl rfl dX3_letter_26 ?_
        refine z_iload_n dX3_letter_29 rfl ?_
        have q4 := hp
        refine z_laldx (x := f x1.toNatClampNeg) hI 2 rfl q4 rfl dX3_letter_30 ?_
        refine z_l2i dX3_letter_31 ?_
        exact z_lv rfl (J10 _ (if_pos c3).symm)
      · have hp := ip_f hpm c3
        refine z_iconst (v := 0) dX3_letter_21 rfl ?_
        refine z_goto (tgt := 32) dX3_letter_22 (by decide) ?_
        exact z_lv rfl (J10 _ (if_neg c3).symm)
theorem dX3_sign_0 : decode cX3_sign 0 = .ok (.aload_n 0, 1) := by decide +kernel
theorem dX3_sign_1 : decode cX3_sign 1 = .ok (.aload_n 0, 1) := by decide +kernel
theorem dX3_sign_2 : decode cX3_sign 2 = .ok (.getfield 29, 3) := by decide +kernel
theorem dX3_sign_5 : decode cX3_sign 5 = .ok (.invokevirtual 52, 3) := by decide +kernel
theorem dX3_sign_8 : decode cX3_sign 8 = .ok (.iload_n 1, 1) := by decide +kernel
theorem dX3_sign_9 : decode cX3_sign 9 = .ok (.if_icmp .eq 12, 3) := by decide +kernel
theorem dX3_sign_12 : decode cX3_sign 12 = .ok (.aload_n 0, 1) := by decide +kernel
theorem dX3_sign_13 : decode cX3_sign 13 = .ok (.aload_n 0, 1) := by decide +kernel
theorem dX3_sign_14 : decode cX3_sign 14 = .ok (.getfield 29, 3) := by decide +kernel
theorem dX3_sign_17 : decode cX3_sign 17 = .ok (.invokevirtual 49, 3) := by decide +kernel
theorem dX3_sign_20 : decode cX3_sign 20 = .ok (.ireturn, 1) := by decide +kernel
theorem dX3_sign_21 : decode cX3_sign 21 = .ok (.aload_n 0, 1) := by decide +kernel
theorem dX3_sign_22 : decode cX3_sign 22 = .ok (.dup, 1) := by decide +kernel
theorem dX3_sign_23 : decode cX3_sign 23 = .ok (.getfield 29, 3) := by decide +kernel
theorem dX3_sign_26 : decode cX3_sign 26 = .ok (.iconst 1, 1) := by decide +kernel
theorem dX3_sign_27 : decode cX3_sign 27 = .ok (.iadd, 1) := by decide +kernel
theorem dX3_sign_28 : decode cX3_sign 28 = .ok (.putfield 29, 3) := by decide +kernel
theorem dX3_sign_31 : decode cX3_sign 31 = .ok (.iconst 1, 1) := by decide +kernel
theorem dX3_sign_32 : decode cX3_sign 32 = .ok (.ireturn, 1) := by decide +kernel
abbrev k_X3_sign : zK := (cX3_sign, 2, RX3, (some .boolean), ({ frames := 1, cells := 0, slots := 0, locals := 21 } : Room))
theorem zc_X3_sign : zcal yX3_sign k_X3_sign.1 k_X3_sign.2.1 k_X3_sign.2.2.2.1 1 := ⟨tw_code_yX3_sign, tw_i_TollForHesitators_Reader, ⟨by decide +kernel, by decide +kernel⟩, by decide +kernel⟩
theorem zv_X3_sign : Cond.instanceMethod yX3_sign ∈ TS ∧ Cond.selects RX3 yX3_sign yX3_sign ∈ TS := ⟨tw_inst_yX3_sign, tw_s_yX3_sign⟩
def v_X3_sign (E : e2T) (f : (Nat → Int64)) (x1 : Int32) : Int32 × e2T := if (v_X3_letter E f (E.1 5)) = x1 then (1, e2f E 5 ((E.1 5) + 1)) else kk (v_X3_fail E (E.1 5)) (fun q3 : Int32 × e2T => (q3.1, q3.2))
def p_X3_sign (E : e2T) (f : (Nat → Int64)) (x1 : Int32) : Prop := p_X3_letter E f (E.1 5)
theorem nb_X3_sign (E : e2T) (f : (Nat → Int64)) (x1 : Int32) : narrow .boolean (.int (v_X3_sign E f x1).1) = .int (v_X3_sign E f x1).1 := by
  unfold v_X3_sign
  simp only [kk]
  (repeat' (first | with_reducible exact nz0 | with_reducible exact nz1 | with_reducible assumption | with_reducible exact nb_X3_fail .. | split | refine nb_oc ?_ (fun _ => ?_)))
set_option maxHeartbeats 800000 in
theorem c_X3_sign {l : Launch} (G : zG) (P : pT) (a : Nat → Nat) (q : Nat) (sz : Nat) (E : e2T) (f : (Nat → Int64)) (x1 : Int32) (hp : p_X3_sign E f x1) : Met l yX3_sign (.code yX3_sign k_X3_sign.1 k_X3_sign.2.1 k_X3_sign.2.2.2.1 :: TS) k_X3_sign.2.2.2.2 (Pz G [.ref (a 0), .int x1] (Fw G (gX G P) (re2W G a q E ++ ltW G q f) sz)) (Qwi G (fun r w => r = (v_X3_sign E f x1).1 ∧ w = re2W G a q ((v_X3_sign E f x1).2) ++ ltW G q f) (va_A (re2W G a q E ++ ltW G q f) sz)) 0 0 (va_A (re2W G a q E ++ ltW G q f) sz) := by
  refine zmet (K := k_X3_sign) (by decide +kernel) rfl rfl (fun Γ hl0 hQ hN hF => ?_)
  refine z_start (gX_ok G P) hF (fun hw => ?_)
  generalize va_A (re2W G a q E ++ ltW G q f) sz = A at hQ hw ⊢
  obtain ⟨res, hv⟩ : ∃ res, v_X3_sign E f x1 = res := ⟨_, rfl⟩
  rw [hv] at hQ
  unfold v_X3_sign at hv
  unfold p_X3_sign at hp
  show Z k_X3_sign G Γ _ 0 0 [(0, .ref (a 0)), (1, .int x1)] 0 []
  refine z_aload_n dX3_sign_0 rfl ?_
  refine z_aload_n dX3_sign_1 rfl ?_
  refine z_get (v := .int (E.1 5)) wr_P 0 rfl rfl uin_X3 5 (Nat.le_of_ble_eq_true rfl) tw_f_RX3_29 rfl rfl dX3_sign_2 ?_
  have q1 := hp
  refine z_cvi (c_X3_letter G P a q E f (E.1 5) q1) zc_X3_letter zv_X3_letter tw_m_RX3_52 (zrec_of wr_P 0 rfl rfl) (fr_all wr_P (wr_G hw)) (zroom_of rfl) rfl (Nat.le_of_ble_eq_true rfl) dX3_sign_5 ?_
  refine z_iload_n dX3_sign_8 rfl ?_
  refine z_icmp_eq (tgt := 21) dX3_sign_9 (by decide) (fun c2 => ?_) (fun c2 => ?_)
  · have hv := it_t hv c2
    refine z_aload_n dX3_sign_21 rfl ?_
    refine z_dup dX3_sign_22 rfl ?_
    refine z_get (v := .int (E.1 5)) wr_P 0 rfl rfl uin_X3 5 (Nat.le_of_ble_eq_true rfl) tw_f_RX3_29 rfl rfl dX3_sign_23 ?_
    refine z_iconst (v := 1) dX3_sign_26 rfl ?_
    refine z_iadd dX3_sign_27 ?_
    refine z_put (fs := re2F a q E) (v := .int ((E.1 5) + 1)) (ws' := re2W G a q (e2f E 5 ((E.1 5) + 1)) ++ ltW G q f) 0 rfl rfl uin_X3 tyX3 tyX3_ok nmX3 5 (Nat.le_of_ble_eq_true rfl) tw_f_RX3_29 rfl rfl (ty := .int) rfl rfl rfl (Nat.le_of_ble_eq_true rfl) rfl dX3_sign_28 ?_
    refine z_iconst (v := 1) dX3_sign_31 rfl ?_
    subst hv; exact z_zret_W hQ rfl rfl rfl rfl ⟨rfl, rfl⟩ dX3_sign_32
  · have hv := it_f hv c2
    refine z_aload_n dX3_sign_12 rfl ?_
    refine z_aload_n dX3_sign_13 rfl ?_
    refine z_get (v := .int (E.1 5)) wr_P 0 rfl rfl uin_X3 5 (Nat.le_of_ble_eq_true rfl) tw_f_RX3_29 rfl rfl dX3_sign_14 ?_
    refine z_cwviD (ws' := re2W G a q ((v_X3_fail E (E.1 5)).2) ++ ltW G q f) hw (fun sz => c_X3_fail G P a q sz E (E.1 5) ) [0, 1] [2] [1, 2, 0] 3 rfl rfl rfl rfl zc_X3_fail zv_X3_fail tw_m_RX3_49 (zrec_of wr_P 0 rfl rfl) (zroom_of rfl) rfl (Nat.le_of_ble_eq_true rfl) dX3_sign_17 ?_
    suffices z4 : ∀ q3 : Int32 × e2T, q3 = (v_X3_fail E (E.1 5)) → narrow .boolean (.int q3.1) = .int q3.1 → Z k_X3_sign G Γ (wr G A Γ.2.2.1.1.heap (re2W G a q q3.2 ++ ltW G q f)) 0 0 [(0, .ref (a 0)), (1, .int x1)] 20 [.int q3.1] from z4 _ rfl (nb_X3_fail E (E.1 5))
    intro q3 hq3 nq3
    have hv := kk_vq hv hq3
    clear hq3
    subst hv; exact z_zret_W hQ rfl (by (repeat' (first | with_reducible exact nz0 | with_reducible exact nz1 | with_reducible assumption | with_reducible exact nb_X3_fail .. | split | refine nb_oc ?_ (fun _ => ?_)))) rfl rfl ⟨rfl, rfl⟩ dX3_sign_20
theorem dX3_numeral_0 : decode cX3_numeral 0 = .ok (.aload_n 0, 1) := by decide +kernel
theorem dX3_numeral_1 : decode cX3_numeral 1 = .ok (.bipush 32, 2) := by decide +kernel
theorem dX3_numeral_3 : decode cX3_numeral 3 = .ok (.invokevirtual 45, 3) := by decide +kernel
theorem dX3_numeral_6 : decode cX3_numeral 6 = .ok (.ifCond .ne 5, 3) := by decide +kernel
theorem dX3_numeral_9 : decode cX3_numeral 9 = .ok (.iconst 0, 1) := by decide +kernel
theorem dX3_numeral_10 : decode cX3_numeral 10 = .ok (.ireturn, 1) := by decide +kernel
theorem dX3_numeral_11 : decode cX3_numeral 11 = .ok (.aload_n 0, 1) := by decide +kernel
theorem dX3_numeral_12 : decode cX3_numeral 12 = .ok (.getfield 29, 3) := by decide +kernel
theorem dX3_numeral_15 : decode cX3_numeral 15 = .ok (.istore_n 3, 1) := by decide +kernel
theorem dX3_numeral_16 : decode cX3_numeral 16 = .ok (.aload_n 0, 1) := by decide +kernel
theorem dX3_numeral_17 : decode cX3_numeral 17 = .ok (.iload_n 3, 1) := by decide +kernel
theorem dX3_numeral_18 : decode cX3_numeral 18 = .ok (.invokevirtual 52, 3) := by decide +kernel
theorem dX3_numeral_21 : decode cX3_numeral 21 = .ok (.invokestatic 135, 3) := by decide +kernel
theorem dX3_numeral_24 : decode cX3_numeral 24 = .ok (.ifCond .ne 9, 3) := by decide +kernel
theorem dX3_numeral_27 : decode cX3_numeral 27 = .ok (.aload_n 0, 1) := by decide +kernel
theorem dX3_numeral_28 : decode cX3_numeral 28 = .ok (.iload_n 3, 1) := by decide +kernel
theorem dX3_numeral_29 : decode cX3_numeral 29 = .ok (.invokevirtual 49, 3) := by decide +kernel
theorem dX3_numeral_32 : decode cX3_numeral 32 = .ok (.ireturn, 1) := by decide +kernel
theorem dX3_numeral_33 : decode cX3_numeral 33 = .ok (.aload_n 0, 1) := by decide +kernel
theorem dX3_numeral_34 : decode cX3_numeral 34 = .ok (.aload_n 0, 1) := by decide +kernel
theorem dX3_numeral_35 : decode cX3_numeral 35 = .ok (.iload_n 3, 1) := by decide +kernel
theorem dX3_numeral_36 : decode cX3_numeral 36 = .ok (.invokevirtual 52, 3) := by decide +kernel
theorem dX3_numeral_39 : decode cX3_numeral 39 = .ok (.bipush 48, 2) := by decide +kernel
theorem dX3_numeral_41 : decode cX3_numeral 41 = .ok (.isub, 1) := by decide +kernel
theorem dX3_numeral_42 : decode cX3_numeral 42 = .ok (.putfield 32, 3) := by decide +kernel
theorem dX3_numeral_45 : decode cX3_numeral 45 = .ok (.aload_n 0, 1) := by decide +kernel
theorem dX3_numeral_46 : decode cX3_numeral 46 = .ok (.dup, 1) := by decide +kernel
theorem dX3_numeral_47 : decode cX3_numeral 47 = .ok (.getfield 29, 3) := by decide +kernel
theorem dX3_numeral_50 : decode cX3_numeral 50 = .ok (.iconst 1, 1) := by decide +kernel
theorem dX3_numeral_51 : decode cX3_numeral 51 = .ok (.iadd, 1) := by decide +kernel
theorem dX3_numeral_52 : decode cX3_numeral 52 = .ok (.putfield 29, 3) := by decide +kernel
theorem dX3_numeral_55 : decode cX3_numeral 55 = .ok (.aload_n 0, 1) := by decide +kernel
theorem dX3_numeral_56 : decode cX3_numeral 56 = .ok (.aload_n 0, 1) := by decide +kernel
theorem dX3_numeral_57 : decode cX3_numeral 57 = .ok (.getfield 29, 3) := by decide +kernel
theorem dX3_numeral_60 : decode cX3_numeral 60 = .ok (.invokevirtual 52, 3) := by decide +kernel
theorem dX3_numeral_63 : decode cX3_numeral 63 = .ok (.invokestatic 135, 3) := by decide +kernel
theorem dX3_numeral_66 : decode cX3_numeral 66 = .ok (.ifCond .eq 36, 3) := by decide +kernel
theorem dX3_numeral_69 : decode cX3_numeral 69 = .ok (.aload_n 0, 1) := by decide +kernel
theorem dX3_numeral_70 : decode cX3_numeral 70 = .ok (.bipush 10, 2) := by decide +kernel
theorem dX3_numeral_72 : decode cX3_numeral 72 = .ok (.aload_n 0, 1) := by decide +kernel
theorem dX3_numeral_73 : decode cX3_numeral 73 = .ok (.getfield 32, 3) := by decide +kernel
theorem dX3_numeral_76 : decode cX3_numeral 76 = .ok (.imul, 1) := by decide +kernel
theorem dX3_numeral_77 : decode cX3_numeral 77 = .ok (.aload_n 0, 1) := by decide +kernel
theorem dX3_numeral_78 : decode cX3_numeral 78 = .ok (.aload_n 0, 1) := by decide +kernel
theorem dX3_numeral_79 : decode cX3_numeral 79 = .ok (.getfield 29, 3) := by decide +kernel
theorem dX3_numeral_82 : decode cX3_numeral 82 = .ok (.invokevirtual 52, 3) := by decide +kernel
theorem dX3_numeral_85 : decode cX3_numeral 85 = .ok (.iadd, 1) := by decide +kernel
theorem dX3_numeral_86 : decode cX3_numeral 86 = .ok (.bipush 48, 2) := by decide +kernel
theorem dX3_numeral_88 : decode cX3_numeral 88 = .ok (.isub, 1) := by decide +kernel
theorem dX3_numeral_89 : decode cX3_numeral 89 = .ok (.putfield 32, 3) := by decide +kernel
theorem dX3_numeral_92 : decode cX3_numeral 92 = .ok (.aload_n 0, 1) := by decide +kernel
theorem dX3_numeral_93 : decode cX3_numeral 93 = .ok (.dup, 1) := by decide +kernel
theorem dX3_numeral_94 : decode cX3_numeral 94 = .ok (.getfield 29, 3) := by decide +kernel
theorem dX3_numeral_97 : decode cX3_numeral 97 = .ok (.iconst 1, 1) := by decide +kernel
theorem dX3_numeral_98 : decode cX3_numeral 98 = .ok (.iadd, 1) := by decide +kernel
theorem dX3_numeral_99 : decode cX3_numeral 99 = .ok (.putfield 29, 3) := by decide +kernel
theorem dX3_numeral_102 : decode cX3_numeral 102 = .ok (.aload_n 0, 1) := by decide +kernel
theorem dX3_numeral_103 : decode cX3_numeral 103 = .ok (.getfield 32, 3) := by decide +kernel
theorem dX3_numeral_106 : decode cX3_numeral 106 = .ok (.iload_n 1, 1) := by decide +kernel
theorem dX3_numeral_107 : decode cX3_numeral 107 = .ok (.iload_n 2, 1) := by decide +kernel
theorem dX3_numeral_108 : decode cX3_numeral 108 = .ok (.invokestatic 138, 3) := by decide +kernel
theorem dX3_numeral_111 : decode cX3_numeral 111 = .ok (.ifCond .ne 11, 3) := by decide +kernel
theorem dX3_numeral_114 : decode cX3_numeral 114 = .ok (.aload_n 0, 1) := by decide +kernel
theorem dX3_numeral_115 : decode cX3_numeral 115 = .ok (.iload_n 3, 1) := by decide +kernel
theorem dX3_numeral_116 : decode cX3_numeral 116 = .ok (.invokevirtual 49, 3) := by decide +kernel
theorem dX3_numeral_119 : decode cX3_numeral 119 = .ok (.ifCond .eq 7, 3) := by decide +kernel
theorem dX3_numeral_122 : decode cX3_numeral 122 = .ok (.iconst 1, 1) := by decide +kernel
theorem dX3_numeral_123 : decode cX3_numeral 123 = .ok (.goto 4, 3) := by decide +kernel
theorem dX3_numeral_126 : decode cX3_numeral 126 = .ok (.iconst 0, 1) := by decide +kernel
theorem dX3_numeral_127 : decode cX3_numeral 127 = .ok (.ireturn, 1) := by decide +kernel
abbrev k_X3_numeral : zK := (cX3_numeral, 4, RX3, (some .boolean), ({ frames := 2, cells := 0, slots := 0, locals := 42 } : Room))
theorem zc_X3_numeral : zcal yX3_numeral k_X3_numeral.1 k_X3_numeral.2.1 k_X3_numeral.2.2.2.1 2 := ⟨tw_code_yX3_numeral, tw_i_TollForHesitators_Reader, ⟨by decide +kernel, by decide +kernel⟩, by decide +kernel⟩
theorem zv_X3_numeral : Cond.instanceMethod yX3_numeral ∈ TS ∧ Cond.selects RX3 yX3_numeral yX3_numeral ∈ TS := ⟨tw_inst_yX3_numeral, tw_s_yX3_numeral⟩
def v_X3_numeral (E : e2T) (f : (Nat → Int64)) (x1 : Int32) (x2 : Int32) : Int32 × e2T := kk (v_X3_sign E f 32) (fun q2 : Int32 × e2T => if q2.1 = 0 then (0, q2.2) else if (v_X3_isDigit (v_X3_letter q2.2 f (q2.2.1 5))) = 0 then kk (v_X3_fail q2.2 (q2.2.1 5)) (fun q18 : Int32 × e2T => (q18.1, q18.2)) else kk ((v_X3_letter (e2f (e2f q2.2 6 ((v_X3_letter q2.2 f (q2.2.1 5)) - 48)) 5 ((q2.2.1 5) + 1)) f ((q2.2.1 5) + 1))) (fun y8 : Int32 => kk (if (v_X3_isDigit y8) = 0 then e2f (e2f q2.2 6 ((v_X3_letter q2.2 f (q2.2.1 5)) - 48)) 5 ((q2.2.1 5) + 1) else e2f (e2f (e2f (e2f q2.2 6 ((v_X3_letter q2.2 f (q2.2.1 5)) - 48)) 5 ((q2.2.1 5) + 1)) 6 (((10 * ((v_X3_letter q2.2 f (q2.2.1 5)) - 48)) + (v_X3_letter (e2f (e2f q2.2 6 ((v_X3_letter q2.2 f (q2.2.1 5)) - 48)) 5 ((q2.2.1 5) + 1)) f ((q2.2.1 5) + 1))) - 48)) 5 (((q2.2.1 5) + 1) + 1)) (fun M11 : e2T => kk (if (v_X6_within (M11.1 6) x1 x2) = 0 then ((v_X3_fail M11 (q2.2.1 5)).2) else M11) (fun M16 : e2T => ((if (v_X6_within (M11.1 6) x1 x2) = 0 then (if ((v_X3_fail M11 (q2.2.1 5)).1) = 0 then (0 : Int32) else 1) else 1), M16)))))
def p_X3_numeral (E : e2T) (f : (Nat → Int64)) (x1 : Int32) (x2 : Int32) : Prop := p_X3_sign E f 32 ∧ (kk (v_X3_sign E f 32) (fun q2 : Int32 × e2T => if q2.1 = 0 then True else (p_X3_letter q2.2 f (q2.2.1 5)) ∧ (if (v_X3_isDigit (v_X3_letter q2.2 f (q2.2.1 5))) = 0 then True else (p_X3_letter q2.2 f (q2.2.1 5)) ∧ ((p_X3_letter (e2f (e2f q2.2 6 ((v_X3_letter q2.2 f (q2.2.1 5)) - 48)) 5 ((q2.2.1 5) + 1)) f ((q2.2.1 5) + 1)) ∧ (kk ((v_X3_letter (e2f (e2f q2.2 6 ((v_X3_letter q2.2 f (q2.2.1 5)) - 48)) 5 ((q2.2.1 5) + 1)) f ((q2.2.1 5) + 1))) (fun y8 : Int32 => if (v_X3_isDigit y8) = 0 then True else p_X3_letter (e2f (e2f q2.2 6 ((v_X3_letter q2.2 f (q2.2.1 5)) - 48)) 5 ((q2.2.1 5) + 1)) f ((q2.2.1 5) + 1)))))))
theorem nb_X3_numeral (E : e2T) (f : (Nat → Int64)) (x1 : Int32) (x2 : Int32) : narrow .boolean (.int (v_X3_numeral E f x1 x2).1) = .int (v_X3_numeral E f x1 x2).1 := by
  unfold v_X3_numeral
  simp only [kk]
  (repeat' (first | with_reducible exact nz0 | with_reducible exact nz1 | with_reducible assumption | with_reducible exact nb_X3_fail .. | with_reducible exact nb_X3_isDigit .. | with_reducible exact nb_X3_sign .. | with_reducible exact nb_X6_within .. | split | refine nb_oc ?_ (fun _ => ?_)))
set_option maxHeartbeats 800000 in
theorem c_X3_numeral {l : Launch} (G : zG) (P : pT) (a : Nat → Nat) (q : Nat) (sz : Nat) (E : e2T) (f : (Nat → Int64)) (x1 : Int32) (x2 : Int32) (hp : p_X3_numeral E f x1 x2) : Met l yX3_numeral (.code yX3_numeral k_X3_numeral.1 k_X3_numeral.2.1 k_X3_numeral.2.2.2.1 :: TS) k_X3_numeral.2.2.2.2 (Pz G [.ref (a 0), .int x1, .int x2] (Fw G (gX G P) (re2W G a q E ++ ltW G q f) sz)) (Qwi G (fun r w => r = (v_X3_numeral E f x1 x2).1 ∧ w = re2W G a q ((v_X3_numeral E f x1 x2).2) ++ ltW G q f) (va_A (re2W G a q E ++ ltW G q f) sz)) 0 0 (va_A (re2W G a q E ++ ltW G q f) sz) := by
  refine zmet (K := k_X3_numeral) (by decide +kernel) rfl rfl (fun Γ hl0 hQ hN hF => ?_)
  refine z_start (gX_ok G P) hF (fun hw => ?_)
  generalize va_A (re2W G a q E ++ ltW G q f) sz = A at hQ hw ⊢
  obtain ⟨res, hv⟩ : ∃ res, v_X3_numeral E f x1 x2 = res := ⟨_, rfl⟩
  rw [hv] at hQ
  unfold v_X3_numeral at hv
  unfold p_X3_numeral at hp
  show Z k_X3_numeral G Γ _ 0 0 [(0, .ref (a 0)), (1, .int x1), (2, .int x2)] 0 []
  refine z_aload_n dX3_numeral_0 rfl ?_
  refine z_bipush (v := 32) dX3_numeral_1 rfl ?_
  obtain ⟨q1, hp⟩ := hp
  refine z_caviD (W' := re2W G a q ((v_X3_sign E f 32).2) ++ ltW G q f) hw (fun sz => c_X3_sign G P a q sz E f 32 q1) zc_X3_sign zv_X3_sign tw_m_RX3_45 (zrec_of wr_P 0 rfl rfl) (zroom_of rfl) rfl (Nat.le_of_ble_eq_true rfl) dX3_numeral_3 ?_
  suffices z19 : ∀ q2 : Int32 × e2T, q2 = (v_X3_sign E f 32) → narrow .boolean (.int q2.1) = .int q2.1 → Z k_X3_numeral G Γ (wr G A Γ.2.2.1.1.heap (re2W G a q q2.2 ++ ltW G q f)) 0 0 [(0, .ref (a 0)), (1, .int x1), (2, .int x2)] 6 [.int q2.1] from z19 _ rfl (nb_X3_sign E f 32)
  intro q2 hq2 nq2
  have hp := kk_pq hp hq2
  have hv := kk_vq hv hq2
  clear hq2
  refine z_if_ne (tgt := 11) dX3_numeral_6 (by decide) (fun c3 => ?_) (fun c3 => ?_)
  · have hp := ip_f hp c3; have hv := it_f hv c3
    refine z_aload_n dX3_numeral_11 rfl ?_
    refine z_get (v := .int (q2.2.1 5)) wr_P 0 rfl rfl uin_X3 5 (Nat.le_of_ble_eq_true rfl) tw_f_RX3_29 rfl rfl dX3_numeral_12 ?_
    refine z_istore_n (lv' := [(3, .int (q2.2.1 5)), (0, .ref (a 0)), (1, .int x1), (2, .int x2)]) dX3_numeral_15 (Nat.le_of_ble_eq_true rfl) rfl ?_
    refine z_aload_n dX3_numeral_16 rfl ?_
    refine z_iload_n dX3_numeral_17 rfl ?_
    obtain ⟨q4, hp⟩ := hp
    refine z_cvi (c_X3_letter G P a q q2.2 f (q2.2.1 5) q4) zc_X3_letter zv_X3_letter tw_m_RX3_52 (zrec_of wr_P 0 rfl rfl) (fr_all wr_P (wr_G hw)) (zroom_of rfl) rfl (Nat.le_of_ble_eq_true rfl) dX3_numeral_18 ?_
    refine z_csi (c_X3_isDigit G P (v_X3_letter q2.2 f (q2.2.1 5)) ) zc_X3_isDigit tw_st_yX3_isDigit tw_m_RX3_135 (fr_all (sub_P wr_P [] rfl) (wr_G hw)) (zroom_of rfl) rfl (Nat.le_of_ble_eq_true rfl) dX3_numeral_21 ?_
    refine z_if_ne (tgt := 33) dX3_numeral_24 (by decide) (fun c5 => ?_) (fun c5 => ?_)
    · have hp := ip_f hp c5; have hv := it_f hv c5
      refine z_aload_n dX3_numeral_33 rfl ?_
      refine z_aload_n dX3_numeral_34 rfl ?_
      refine z_iload_n dX3_numeral_35 rfl ?_
      obtain ⟨q6, hp⟩ := hp
      refine z_cvi (c_X3_letter G P a q q2.2 f (q2.2.1 5) q6) zc_X3_letter zv_X3_letter tw_m_RX3_52 (zrec_of wr_P 0 rfl rfl) (fr_all wr_P (wr_G hw)) (zroom_of rfl) rfl (Nat.le_of_ble_eq_true rfl) dX3_numeral_36 ?_
      refine z_bipush (v := 48) dX3_numeral_39 rfl ?_
      refine z_isub dX3_numeral_41 ?_
      refine z_put (fs := re2F a q q2.2) (v := .int ((v_X3_letter q2.2 f (q2.2.1 5)) - 48)) (ws' := re2W G a q (e2f q2.2 6 ((v_X3_letter q2.2 f (q2.2.1 5)) - 48)) ++ ltW G q f) 0 rfl rfl uin_X3 tyX3 tyX3_ok nmX3 6 (Nat.le_of_ble_eq_true rfl) tw_f_RX3_32 rfl rfl (ty := .int) rfl rfl rfl (Nat.le_of_ble_eq_true rfl) rfl dX3_numeral_42 ?_
      refine z_aload_n dX3_numeral_45 rfl ?_
      refine z_dup dX3_numeral_46 rfl ?_
      refine z_get (v := .int (q2.2.1 5)) wr_P 0 rfl rfl uin_X3 5 (Nat.le_of_ble_eq_true rfl) tw_f_RX3_29 rfl rfl dX3_numeral_47 ?_
      refine z_iconst (v := 1) dX3_numeral_50 rfl ?_
      refine z_iadd dX3_numeral_51 ?_
      refine z_put (fs := re2F a q (e2f q2.2 6 ((v_X3_letter q2.2 f (q2.2.1 5)) - 48))) (v := .int ((q2.2.1 5) + 1)) (ws' := re2W G a q (e2f (e2f q2.2 6 ((v_X3_letter q2.2 f (q2.2.1 5)) - 48)) 5 ((q2.2.1 5) + 1)) ++ ltW G q f) 0 rfl rfl uin_X3 tyX3 tyX3_ok nmX3 5 (Nat.le_of_ble_eq_true rfl) tw_f_RX3_29 rfl rfl (ty := .int) rfl rfl rfl (Nat.le_of_ble_eq_true rfl) rfl dX3_numeral_52 ?_
      refine z_aload_n dX3_numeral_55 rfl ?_
      refine z_aload_n dX3_numeral_56 rfl ?_
      refine z_get (v := .int ((q2.2.1 5) + 1)) wr_P 0 rfl rfl uin_X3 5 (Nat.le_of_ble_eq_true rfl) tw_f_RX3_29 rfl rfl dX3_numeral_57 ?_
      obtain ⟨q7, hp⟩ := hp
      refine z_cvi (c_X3_letter G P a q (e2f (e2f q2.2 6 ((v_X3_letter q2.2 f (q2.2.1 5)) - 48)) 5 ((q2.2.1 5) + 1)) f ((q2.2.1 5) + 1) q7) zc_X3_letter zv_X3_letter tw_m_RX3_52 (zrec_of wr_P 0 rfl rfl) (fr_all wr_P (wr_G hw)) (zroom_of rfl) rfl (Nat.le_of_ble_eq_true rfl) dX3_numeral_60 ?_
      suffices z20 : ∀ y8 : Int32, y8 = ((v_X3_letter (e2f (e2f q2.2 6 ((v_X3_letter q2.2 f (q2.2.1 5)) - 48)) 5 ((q2.2.1 5) + 1)) f ((q2.2.1 5) + 1))) → Z k_X3_numeral G Γ (wr G A Γ.2.2.1.1.heap (re2W G a q (e2f (e2f q2.2 6 ((v_X3_letter q2.2 f (q2.2.1 5)) - 48)) 5 ((q2.2.1 5) + 1)) ++ ltW G q f)) 0 0 [(3, .int (q2.2.1 5)), (0, .ref (a 0)), (1, .int x1), (2, .int x2)] 63 [.int y8] from z20 _ rfl
      intro y8 hy8
      have hp := kk_pq hp hy8
      have hv := kk_vq hv hy8
      clear hy8
      refine z_csi (c_X3_isDigit G P y8 ) zc_X3_isDigit tw_st_yX3_isDigit tw_m_RX3_135 (fr_all (sub_P wr_P [] rfl) (wr_G hw)) (zroom_of rfl) rfl (Nat.le_of_ble_eq_true rfl) dX3_numeral_63 ?_
      have hpm := hp
      have J21 : ∀ M11 : e2T, M11 = (if (v_X3_isDigit y8) = 0 then e2f (e2f q2.2 6 ((v_X3_letter q2.2 f (q2.2.1 5)) - 48)) 5 ((q2.2.1 5) + 1) else e2f (e2f (e2f (e2f q2.2 6 ((v_X3_letter q2.2 f (q2.2.1 5)) - 48)) 5 ((q2.2.1 5) + 1)) 6 (((10 * ((v_X3_letter q2.2 f (q2.2.1 5)) - 48)) + (v_X3_letter (e2f (e2f q2.2 6 ((v_X3_letter q2.2 f (q2.2.1 5)) - 48)) 5 ((q2.2.1 5) + 1)) f ((q2.2.1 5) + 1))) - 48)) 5 (((q2.2.1 5) + 1) + 1)) → Z k_X3_numeral G Γ (wr G A Γ.2.2.1.1.heap (re2W G a q M11 ++ ltW G q f)) 0 0 [(3, .int (q2.2.1 5)), (0, .ref (a 0)), (1, .int x1), (2, .int x2)] 102 [] := by
        intro M11 eM11
        have hv := kk_vq hv eM11
        clear eM11
        refine z_aload_n dX3_numeral_102 rfl ?_
        refine z_get (v := .int (M11.1 6)) wr_P 0 rfl rfl uin_X3 6 (Nat.le_of_ble_eq_true rfl) tw_f_RX3_32 rfl rfl dX3_numeral_103 ?_
        refine z_iload_n dX3_numeral_106 rfl ?_
        refine z_iload_n dX3_numeral_107 rfl ?_
        refine z_csNi (host := RX6) (c_X6_within G P (M11.1 6) x1 x2 ) zc_X6_within tw_st_yX6_within (by decide +kernel) (fr_all (sub_P wr_P [] rfl) (wr_G hw)) (zroom_of rfl) rfl (Nat.le_of_ble_eq_true rfl) dX3_numeral_108 ?_
        have J22 : ∀ M16 : e2T, M16 = (if (v_X6_within (M11.1 6) x1 x2) = 0 then ((v_X3_fail M11 (q2.2.1 5)).2) else M11) → ∀ m17 : Int32, m17 = (if (v_X6_within (M11.1 6) x1 x2) = 0 then (if ((v_X3_fail M11 (q2.2.1 5)).1) = 0 then (0 : Int32) else 1) else 1) → Z k_X3_numeral G Γ (wr G A Γ.2.2.1.1.heap (re2W G a q M16 ++ ltW G q f)) 0 0 [(3, .int (q2.2.1 5)), (0, .ref (a 0)), (1, .int x1), (2, .int x2)] 127 [.int m17] := by
          intro M16 eM16 m17 em17
          have hv := kk_vq hv eM16
          clear eM16
          rewrite [em17]; clear em17
          subst hv; exact z_zret_W hQ rfl (by (repeat' (first | with_reducible exact nz0 | with_reducible exact nz1 | with_reducible assumption | with_reducible exact nb_X3_fail .. | with_reducible exact nb_X3_isDigit .. | with_reducible exact nb_X3_sign .. | with_reducible exact nb_X6_within .. | split | refine nb_oc ?_ (fun _ => ?_)))) rfl rfl ⟨rfl, rfl⟩ dX3_numeral_127
        refine z_if_ne (tgt := 122) dX3_numeral_111 (by decide) (fun c12 => ?_) (fun c12 => ?_)
        · skip
          refine z_iconst (v := 1) dX3_numeral_122 rfl ?_
          refine z_goto (tgt := 127) dX3_numeral_123 (by decide) ?_
          exact z_lv rfl (J22 _ (if_neg c12).symm _ (if_neg c12).symm)
        · skip
          refine z_aload_n dX3_numeral_114 rfl ?_
          refine z_iload_n dX3_numeral_115 rfl ?_
          refine z_cwviD (ws' := re2W G a q ((v_X3_fail M11 (q2.2.1 5)).2) ++ ltW G q f) hw (fun sz => c_X3_fail G P a q sz M11 (q2.2.1 5) ) [0, 1] [2] [1, 2, 0] 3 rfl rfl rfl rfl zc_X3_fail zv_X3_fail tw_m_RX3_49 (zrec_of wr_P 0 rfl rfl) (zroom_of rfl) rfl (Nat.le_of_ble_eq_true rfl) dX3_numeral_116 ?_
          have J23 : ∀ m15 : Int32, m15 = (if ((v_X3_fail M11 (q2.2.1 5)).1) = 0 then (0 : Int32) else 1) → Z k_X3_numeral G Γ (wr G A Γ.2.2.1.1.heap (re2W G a q ((v_X3_fail M11 (q2.2.1 5)).2) ++ ltW G q f)) 0 0 [(3, .int (q2.2.1 5)), (0, .ref (a 0)), (1, .int x1), (2, .int x2)] 127 [.int m15] := by
            intro m15 em15
            rewrite [em15]; clear em15
            exact z_lv rfl (J22 _ (if_pos c12).symm _ (if_pos c12).symm)
          refine z_if_eq (tgt := 126) dX3_numeral_119 (by decide) (fun c14 => ?_) (fun c14 => ?_)
          · skip
            refine z_iconst (v := 0) dX3_numeral_126 rfl ?_
            exact z_lv rfl (J23 _ (if_pos c14).symm)
          · skip
            refine z_iconst (v := 1) dX3_numeral_122 rfl ?_
            refine z_goto (tgt := 127) dX3_numeral_123 (by decide) ?_
            exact z_lv rfl (J23 _ (if_neg c14).symm)
      refine z_if_eq (tgt := 102) dX3_numeral_66 (by decide) (fun c9 => ?_) (fun c9 => ?_)
      · have hp := ip_t hpm c9
        exact z_lv rfl (J21 _ (if_pos c9).symm)
      · have hp := ip_f hpm c9
        refine z_aload_n dX3_numeral_69 rfl ?_
        refine z_bipush (v := 10) dX3_numeral_70 rfl ?_
        refine z_aload_n dX3_numeral_72 rfl ?_
        refine z_get (v := .int ((v_X3_letter q2.2 f (q2.2.1 5)) - 48)) wr_P 0 rfl rfl uin_X3 6 (Nat.le_of_ble_eq_true rfl) tw_f_RX3_32 rfl rfl dX3_numeral_73 ?_
        refine z_imul dX3_numeral_76 ?_
        refine z_aload_n dX3_numeral_77 rfl ?_
        refine z_aload_n dX3_numeral_78 rfl ?_
        refine z_get (v := .int ((q2.2.1 5) + 1)) wr_P 0 rfl rfl uin_X3 5 (Nat.le_of_ble_eq_true rfl) tw_f_RX3_29 rfl rfl dX3_numeral_79 ?_
        have q10 := hp
        refine z_cvi (c_X3_letter G P a q (e2f (e2f q2.2 6 ((v_X3_letter q2.2 f (q2.2.1 5)) - 48)) 5 ((q2.2.1 5) + 1)) f ((q2.2.1 5) + 1) q10) zc_X3_letter zv_X3_letter tw_m_RX3_52 (zrec_of wr_P 0 rfl rfl) (fr_all wr_P (wr_G hw)) (zroom_of rfl) rfl (Nat.le_of_ble_eq_true rfl) dX3_numeral_82 ?_
        refine z_iadd dX3_numeral_85 ?_
        refine z_bipush (v := 48) dX3_numeral_86 rfl ?_
        refine z_isub dX3_numeral_88 ?_
        refine z_put (fs := re2F a q (e2f (e2f q2.2 6 ((v_X3_letter q2.2 f (q2.2.1 5)) - 48)) 5 ((q2.2.1 5) + 1))) (v := .int (((10 * ((v_X3_letter q2.2 f (q2.2.1 5)) - 48)) + (v_X3_letter (e2f (e2f q2.2 6 ((v_X3_letter q2.2 f (q2.2.1 5)) - 48)) 5 ((q2.2.1 5) + 1)) f ((q2.2.1 5) + 1))) - 48)) (ws' := re2W G a q (e2f (e2f (e2f q2.2 6 ((v_X3_letter q2.2 f (q2.2.1 5)) - 48)) 5 ((q2.2.1 5) + 1)) 6 (((10 * ((v_X3_letter q2.2 f (q2.2.1 5)) - 48)) + (v_X3_letter (e2f (e2f q2.2 6 ((v_X3_letter q2.2 f (q2.2.1 5)) - 48)) 5 ((q2.2.1 5) + 1)) f ((q2.2.1 5) + 1))) - 48)) ++ ltW G q f) 0 rfl rfl uin_X3 tyX3 tyX3_ok nmX3 6 (Nat.le_of_ble_eq_true rfl) tw_f_RX3_32 rfl rfl (ty := .int) rfl rfl rfl (Nat.le_of_ble_eq_true rfl) rfl dX3_numeral_89 ?_
        refine z_aload_n dX3_numeral_92 rfl ?_
        refine z_dup dX3_numeral_93 rfl ?_
        refine z_get (v := .int ((q2.2.1 5) + 1)) wr_P 0 rfl rfl uin_X3 5 (Nat.le_of_ble_eq_true rfl) tw_f_RX3_29 rfl rfl dX3_numeral_94 ?_
        refine z_iconst (v := 1) dX3_numeral_97 rfl ?_
        refine z_iadd dX3_numeral_98 ?_
        refine z_put (fs := re2F a q (e2f (e2f (e2f q2.2 6 ((v_X3_letter q2.2 f (q2.2.1 5)) - 48)) 5 ((q2.2.1 5) + 1)) 6 (((10 * ((v_X3_letter q2.2 f (q2.2.1 5)) - 48)) + (v_X3_letter (e2f (e2f q2.2 6 ((v_X3_letter q2.2 f (q2.2.1 5)) - 48)) 5 ((q2.2.1 5) + 1)) f ((q2.2.1 5) + 1))) - 48))) (v := .int (((q2.2.1 5) + 1) + 1)) (ws' := re2W G a q (e2f (e2f (e2f (e2f q2.2 6 ((v_X3_letter q2.2 f (q2.2.1 5)) - 48)) 5 ((q2.2.1 5) + 1)) 6 (((10 * ((v_X3_letter q2.2 f (q2.2.1 5)) - 48)) + (v_X3_letter (e2f (e2f q2.2 6 ((v_X3_letter q2.2 f (q2.2.1 5)) - 48)) 5 ((q2.2.1 5) + 1)) f ((q2.2.1 5) + 1))) - 48)) 5 (((q2.2.1 5) + 1) + 1)) ++ ltW G q f) 0 rfl rfl uin_X3 tyX3 tyX3_ok nmX3 5 (Nat.le_of_ble_eq_true rfl) tw_f_RX3_29 rfl rfl (ty := .int) rfl rfl rfl (Nat.le_of_ble_eq_true rfl) rfl dX3_numeral_99 ?_
        exact z_lv rfl (J21 _ (if_neg c9).symm)
    · have hp := ip_t hp c5; have hv := it_t hv c5
      refine z_aload_n dX3_numeral_27 rfl ?_
      refine z_iload_n dX3_numeral_28 rfl ?_
      refine z_cwviD (ws' := re2W G a q ((v_X3_fail q2.2 (q2.2.1 5)).2) ++ ltW G q f) hw (fun sz => c_X3_fail G P a q sz q2.2 (q2.2.1 5) ) [0, 1] [2] [1, 2, 0] 3 rfl rfl rfl rfl zc_X3_fail zv_X3_fail tw_m_RX3_49 (zrec_of wr_P 0 rfl rfl) (zroom_of rfl) rfl (Nat.le_of_ble_eq_true rfl) dX3_numeral_29 ?_
      suffices z24 : ∀ q18 : Int32 × e2T, q18 = (v_X3_fail q2.2 (q2.2.1 5)) → narrow .boolean (.int q18.1) = .int q18.1 → Z k_X3_numeral G Γ (wr G A Γ.2.2.1.1.heap (re2W G a q q18.2 ++ ltW G q f)) 0 0 [(3, .int (q2.2.1 5)), (0, .ref (a 0)), (1, .int x1), (2, .int x2)] 32 [.int q18.1] from z24 _ rfl (nb_X3_fail q2.2 (q2.2.1 5))
      intro q18 hq18 nq18
      have hv := kk_vq hv hq18
      clear hq18
      subst hv; exact z_zret_W hQ rfl (by (repeat' (first | with_reducible exact nz0 | with_reducible exact nz1 | with_reducible assumption | with_reducible exact nb_X3_fail .. | with_reducible exact nb_X3_isDigit .. | with_reducible exact nb_X3_sign .. | with_reducible exact nb_X6_within .. | split | refine nb_oc ?_ (fun _ => ?_)))) rfl rfl ⟨rfl, rfl⟩ dX3_numeral_32
  · have hp := ip_t hp c3; have hv := it_t hv c3
    refine z_iconst (v := 0) dX3_numeral_9 rfl ?_
    subst hv; exact z_zret_W hQ rfl rfl rfl rfl ⟨rfl, rfl⟩ dX3_numeral_10
theorem dX3_doubtItem_0 : decode cX3_doubtItem 0 = .ok (.aload_n 0, 1) := by decide +kernel
theorem dX3_doubtItem_1 : decode cX3_doubtItem 1 = .ok (.iconst 0, 1) := by decide +kernel
theorem dX3_doubtItem_2 : decode cX3_doubtItem 2 = .ok (.aload_n 1, 1) := by decide +kernel
theorem dX3_doubtItem_3 : decode cX3_doubtItem 3 = .ok (.getfield 116, 3) := by decide +kernel
theorem dX3_doubtItem_6 : decode cX3_doubtItem 6 = .ok (.iconst 1, 1) := by decide +kernel
theorem dX3_doubtItem_7 : decode cX3_doubtItem 7 = .ok (.isub, 1) := by decide +kernel
theorem dX3_doubtItem_8 : decode cX3_doubtItem 8 = .ok (.invokevirtual 108, 3) := by decide +kernel
theorem dX3_doubtItem_11 : decode cX3_doubtItem 11 = .ok (.ifCond .ne 5, 3) := by decide +kernel
theorem dX3_doubtItem_14 : decode cX3_doubtItem 14 = .ok (.iconst 0, 1) := by decide +kernel
theorem dX3_doubtItem_15 : decode cX3_doubtItem 15 = .ok (.ireturn, 1) := by decide +kernel
theorem dX3_doubtItem_16 : decode cX3_doubtItem 16 = .ok (.aload_n 0, 1) := by decide +kernel
theorem dX3_doubtItem_17 : decode cX3_doubtItem 17 = .ok (.getfield 32, 3) := by decide +kernel
theorem dX3_doubtItem_20 : decode cX3_doubtItem 20 = .ok (.istore_n 2, 1) := by decide +kernel
theorem dX3_doubtItem_21 : decode cX3_doubtItem 21 = .ok (.aload_n 0, 1) := by decide +kernel
theorem dX3_doubtItem_22 : decode cX3_doubtItem 22 = .ok (.iconst 0, 1) := by decide +kernel
theorem dX3_doubtItem_23 : decode cX3_doubtItem 23 = .ok (.bipush 30, 2) := by decide +kernel
theorem dX3_doubtItem_25 : decode cX3_doubtItem 25 = .ok (.invokevirtual 108, 3) := by decide +kernel
theorem dX3_doubtItem_28 : decode cX3_doubtItem 28 = .ok (.ifCond .ne 5, 3) := by decide +kernel
theorem dX3_doubtItem_31 : decode cX3_doubtItem 31 = .ok (.iconst 0, 1) := by decide +kernel
theorem dX3_doubtItem_32 : decode cX3_doubtItem 32 = .ok (.ireturn, 1) := by decide +kernel
theorem dX3_doubtItem_33 : decode cX3_doubtItem 33 = .ok (.aload_n 1, 1) := by decide +kernel
theorem dX3_doubtItem_34 : decode cX3_doubtItem 34 = .ok (.iload_n 2, 1) := by decide +kernel
theorem dX3_doubtItem_35 : decode cX3_doubtItem 35 = .ok (.invokevirtual 119, 3) := by decide +kernel
theorem dX3_doubtItem_38 : decode cX3_doubtItem 38 = .ok (.ifCond .eq 13, 3) := by decide +kernel
theorem dX3_doubtItem_41 : decode cX3_doubtItem 41 = .ok (.aload_n 1, 1) := by decide +kernel
theorem dX3_doubtItem_42 : decode cX3_doubtItem 42 = .ok (.getfield 122, 3) := by decide +kernel
theorem dX3_doubtItem_45 : decode cX3_doubtItem 45 = .ok (.iload_n 2, 1) := by decide +kernel
theorem dX3_doubtItem_46 : decode cX3_doubtItem 46 = .ok (.aload_n 0, 1) := by decide +kernel
theorem dX3_doubtItem_47 : decode cX3_doubtItem 47 = .ok (.getfield 32, 3) := by decide +kernel
theorem dX3_doubtItem_50 : decode cX3_doubtItem 50 = .ok (.iastore, 1) := by decide +kernel
theorem dX3_doubtItem_51 : decode cX3_doubtItem 51 = .ok (.iconst 1, 1) := by decide +kernel
theorem dX3_doubtItem_52 : decode cX3_doubtItem 52 = .ok (.ireturn, 1) := by decide +kernel
abbrev k_X3_doubtItem : zK := (cX3_doubtItem, 3, RX3, (some .boolean), ({ frames := 3, cells := 0, slots := 0, locals := 65 } : Room))
theorem zc_X3_doubtItem : zcal yX3_doubtItem k_X3_doubtItem.1 k_X3_doubtItem.2.1 k_X3_doubtItem.2.2.2.1 1 := ⟨tw_code_yX3_doubtItem, tw_i_TollForHesitators_Reader, ⟨by decide +kernel, by decide +kernel⟩, by decide +kernel⟩
theorem zv_X3_doubtItem : Cond.instanceMethod yX3_doubtItem ∈ TS ∧ Cond.selects RX3 yX3_doubtItem yX3_doubtItem ∈ TS := ⟨tw_inst_yX3_doubtItem, tw_s_yX3_doubtItem⟩
def v_X3_doubtItem (E : e2T) (f : (Nat → Int64)) (R : rT) : Int32 × e2T × rT := kk (v_X3_numeral E f 0 ((R.1 4) - 1)) (fun q2 : Int32 × e2T => if q2.1 = 0 then (0, (q2.2, R)) else kk (v_X3_numeral q2.2 f 0 30) (fun q5 : Int32 × e2T => if q5.1 = 0 then (0, (q5.2, R)) else kk (if (v_X4_has R (q2.2.1 6)) = 0 then R else rsa R 3 (upd (R.2.1 3) (q2.2.1 6).toNatClampNeg (q5.2.1 6))) (fun M10 : rT => (1, (q5.2, M10)))))
def p_X3_doubtItem (E : e2T) (f : (Nat → Int64)) (R : rT) : Prop := (p_X3_numeral E f 0 ((R.1 4) - 1)) ∧ (kk (v_X3_numeral E f 0 ((R.1 4) - 1)) (fun q2 : Int32 × e2T => if q2.1 = 0 then True else p_X3_numeral q2.2 f 0 30 ∧ (kk (v_X3_numeral q2.2 f 0 30) (fun q5 : Int32 × e2T => if q5.1 = 0 then True else (p_X4_has R (q2.2.1 6)) ∧ (if (v_X4_has R (q2.2.1 6)) = 0 then True else vp_in (q2.2.1 6) 7)))))
theorem nb_X3_doubtItem (E : e2T) (f : (Nat → Int64)) (R : rT) : narrow .boolean (.int (v_X3_doubtItem E f R).1) = .int (v_X3_doubtItem E f R).1 := by
  unfold v_X3_doubtItem
  simp only [kk]
  (repeat' (first | with_reducible exact nz0 | with_reducible exact nz1 | with_reducible assumption | with_reducible exact nb_X3_numeral .. | with_reducible exact nb_X4_has .. | split | refine nb_oc ?_ (fun _ => ?_)))
set_option maxHeartbeats 800000 in
theorem c_X3_doubtItem {l : Launch} (G : zG) (P : pT) (a : Nat → Nat) (q : Nat) (b : Nat → Nat) (sz : Nat) (E : e2T) (f : (Nat → Int64)) (R : rT) (hp : p_X3_doubtItem E f R) : Met l yX3_doubtItem (.code yX3_doubtItem k_X3_doubtItem.1 k_X3_doubtItem.2.1 k_X3_doubtItem.2.2.2.1 :: TS) k_X3_doubtItem.2.2.2.2 (Pz G [.ref (a 0), .ref (b 0)] (Fw G (gX G P) (re2W G a q E ++ ltW G q f ++ rdW G b R) sz)) (Qwi G (fun r w => r = (v_X3_doubtItem E f R).1 ∧ w = re2W G a q ((v_X3_doubtItem E f R).2.1) ++ ltW G q f ++ rdW G b ((v_X3_doubtItem E f R).2.2)) (va_A (re2W G a q E ++ ltW G q f ++ rdW G b R) sz)) 0 0 (va_A (re2W G a q E ++ ltW G q f ++ rdW G b R) sz) := by
  refine zmet (K := k_X3_doubtItem) (by decide +kernel) rfl rfl (fun Γ hl0 hQ hN hF => ?_)
  refine z_start (gX_ok G P) hF (fun hw => ?_)
  generalize va_A (re2W G a q E ++ ltW G q f ++ rdW G b R) sz = A at hQ hw ⊢
  obtain ⟨res, hv⟩ : ∃ res, v_X3_doubtItem E f R = res := ⟨_, rfl⟩
  rw [hv] at hQ
  unfold v_X3_doubtItem at hv
  unfold p_X3_doubtItem at hp
  show Z k_X3_doubtItem G Γ _ 0 0 [(0, .ref (a 0)), (1, .ref (b 0))] 0 []
  refine z_aload_n dX3_doubtItem_0 rfl ?_
  refine z_iconst (v := 0) dX3_doubtItem_1 rfl ?_
  refine z_aload_n dX3_doubtItem_2 rfl ?_
  refine z_get (v := .int (R.1 4)) wr_P 3 rfl rfl uin_X4 4 (Nat.le_of_ble_eq_true rfl) tw_f_RX3_116 rfl rfl dX3_doubtItem_3 ?_
  refine z_iconst (v := 1) dX3_doubtItem_6 rfl ?_
  refine z_isub dX3_doubtItem_7 ?_
  obtain ⟨q1, hp⟩ := hp
  refine z_cwviD (ws' := re2W G a q ((v_X3_numeral E f 0 ((R.1 4) - 1)).2) ++ ltW G q f ++ rdW G b R) hw (fun sz => c_X3_numeral G P a q sz E f 0 ((R.1 4) - 1) q1) [0, 1, 2] [3, 4, 5, 6, 7] [5, 6, 7, 0, 1, 2, 3, 4] 8 rfl rfl rfl rfl zc_X3_numeral zv_X3_numeral tw_m_RX3_108 (zrec_of wr_P 0 rfl rfl) (zroom_of rfl) rfl (Nat.le_of_ble_eq_true rfl) dX3_doubtItem_8 ?_
  suffices z11 : ∀ q2 : Int32 × e2T, q2 = (v_X3_numeral E f 0 ((R.1 4) - 1)) → narrow .boolean (.int q2.1) = .int q2.1 → Z k_X3_doubtItem G Γ (wr G A Γ.2.2.1.1.heap (re2W G a q q2.2 ++ ltW G q f ++ rdW G b R)) 0 0 [(0, .ref (a 0)), (1, .ref (b 0))] 11 [.int q2.1] from z11 _ rfl (nb_X3_numeral E f 0 ((R.1 4) - 1))
  intro q2 hq2 nq2
  have hp := kk_pq hp hq2
  have hv := kk_vq hv hq2
  clear hq2
  refine z_if_ne (tgt := 16) dX3_doubtItem_11 (by decide) (fun c3 => ?_) (fun c3 => ?_)
  · have hp := ip_f hp c3; have hv := it_f hv c3
    refine z_aload_n dX3_doubtItem_16 rfl ?_
    refine z_get (v := .int (q2.2.1 6)) wr_P 0 rfl rfl uin_X3 6 (Nat.le_of_ble_eq_true rfl) tw_f_RX3_32 rfl rfl dX3_doubtItem_17 ?_
    refine z_istore_n (lv' := [(2, .int (q2.2.1 6)), (0, .ref (a 0)), (1, .ref (b 0))]) dX3_doubtItem_20 (Nat.le_of_ble_eq_true rfl) rfl ?_
    refine z_aload_n dX3_doubtItem_21 rfl ?_
    refine z_iconst (v := 0) dX3_doubtItem_22 rfl ?_
    refine z_bipush (v := 30) dX3_doubtItem_23 rfl ?_
    obtain ⟨q4, hp⟩ := hp
    refine z_cwviD (ws' := re2W G a q ((v_X3_numeral q2.2 f 0 30).2) ++ ltW G q f ++ rdW G b R) hw (fun sz => c_X3_numeral G P a q sz q2.2 f 0 30 q4) [0, 1, 2] [3, 4, 5, 6, 7] [5, 6, 7, 0, 1, 2, 3, 4] 8 rfl rfl rfl rfl zc_X3_numeral zv_X3_numeral tw_m_RX3_108 (zrec_of wr_P 0 rfl rfl) (zroom_of rfl) rfl (Nat.le_of_ble_eq_true rfl) dX3_doubtItem_25 ?_
    suffices z12 : ∀ q5 : Int32 × e2T, q5 = (v_X3_numeral q2.2 f 0 30) → narrow .boolean (.int q5.1) = .int q5.1 → Z k_X3_doubtItem G Γ (wr G A Γ.2.2.1.1.heap (re2W G a q q5.2 ++ ltW G q f ++ rdW G b R)) 0 0 [(2, .int (q2.2.1 6)), (0, .ref (a 0)), (1, .ref (b 0))] 28 [.int q5.1] from z12 _ rfl (nb_X3_numeral q2.2 f 0 30)
    intro q5 hq5 nq5
    have hp := kk_pq hp hq5
    have hv := kk_vq hv hq5
    clear hq5
    refine z_if_ne (tgt := 33) dX3_doubtItem_28 (by decide) (fun c6 => ?_) (fun c6 => ?_)
    · have hp := ip_f hp c6; have hv := it_f hv c6
      refine z_aload_n dX3_doubtItem_33 rfl ?_
      refine z_iload_n dX3_doubtItem_34 rfl ?_
      obtain ⟨q7, hp⟩ := hp
      refine z_cvi (c_X4_has G P b R (q2.2.1 6) q7) zc_X4_has zv_X4_has tw_m_RX3_119 (zrec_of wr_P 3 rfl rfl) (fr_all (sub_P wr_P [3, 4, 5, 6, 7] rfl) (wr_G hw)) (zroom_of rfl) rfl (Nat.le_of_ble_eq_true rfl) dX3_doubtItem_35 ?_
      have hpm := hp
      have J13 : ∀ M10 : rT, M10 = (if (v_X4_has R (q2.2.1 6)) = 0 then R else rsa R 3 (upd (R.2.1 3) (q2.2.1 6).toNatClampNeg (q5.2.1 6))) → Z k_X3_doubtItem G Γ (wr G A Γ.2.2.1.1.heap (re2W G a q q5.2 ++ ltW G q f ++ rdW G b M10)) 0 0 [(2, .int (q2.2.1 6)), (0, .ref (a 0)), (1, .ref (b 0))] 51 [] := by
        intro M10 eM10
        have hv := kk_vq hv eM10
        clear eM10
        refine z_iconst (v := 1) dX3_doubtItem_51 rfl ?_
        subst hv; exact z_zret_W hQ rfl rfl rfl rfl ⟨rfl, rfl⟩ dX3_doubtItem_52
      refine z_if_eq (tgt := 51) dX3_doubtItem_38 (by decide) (fun c8 => ?_) (fun c8 => ?_)
      · have hp := ip_t hpm c8
        exact z_lv rfl (J13 _ (if_pos c8).symm)
      · have hp := ip_f hpm c8
        refine z_aload_n dX3_doubtItem_41 rfl ?_
        refine z_get (v := .ref (b 4)) wr_P 3 rfl rfl uin_X4 3 (Nat.le_of_ble_eq_true rfl) tw_f_RX3_122 rfl rfl dX3_doubtItem_42 ?_
        refine z_iload_n dX3_doubtItem_45 rfl ?_
        refine z_aload_n dX3_doubtItem_46 rfl ?_
        refine z_get (v := .int (q5.2.1 6)) wr_P 0 rfl rfl uin_X3 6 (Nat.le_of_ble_eq_true rfl) tw_f_RX3_32 rfl rfl dX3_doubtItem_47 ?_
        have q9 := hp
        refine z_iastx (F := upd (R.2.1 3) (q2.2.1 6).toNatClampNeg (q5.2.1 6)) (ws' := re2W G a q q5.2 ++ ltW G q f ++ rdW G b (rsa R 3 (upd (R.2.1 3) (q2.2.1 6).toNatClampNeg (q5.2.1 6)))) 7 rfl q9 rfl rfl dX3_doubtItem_50 ?_
        exact z_lv rfl (J13 _ (if_neg c8).symm)
    · have hp := ip_t hp c6; have hv := it_t hv c6
      refine z_iconst (v := 0) dX3_doubtItem_31 rfl ?_
      subst hv; exact z_zret_W hQ rfl rfl rfl rfl ⟨rfl, rfl⟩ dX3_doubtItem_32
  · have hp := ip_t hp c3; have hv := it_t hv c3
    refine z_iconst (v := 0) dX3_doubtItem_14 rfl ?_
    subst hv; exact z_zret_W hQ rfl rfl rfl rfl ⟨rfl, rfl⟩ dX3_doubtItem_15
theorem dX3_settingItem_0 : decode cX3_settingItem 0 = .ok (.iload_n 1, 1) := by decide +kernel
theorem dX3_settingItem_1 : decode cX3_settingItem 1 = .ok (.bipush 102, 2) := by decide +kernel
theorem dX3_settingItem_3 : decode cX3_settingItem 3 = .ok (.if_icmp .ne 7, 3) := by decide +kernel
theorem dX3_settingItem_6 : decode cX3_settingItem 6 = .ok (.iconst 0, 1) := by decide +kernel
theorem dX3_settingItem_7 : decode cX3_settingItem 7 = .ok (.goto 4, 3) := by decide +kernel
theorem dX3_settingItem_10 : decode cX3_settingItem 10 = .ok (.iconst 1, 1) := by decide +kernel
theorem dX3_settingItem_11 : decode cX3_settingItem 11 = .ok (.istore_n 3, 1) := by decide +kernel
theorem dX3_settingItem_12 : decode cX3_settingItem 12 = .ok (.aload_n 0, 1) := by decide +kernel
theorem dX3_settingItem_13 : decode cX3_settingItem 13 = .ok (.iload_n 3, 1) := by decide +kernel
theorem dX3_settingItem_14 : decode cX3_settingItem 14 = .ok (.iload_n 1, 1) := by decide +kernel
theorem dX3_settingItem_15 : decode cX3_settingItem 15 = .ok (.invokestatic 124, 3) := by decide +kernel
theorem dX3_settingItem_18 : decode cX3_settingItem 18 = .ok (.invokevirtual 108, 3) := by decide +kernel
theorem dX3_settingItem_21 : decode cX3_settingItem 21 = .ok (.ifCond .ne 5, 3) := by decide +kernel
theorem dX3_settingItem_24 : decode cX3_settingItem 24 = .ok (.iconst 0, 1) := by decide +kernel
theorem dX3_settingItem_25 : decode cX3_settingItem 25 = .ok (.ireturn, 1) := by decide +kernel
theorem dX3_settingItem_26 : decode cX3_settingItem 26 = .ok (.iload_n 1, 1) := by decide +kernel
theorem dX3_settingItem_27 : decode cX3_settingItem 27 = .ok (.lookupswitch 66 #[(102, 44), (116, 55), (119, 33)], 33) := by decide +kernel
theorem dX3_settingItem_60 : decode cX3_settingItem 60 = .ok (.aload_n 2, 1) := by decide +kernel
theorem dX3_settingItem_61 : decode cX3_settingItem 61 = .ok (.aload_n 0, 1) := by decide +kernel
theorem dX3_settingItem_62 : decode cX3_settingItem 62 = .ok (.getfield 32, 3) := by decide +kernel
theorem dX3_settingItem_65 : decode cX3_settingItem 65 = .ok (.putfield 127, 3) := by decide +kernel
theorem dX3_settingItem_68 : decode cX3_settingItem 68 = .ok (.goto 33, 3) := by decide +kernel
theorem dX3_settingItem_71 : decode cX3_settingItem 71 = .ok (.aload_n 2, 1) := by decide +kernel
theorem dX3_settingItem_72 : decode cX3_settingItem 72 = .ok (.aload_n 0, 1) := by decide +kernel
theorem dX3_settingItem_73 : decode cX3_settingItem 73 = .ok (.getfield 32, 3) := by decide +kernel
theorem dX3_settingItem_76 : decode cX3_settingItem 76 = .ok (.putfield 129, 3) := by decide +kernel
theorem dX3_settingItem_79 : decode cX3_settingItem 79 = .ok (.goto 22, 3) := by decide +kernel
theorem dX3_settingItem_82 : decode cX3_settingItem 82 = .ok (.aload_n 2, 1) := by decide +kernel
theorem dX3_settingItem_83 : decode cX3_settingItem 83 = .ok (.aload_n 0, 1) := by decide +kernel
theorem dX3_settingItem_84 : decode cX3_settingItem 84 = .ok (.getfield 32, 3) := by decide +kernel
theorem dX3_settingItem_87 : decode cX3_settingItem 87 = .ok (.putfield 131, 3) := by decide +kernel
theorem dX3_settingItem_90 : decode cX3_settingItem 90 = .ok (.goto 11, 3) := by decide +kernel
theorem dX3_settingItem_93 : decode cX3_settingItem 93 = .ok (.aload_n 2, 1) := by decide +kernel
theorem dX3_settingItem_94 : decode cX3_settingItem 94 = .ok (.aload_n 0, 1) := by decide +kernel
theorem dX3_settingItem_95 : decode cX3_settingItem 95 = .ok (.getfield 32, 3) := by decide +kernel
theorem dX3_settingItem_98 : decode cX3_settingItem 98 = .ok (.putfield 133, 3) := by decide +kernel
theorem dX3_settingItem_101 : decode cX3_settingItem 101 = .ok (.iconst 1, 1) := by decide +kernel
theorem dX3_settingItem_102 : decode cX3_settingItem 102 = .ok (.ireturn, 1) := by decide +kernel
abbrev k_X3_settingItem : zK := (cX3_settingItem, 4, RX3, (some .boolean), ({ frames := 3, cells := 0, slots := 0, locals := 65 } : Room))
theorem zc_X3_settingItem : zcal yX3_settingItem k_X3_settingItem.1 k_X3_settingItem.2.1 k_X3_settingItem.2.2.2.1 2 := ⟨tw_code_yX3_settingItem, tw_i_TollForHesitators_Reader, ⟨by decide +kernel, by decide +kernel⟩, by decide +kernel⟩
theorem zv_X3_settingItem : Cond.instanceMethod yX3_settingItem ∈ TS ∧ Cond.selects RX3 yX3_settingItem yX3_settingItem ∈ TS := ⟨tw_inst_yX3_settingItem, tw_s_yX3_settingItem⟩
def v_X3_settingItem (E : e2T) (f : (Nat → Int64)) (R : rT) (x1 : Int32) : Int32 × e2T × rT := kk (v_X3_numeral E f (if x1 = 102 then (0 : Int32) else 1) (v_X3_mostOf x1)) (fun q4 : Int32 × e2T => if q4.1 = 0 then (0, (q4.2, R)) else if x1 = 102 then (1, (q4.2, rsf R 6 (q4.2.1 6))) else if x1 = 116 then (1, (q4.2, rsf R 7 (q4.2.1 6))) else if x1 = 119 then (1, (q4.2, rsf R 5 (q4.2.1 6))) else (1, (q4.2, rsf R 8 (q4.2.1 6))))
def p_X3_settingItem (E : e2T) (f : (Nat → Int64)) (R : rT) (x1 : Int32) : Prop := p_X3_numeral E f (if x1 = 102 then (0 : Int32) else 1) (v_X3_mostOf x1)
theorem nb_X3_settingItem (E : e2T) (f : (Nat → Int64)) (R : rT) (x1 : Int32) : narrow .boolean (.int (v_X3_settingItem E f R x1).1) = .int (v_X3_settingItem E f R x1).1 := by
  unfold v_X3_settingItem
  simp only [kk]
  (repeat' (first | with_reducible exact nz0 | with_reducible exact nz1 | with_reducible assumption | with_reducible exact nb_X3_numeral .. | split | refine nb_oc ?_ (fun _ => ?_)))
set_option maxHeartbeats 800000 in
theorem c_X3_settingItem {l : Launch} (G : zG) (P : pT) (a : Nat → Nat) (q : Nat) (b : Nat → Nat) (sz : Nat) (E : e2T) (f : (Nat → Int64)) (R : rT) (x1 : Int32) (hp : p_X3_settingItem E f R x1) : Met l yX3_settingItem (.code yX3_settingItem k_X3_settingItem.1 k_X3_settingItem.2.1 k_X3_settingItem.2.2.2.1 :: TS) k_X3_settingItem.2.2.2.2 (Pz G [.ref (a 0), .int x1, .ref (b 0)] (Fw G (gX G P) (re2W G a q E ++ ltW G q f ++ rdW G b R) sz)) (Qwi G (fun r w => r = (v_X3_settingItem E f R x1).1 ∧ w = re2W G a q ((v_X3_settingItem E f R x1).2.1) ++ ltW G q f ++ rdW G b ((v_X3_settingItem E f R x1).2.2)) (va_A (re2W G a q E ++ ltW G q f ++ rdW G b R) sz)) 0 0 (va_A (re2W G a q E ++ ltW G q f ++ rdW G b R) sz) := by
  refine zmet (K := k_X3_settingItem) (by decide +kernel) rfl rfl (fun Γ hl0 hQ hN hF => ?_)
  refine z_start (gX_ok G P) hF (fun hw => ?_)
  generalize va_A (re2W G a q E ++ ltW G q f ++ rdW G b R) sz = A at hQ hw ⊢
  obtain ⟨res, hv⟩ : ∃ res, v_X3_settingItem E f R x1 = res := ⟨_, rfl⟩
  rw [hv] at hQ
  unfold v_X3_settingItem at hv
  unfold p_X3_settingItem at hp
  show Z k_X3_settingItem G Γ _ 0 0 [(0, .ref (a 0)), (1, .int x1), (2, .ref (b 0))] 0 []
  refine z_iload_n dX3_settingItem_0 rfl ?_
  refine z_bipush (v := 102) dX3_settingItem_1 rfl ?_
  have J9 : ∀ m2 : Int32, m2 = (if x1 = 102 then (0 : Int32) else 1) → Z k_X3_settingItem G Γ (wr G A Γ.2.2.1.1.heap (re2W G a q E ++ ltW G q f ++ rdW G b R)) 0 0 [(0, .ref (a 0)), (1, .int x1), (2, .ref (b 0))] 11 [.int m2] := by
    intro m2 em2
    rewrite [em2]; clear em2
    refine z_istore_n (lv' := [(3, .int (if x1 = 102 then (0 : Int32) else 1)), (0, .ref (a 0)), (1, .int x1), (2, .ref (b 0))]) dX3_settingItem_11 (Nat.le_of_ble_eq_true rfl) rfl ?_
    refine z_aload_n dX3_settingItem_12 rfl ?_
    refine z_iload_n dX3_settingItem_13 rfl ?_
    refine z_iload_n dX3_settingItem_14 rfl ?_
    refine z_csi (c_X3_mostOf G P x1 ) zc_X3_mostOf tw_st_yX3_mostOf tw_m_RX3_124 (fr_all (sub_P wr_P [] rfl) (wr_G hw)) (zroom_of rfl) rfl (Nat.le_of_ble_eq_true rfl) dX3_settingItem_15 ?_
    have q3 := hp
    refine z_cwviD (ws' := re2W G a q ((v_X3_numeral E f (if x1 = 102 then (0 : Int32) else 1) (v_X3_mostOf x1)).2) ++ ltW G q f ++ rdW G b R) hw (fun sz => c_X3_numeral G P a q sz E f (if x1 = 102 then (0 : Int32) else 1) (v_X3_mostOf x1) q3) [0, 1, 2] [3, 4, 5, 6, 7] [5, 6, 7, 0, 1, 2, 3, 4] 8 rfl rfl rfl rfl zc_X3_numeral zv_X3_numeral tw_m_RX3_108 (zrec_of wr_P 0 rfl rfl) (zroom_of rfl) rfl (Nat.le_of_ble_eq_true rfl) dX3_settingItem_18 ?_
    suffices z10 : ∀ q4 : Int32 × e2T, q4 = (v_X3_numeral E f (if x1 = 102 then (0 : Int32) else 1) (v_X3_mostOf x1)) → narrow .boolean (.int q4.1) = .int q4.1 → Z k_X3_settingItem G Γ (wr G A Γ.2.2.1.1.heap (re2W G a q q4.2 ++ ltW G q f ++ rdW G b R)) 0 0 [(3, .int (if x1 = 102 then (0 : Int32) else 1)), (0, .ref (a 0)), (1, .int x1), (2, .ref (b 0))] 21 [.int q4.1] from z10 _ rfl (nb_X3_numeral E f (if x1 = 102 then (0 : Int32) else 1) (v_X3_mostOf x1))
    intro q4 hq4 nq4
    have hv := kk_vq hv hq4
    clear hq4
    refine z_if_ne (tgt := 26) dX3_settingItem_21 (by decide) (fun c5 => ?_) (fun c5 => ?_)
    · have hv := it_f hv c5
      refine z_iload_n dX3_settingItem_26 rfl ?_
      by_cases c6 : x1 = 102
      · have hv := it_t hv c6
        refine z_lookup (tgt := 71) dX3_settingItem_27 (by decide) (look_in c6 rfl) (by decide) ?_
        refine z_aload_n dX3_settingItem_71 rfl ?_
        refine z_aload_n dX3_settingItem_72 rfl ?_
        refine z_get (v := .int (q4.2.1 6)) wr_P 0 rfl rfl uin_X3 6 (Nat.le_of_ble_eq_true rfl) tw_f_RX3_32 rfl rfl dX3_settingItem_73 ?_
        refine z_put (fs := rdF b R) (v := .int (q4.2.1 6)) (ws' := re2W G a q q4.2 ++ ltW G q f ++ rdW G b (rsf R 6 (q4.2.1 6))) 3 rfl rfl uin_X4 tyX4 tyX4_ok nmX4 6 (Nat.le_of_ble_eq_true rfl) tw_f_RX3_129 rfl rfl (ty := .int) rfl rfl rfl (Nat.le_of_ble_eq_true rfl) rfl dX3_settingItem_76 ?_
        refine z_goto (tgt := 101) dX3_settingItem_79 (by decide) ?_
        refine z_iconst (v := 1) dX3_settingItem_101 rfl ?_
        subst hv; exact z_zret_W hQ rfl rfl rfl rfl ⟨rfl, rfl⟩ dX3_settingItem_102
      have hv := it_f hv c6
      by_cases c7 : x1 = 116
      · have hv := it_t hv c7
        refine z_lookup (tgt := 82) dX3_settingItem_27 (by decide) (look_in c7 rfl) (by decide) ?_
        refine z_aload_n dX3_settingItem_82 rfl ?_
        refine z_aload_n dX3_settingItem_83 rfl ?_
        refine z_get (v := .int (q4.2.1 6)) wr_P 0 rfl rfl uin_X3 6 (Nat.le_of_ble_eq_true rfl) tw_f_RX3_32 rfl rfl dX3_settingItem_84 ?_
        refine z_put (fs := rdF b R) (v := .int (q4.2.1 6)) (ws' := re2W G a q q4.2 ++ ltW G q f ++ rdW G b (rsf R 7 (q4.2.1 6))) 3 rfl rfl uin_X4 tyX4 tyX4_ok nmX4 7 (Nat.le_of_ble_eq_true rfl) tw_f_RX3_131 rfl rfl (ty := .int) rfl rfl rfl (Nat.le_of_ble_eq_true rfl) rfl dX3_settingItem_87 ?_
        refine z_goto (tgt := 101) dX3_settingItem_90 (by decide) ?_
        refine z_iconst (v := 1) dX3_settingItem_101 rfl ?_
        subst hv; exact z_zret_W hQ rfl rfl rfl rfl ⟨rfl, rfl⟩ dX3_settingItem_102
      have hv := it_f hv c7
      by_cases c8 : x1 = 119
      · have hv := it_t hv c8
        refine z_lookup (tgt := 60) dX3_settingItem_27 (by decide) (look_in c8 rfl) (by decide) ?_
        refine z_aload_n dX3_settingItem_60 rfl ?_
        refine z_aload_n dX3_settingItem_61 rfl ?_
        refine z_get (v := .int (q4.2.1 6)) wr_P 0 rfl rfl uin_X3 6 (Nat.le_of_ble_eq_true rfl) tw_f_RX3_32 rfl rfl dX3_settingItem_62 ?_
        refine z_put (fs := rdF b R) (v := .int (q4.2.1 6)) (ws' := re2W G a q q4.2 ++ ltW G q f ++ rdW G b (rsf R 5 (q4.2.1 6))) 3 rfl rfl uin_X4 tyX4 tyX4_ok nmX4 5 (Nat.le_of_ble_eq_true rfl) tw_f_RX3_127 rfl rfl (ty := .int) rfl rfl rfl (Nat.le_of_ble_eq_true rfl) rfl dX3_settingItem_65 ?_
        refine z_goto (tgt := 101) dX3_settingItem_68 (by decide) ?_
        refine z_iconst (v := 1) dX3_settingItem_101 rfl ?_
        subst hv; exact z_zret_W hQ rfl rfl rfl rfl ⟨rfl, rfl⟩ dX3_settingItem_102
      have hv := it_f hv c8
      refine z_lookup (tgt := 93) dX3_settingItem_27 (by decide) (look_c c6 rfl (look_c c7 rfl (look_c c8 rfl look_n))) (by decide) ?_
      refine z_aload_n dX3_settingItem_93 rfl ?_
      refine z_aload_n dX3_settingItem_94 rfl ?_
      refine z_get (v := .int (q4.2.1 6)) wr_P 0 rfl rfl uin_X3 6 (Nat.le_of_ble_eq_true rfl) tw_f_RX3_32 rfl rfl dX3_settingItem_95 ?_
      refine z_put (fs := rdF b R) (v := .int (q4.2.1 6)) (ws' := re2W G a q q4.2 ++ ltW G q f ++ rdW G b (rsf R 8 (q4.2.1 6))) 3 rfl rfl uin_X4 tyX4 tyX4_ok nmX4 8 (Nat.le_of_ble_eq_true rfl) tw_f_RX3_133 rfl rfl (ty := .int) rfl rfl rfl (Nat.le_of_ble_eq_true rfl) rfl dX3_settingItem_98 ?_
      refine z_iconst (v := 1) dX3_settingItem_101 rfl ?_
      subst hv; exact z_zret_W hQ rfl rfl rfl rfl ⟨rfl, rfl⟩ dX3_settingItem_102
    · have hv := it_t hv c5
      refine z_iconst (v := 0) dX3_settingItem_24 rfl ?_
      subst hv; exact z_zret_W hQ rfl rfl rfl rfl ⟨rfl, rfl⟩ dX3_settingItem_25
  refine z_icmp_ne (tgt := 10) dX3_settingItem_3 (by decide) (fun c1 => ?_) (fun c1 => ?_)
  · skip
    refine z_iconst (v := 1) dX3_settingItem_10 rfl ?_
    exact z_lv rfl (J9 _ (if_neg c1).symm)
  · skip
    refine z_iconst (v := 0) dX3_settingItem_6 rfl ?_
    refine z_goto (tgt := 11) dX3_settingItem_7 (by decide) ?_
    exact z_lv rfl (J9 _ (if_pos c1).symm)
