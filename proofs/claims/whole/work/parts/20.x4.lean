theorem tw_code_yX6_within : Cond.code yX6_within cX6_within 3 (some .boolean) ∈ TS := ts_mem 308 (by decide +kernel) rfl
theorem tw_i_TollForHesitators : Cond.initialized RX6 ∈ TS := ts_mem 68 (by decide +kernel) rfl
theorem tw_f_RX1_57 : Cond.fieldLink RX1 57 RX1 "BODIES" "[I" ∈ TS := ts_mem 814 (by decide +kernel) rfl
theorem tw_code_yX1_bodyOf : Cond.code yX1_bodyOf cX1_bodyOf 3 (some .int) ∈ TS := ts_mem 818 (by decide +kernel) rfl
theorem tw_i_TollForHesitators_Moves : Cond.initialized RX1 ∈ TS := ts_mem 73 (by decide +kernel) rfl
theorem tw_st_yX1_bodyOf : Cond.static yX1_bodyOf ∈ TS := ts_mem 817 (by decide +kernel) rfl
theorem tw_m_RX1_40 : Cond.methodLink RX1 40 yX1_bodyOf ∈ TS := ts_mem 816 (by decide +kernel) rfl
theorem tw_m_RX1_47 : Cond.methodLink RX1 47 yX0_above ∈ TS := ts_mem 819 (by decide +kernel) rfl
theorem tw_code_yX1_withBody : Cond.code yX1_withBody cX1_withBody 4 (some .int) ∈ TS := ts_mem 813 (by decide +kernel) rfl
theorem tw_f_RX1_15 : Cond.fieldLink RX1 15 RX1 "ran" "I" ∈ TS := ts_mem 247 (by decide +kernel) rfl
theorem tw_f_RX1_9 : Cond.fieldLink RX1 9 RX1 "kept" "[I" ∈ TS := ts_mem 246 (by decide +kernel) rfl
theorem tw_code_yX1_began : Cond.code yX1_began cX1_began 2 none ∈ TS := ts_mem 823 (by decide +kernel) rfl
theorem tw_inst_yX1_began : Cond.instanceMethod yX1_began ∈ TS := ts_mem 822 (by decide +kernel) rfl
theorem tw_s_yX1_began : Cond.selects RX1 yX1_began yX1_began ∈ TS := ts_mem 21 (by decide +kernel) rfl
theorem tw_code_yX1_keptAt : Cond.code yX1_keptAt cX1_keptAt 2 (some .int) ∈ TS := ts_mem 831 (by decide +kernel) rfl
theorem tw_inst_yX1_keptAt : Cond.instanceMethod yX1_keptAt ∈ TS := ts_mem 829 (by decide +kernel) rfl
theorem tw_s_yX1_keptAt : Cond.selects RX1 yX1_keptAt yX1_keptAt ∈ TS := ts_mem 830 (by decide +kernel) rfl
theorem tw_f_RX1_19 : Cond.fieldLink RX1 19 RX1 "one" "LTollForHesitators$Comer;" ∈ TS := ts_mem 249 (by decide +kernel) rfl
theorem tw_st_yX1_withBody : Cond.static yX1_withBody ∈ TS := ts_mem 812 (by decide +kernel) rfl
theorem tw_m_RX1_36 : Cond.methodLink RX1 36 yX1_withBody ∈ TS := ts_mem 811 (by decide +kernel) rfl
theorem tw_m_RX1_43 : Cond.methodLink RX1 43 yX1_began ∈ TS := ts_mem 820 (by decide +kernel) rfl
theorem tw_f_RX1_51 : Cond.fieldLink RX1 51 RX0 "number" "I" ∈ TS := ts_mem 424 (by decide +kernel) rfl
theorem tw_f_RX1_27 : Cond.fieldLink RX1 27 RX0 "kind" "I" ∈ TS := ts_mem 426 (by decide +kernel) rfl
theorem tw_st_yX1_run : Cond.static yX1_run ∈ TS := ts_mem 809 (by decide +kernel) rfl
theorem tw_m_RX1_32 : Cond.methodLink RX1 32 yX1_run ∈ TS := ts_mem 808 (by decide +kernel) rfl
theorem tw_f_RX1_54 : Cond.fieldLink RX1 54 RX0 "a" "I" ∈ TS := ts_mem 429 (by decide +kernel) rfl
theorem tw_code_yX1_run : Cond.code yX1_run cX1_run 10 (some .int) ∈ TS := ts_mem 810 (by decide +kernel) rfl
theorem tw_st_yX6_within : Cond.static yX6_within ∈ TS := ts_mem 307 (by decide +kernel) rfl
theorem tw_code_yX1_start : Cond.code yX1_start cX1_start 4 (some .int) ∈ TS := ts_mem 806 (by decide +kernel) rfl
theorem tw_inst_yX1_start : Cond.instanceMethod yX1_start ∈ TS := ts_mem 804 (by decide +kernel) rfl
theorem tw_s_yX1_start : Cond.selects RX1 yX1_start yX1_start ∈ TS := ts_mem 805 (by decide +kernel) rfl
theorem dX6_within_0 : decode cX6_within 0 = .ok (.iload_n 0, 1) := by decide +kernel
theorem dX6_within_1 : decode cX6_within 1 = .ok (.iload_n 1, 1) := by decide +kernel
theorem dX6_within_2 : decode cX6_within 2 = .ok (.if_icmp .lt 12, 3) := by decide +kernel
theorem dX6_within_5 : decode cX6_within 5 = .ok (.iload_n 0, 1) := by decide +kernel
theorem dX6_within_6 : decode cX6_within 6 = .ok (.iload_n 2, 1) := by decide +kernel
theorem dX6_within_7 : decode cX6_within 7 = .ok (.if_icmp .gt 7, 3) := by decide +kernel
theorem dX6_within_10 : decode cX6_within 10 = .ok (.iconst 1, 1) := by decide +kernel
theorem dX6_within_11 : decode cX6_within 11 = .ok (.goto 4, 3) := by decide +kernel
theorem dX6_within_14 : decode cX6_within 14 = .ok (.iconst 0, 1) := by decide +kernel
theorem dX6_within_15 : decode cX6_within 15 = .ok (.ireturn, 1) := by decide +kernel
abbrev k_X6_within : zK := (cX6_within, 3, RX6, (some .boolean), ({ frames := 0, cells := 0, slots := 0, locals := 0 } : Room))
theorem zc_X6_within : zcal yX6_within k_X6_within.1 k_X6_within.2.1 k_X6_within.2.2.2.1 3 := ⟨tw_code_yX6_within, tw_i_TollForHesitators, ⟨by decide +kernel, by decide +kernel⟩, by decide +kernel⟩
def v_X6_within (x0 : Int32) (x1 : Int32) (x2 : Int32) : Int32 := (if x0 < x1 then 0 else (if x2 < x0 then (0 : Int32) else 1))
theorem nb_X6_within (x0 : Int32) (x1 : Int32) (x2 : Int32) : narrow .boolean (.int (v_X6_within x0 x1 x2)) = .int (v_X6_within x0 x1 x2) := by
  unfold v_X6_within
  skip
  (repeat' (first | with_reducible exact nz0 | with_reducible exact nz1 | with_reducible assumption | split | refine nb_oc ?_ (fun _ => ?_)))
set_option maxHeartbeats 800000 in
theorem c_X6_within {l : Launch} (G : zG) (P : pT) (x0 : Int32) (x1 : Int32) (x2 : Int32) : Met l yX6_within (.code yX6_within k_X6_within.1 k_X6_within.2.1 k_X6_within.2.2.2.1 :: TS) k_X6_within.2.2.2.2 (Pz G [.int x0, .int x1, .int x2] (Fr G P ([]))) (vp_Si (fun r => r = v_X6_within x0 x1 x2)) 0 0 (fun _ => False) := by
  refine zmet (K := k_X6_within) (by decide +kernel) rfl rfl (fun Γ hl0 hQ hN hF => ?_)
  have hI := rd_P (G := G) hF.1
  have hG := rd_F hF.2
  obtain ⟨res, hv⟩ : ∃ res, v_X6_within x0 x1 x2 = res := ⟨_, rfl⟩
  rw [hv] at hQ
  unfold v_X6_within at hv
  show Z k_X6_within G Γ _ 0 0 [(0, .int x0), (1, .int x1), (2, .int x2)] 0 []
  refine z_iload_n dX6_within_0 rfl ?_
  refine z_iload_n dX6_within_1 rfl ?_
  have J5 : ∀ m4 : Int32, m4 = (if x0 < x1 then 0 else (if x2 < x0 then (0 : Int32) else 1)) → Z k_X6_within G Γ (rd Γ.2.2.1.1.heap) 0 0 [(0, .int x0), (1, .int x1), (2, .int x2)] 15 [.int m4] := by
    intro m4 em4
    rewrite [em4]; clear em4
    exact z_zret_S hQ rfl (by (repeat' (first | with_reducible exact nz0 | with_reducible exact nz1 | with_reducible assumption | split | refine nb_oc ?_ (fun _ => ?_)))) hv dX6_within_15
  refine z_icmp_lt (tgt := 14) dX6_within_2 (by decide) (fun c1 => ?_) (fun c1 => ?_)
  · skip
    refine z_iconst (v := 0) dX6_within_14 rfl ?_
    exact z_lv rfl (J5 _ (if_pos c1).symm)
  · skip
    refine z_iload_n dX6_within_5 rfl ?_
    refine z_iload_n dX6_within_6 rfl ?_
    have J6 : ∀ m3 : Int32, m3 = (if x2 < x0 then (0 : Int32) else 1) → Z k_X6_within G Γ (rd Γ.2.2.1.1.heap) 0 0 [(0, .int x0), (1, .int x1), (2, .int x2)] 15 [.int m3] := by
      intro m3 em3
      rewrite [em3]; clear em3
      exact z_lv rfl (J5 _ (if_neg c1).symm)
    refine z_icmp_gt (tgt := 14) dX6_within_7 (by decide) (fun c2 => ?_) (fun c2 => ?_)
    · skip
      refine z_iconst (v := 0) dX6_within_14 rfl ?_
      exact z_lv rfl (J6 _ (if_pos c2).symm)
    · skip
      refine z_iconst (v := 1) dX6_within_10 rfl ?_
      refine z_goto (tgt := 15) dX6_within_11 (by decide) ?_
      exact z_lv rfl (J6 _ (if_neg c2).symm)
theorem dX1_bodyOf_0 : decode cX1_bodyOf 0 = .ok (.iconst 3, 1) := by decide +kernel
theorem dX1_bodyOf_1 : decode cX1_bodyOf 1 = .ok (.iload_n 0, 1) := by decide +kernel
theorem dX1_bodyOf_2 : decode cX1_bodyOf 2 = .ok (.imul, 1) := by decide +kernel
theorem dX1_bodyOf_3 : decode cX1_bodyOf 3 = .ok (.iload_n 1, 1) := by decide +kernel
theorem dX1_bodyOf_4 : decode cX1_bodyOf 4 = .ok (.iadd, 1) := by decide +kernel
theorem dX1_bodyOf_5 : decode cX1_bodyOf 5 = .ok (.istore_n 2, 1) := by decide +kernel
theorem dX1_bodyOf_6 : decode cX1_bodyOf 6 = .ok (.iload_n 2, 1) := by decide +kernel
theorem dX1_bodyOf_7 : decode cX1_bodyOf 7 = .ok (.ifCond .lt 11, 3) := by decide +kernel
theorem dX1_bodyOf_10 : decode cX1_bodyOf 10 = .ok (.iload_n 2, 1) := by decide +kernel
theorem dX1_bodyOf_11 : decode cX1_bodyOf 11 = .ok (.getstatic 57, 3) := by decide +kernel
theorem dX1_bodyOf_14 : decode cX1_bodyOf 14 = .ok (.arraylength, 1) := by decide +kernel
theorem dX1_bodyOf_15 : decode cX1_bodyOf 15 = .ok (.if_icmp .lt 7, 3) := by decide +kernel
theorem dX1_bodyOf_18 : decode cX1_bodyOf 18 = .ok (.iconst 0, 1) := by decide +kernel
theorem dX1_bodyOf_19 : decode cX1_bodyOf 19 = .ok (.goto 8, 3) := by decide +kernel
theorem dX1_bodyOf_22 : decode cX1_bodyOf 22 = .ok (.getstatic 57, 3) := by decide +kernel
theorem dX1_bodyOf_25 : decode cX1_bodyOf 25 = .ok (.iload_n 2, 1) := by decide +kernel
theorem dX1_bodyOf_26 : decode cX1_bodyOf 26 = .ok (.iaload, 1) := by decide +kernel
theorem dX1_bodyOf_27 : decode cX1_bodyOf 27 = .ok (.ireturn, 1) := by decide +kernel
abbrev k_X1_bodyOf : zK := (cX1_bodyOf, 3, RX1, (some .int), ({ frames := 0, cells := 0, slots := 0, locals := 0 } : Room))
theorem zc_X1_bodyOf : zcal yX1_bodyOf k_X1_bodyOf.1 k_X1_bodyOf.2.1 k_X1_bodyOf.2.2.2.1 2 := ⟨tw_code_yX1_bodyOf, tw_i_TollForHesitators_Moves, ⟨by decide +kernel, by decide +kernel⟩, by decide +kernel⟩
def v_X1_bodyOf (x0 : Int32) (x1 : Int32) : Int32 := (if ((3 * x0) + x1) < 0 then 0 else (if ((3 * x0) + x1) < 21 then t_bodies ((3 * x0) + x1).toNatClampNeg else 0))
def p_X1_bodyOf (x0 : Int32) (x1 : Int32) : Prop := if ((3 * x0) + x1) < 0 then True else if ((3 * x0) + x1) < 21 then vp_in ((3 * x0) + x1) 21 else True
set_option maxHeartbeats 800000 in
theorem c_X1_bodyOf {l : Launch} (G : zG) (P : pT) (x0 : Int32) (x1 : Int32) (hp : p_X1_bodyOf x0 x1) : Met l yX1_bodyOf (.code yX1_bodyOf k_X1_bodyOf.1 k_X1_bodyOf.2.1 k_X1_bodyOf.2.2.2.1 :: TS) k_X1_bodyOf.2.2.2.2 (Pz G [.int x0, .int x1] (Fr G P ([]))) (vp_Si (fun r => r = v_X1_bodyOf x0 x1)) 0 0 (fun _ => False) := by
  refine zmet (K := k_X1_bodyOf) (by decide +kernel) rfl rfl (fun Γ hl0 hQ hN hF => ?_)
  have hI := rd_P (G := G) hF.1
  have hG := rd_F hF.2
  obtain ⟨res, hv⟩ : ∃ res, v_X1_bodyOf x0 x1 = res := ⟨_, rfl⟩
  rw [hv] at hQ
  unfold v_X1_bodyOf at hv
  unfold p_X1_bodyOf at hp
  show Z k_X1_bodyOf G Γ _ 0 0 [(0, .int x0), (1, .int x1)] 0 []
  refine z_iconst (v := 3) dX1_bodyOf_0 rfl ?_
  refine z_iload_n dX1_bodyOf_1 rfl ?_
  refine z_imul dX1_bodyOf_2 ?_
  refine z_iload_n dX1_bodyOf_3 rfl ?_
  refine z_iadd dX1_bodyOf_4 ?_
  refine z_istore_n (lv' := [(2, .int ((3 * x0) + x1)), (0, .int x0), (1, .int x1)]) dX1_bodyOf_5 (Nat.le_of_ble_eq_true rfl) rfl ?_
  refine z_iload_n dX1_bodyOf_6 rfl ?_
  have hpm := hp
  have J6 : ∀ m5 : Int32, m5 = (if ((3 * x0) + x1) < 0 then 0 else (if ((3 * x0) + x1) < 21 then t_bodies ((3 * x0) + x1).toNatClampNeg else 0)) → Z k_X1_bodyOf G Γ (rd Γ.2.2.1.1.heap) 0 0 [(2, .int ((3 * x0) + x1)), (0, .int x0), (1, .int x1)] 27 [.int m5] := by
    intro m5 em5
    rewrite [em5]; clear em5
    exact z_iret_S hQ rfl hv dX1_bodyOf_27
  refine z_if_lt (tgt := 18) dX1_bodyOf_7 (by decide) (fun c1 => ?_) (fun c1 => ?_)
  · have hp := ip_t hpm c1
    refine z_iconst (v := 0) dX1_bodyOf_18 rfl ?_
    refine z_goto (tgt := 27) dX1_bodyOf_19 (by decide) ?_
    exact z_lv rfl (J6 _ (if_pos c1).symm)
  · have hp := ip_f hpm c1
    refine z_iload_n dX1_bodyOf_10 rfl ?_
    refine z_gsrow (fun H locs hi => (hG H locs hi).1.2.1) tw_f_RX1_57 dX1_bodyOf_11 ?_
    refine z_tlen (v := 21) (fun H locs hi => (hG H locs hi).1.2.1) rfl dX1_bodyOf_14 ?_
    have hpm := hp
    have J7 : ∀ m4 : Int32, m4 = (if ((3 * x0) + x1) < 21 then t_bodies ((3 * x0) + x1).toNatClampNeg else 0) → Z k_X1_bodyOf G Γ (rd Γ.2.2.1.1.heap) 0 0 [(2, .int ((3 * x0) + x1)), (0, .int x0), (1, .int x1)] 27 [.int m4] := by
      intro m4 em4
      rewrite [em4]; clear em4
      exact z_lv rfl (J6 _ (if_neg c1).symm)
    refine z_icmp_lt (tgt := 22) dX1_bodyOf_15 (by decide) (fun c2 => ?_) (fun c2 => ?_)
    · have hp := ip_t hpm c2
      refine z_gsrow (fun H locs hi => (hG H locs hi).1.2.1) tw_f_RX1_57 dX1_bodyOf_22 ?_
      refine z_iload_n dX1_bodyOf_25 rfl ?_
      have q3 := hp
      refine z_tald (x := t_bodies ((3 * x0) + x1).toNatClampNeg) (fun H locs hi => (hG H locs hi).1.2.1) q3 rfl dX1_bodyOf_26 ?_
      exact z_lv rfl (J7 _ (if_pos c2).symm)
    · have hp := ip_f hpm c2
      refine z_iconst (v := 0) dX1_bodyOf_18 rfl ?_
      refine z_goto (tgt := 27) dX1_bodyOf_19 (by decide) ?_
      exact z_lv rfl (J7 _ (if_neg c2).symm)
theorem dX1_withBody_0 : decode cX1_withBody 0 = .ok (.iload_n 0, 1) := by decide +kernel
theorem dX1_withBody_1 : decode cX1_withBody 1 = .ok (.istore_n 2, 1) := by decide +kernel
theorem dX1_withBody_2 : decode cX1_withBody 2 = .ok (.iconst 0, 1) := by decide +kernel
theorem dX1_withBody_3 : decode cX1_withBody 3 = .ok (.istore_n 3, 1) := by decide +kernel
theorem dX1_withBody_4 : decode cX1_withBody 4 = .ok (.iload_n 3, 1) := by decide +kernel
theorem dX1_withBody_5 : decode cX1_withBody 5 = .ok (.getstatic 57, 3) := by decide +kernel
theorem dX1_withBody_8 : decode cX1_withBody 8 = .ok (.arraylength, 1) := by decide +kernel
theorem dX1_withBody_9 : decode cX1_withBody 9 = .ok (.if_icmp .ge 27, 3) := by decide +kernel
theorem dX1_withBody_12 : decode cX1_withBody 12 = .ok (.iload_n 2, 1) := by decide +kernel
theorem dX1_withBody_13 : decode cX1_withBody 13 = .ok (.iconst (-1), 1) := by decide +kernel
theorem dX1_withBody_14 : decode cX1_withBody 14 = .ok (.if_icmp .eq 22, 3) := by decide +kernel
theorem dX1_withBody_17 : decode cX1_withBody 17 = .ok (.iload_n 2, 1) := by decide +kernel
theorem dX1_withBody_18 : decode cX1_withBody 18 = .ok (.iload_n 1, 1) := by decide +kernel
theorem dX1_withBody_19 : decode cX1_withBody 19 = .ok (.invokestatic 40, 3) := by decide +kernel
theorem dX1_withBody_22 : decode cX1_withBody 22 = .ok (.ifCond .ne 14, 3) := by decide +kernel
theorem dX1_withBody_25 : decode cX1_withBody 25 = .ok (.iload_n 2, 1) := by decide +kernel
theorem dX1_withBody_26 : decode cX1_withBody 26 = .ok (.invokestatic 47, 3) := by decide +kernel
theorem dX1_withBody_29 : decode cX1_withBody 29 = .ok (.istore_n 2, 1) := by decide +kernel
theorem dX1_withBody_30 : decode cX1_withBody 30 = .ok (.iinc 3 1, 3) := by decide +kernel
theorem dX1_withBody_33 : decode cX1_withBody 33 = .ok (.goto (-29), 3) := by decide +kernel
theorem dX1_withBody_36 : decode cX1_withBody 36 = .ok (.iload_n 2, 1) := by decide +kernel
theorem dX1_withBody_37 : decode cX1_withBody 37 = .ok (.ireturn, 1) := by decide +kernel
abbrev k_X1_withBody : zK := (cX1_withBody, 4, RX1, (some .int), ({ frames := 1, cells := 0, slots := 0, locals := 22 } : Room))
theorem zc_X1_withBody : zcal yX1_withBody k_X1_withBody.1 k_X1_withBody.2.1 k_X1_withBody.2.2.2.1 2 := ⟨tw_code_yX1_withBody, tw_i_TollForHesitators_Moves, ⟨by decide +kernel, by decide +kernel⟩, by decide +kernel⟩
def v_X1_withBody_r : Nat → Int32 → Int32 → Int32 → Int32
  | 0, _, _, _ => 0
  | n + 1, v1, v2, v3 => if 21 ≤ v3 then v2 else if v2 = (-1) then v2 else if (v_X1_bodyOf v2 v1) = 0 then v_X1_withBody_r n v1 (v_X0_above v2) (v3 + 1) else v2
def p_X1_withBody_r : Nat → Int32 → Int32 → Int32 → Prop
  | 0, _, _, _ => False
  | n + 1, v1, v2, v3 => if 21 ≤ v3 then True else if v2 = (-1) then True else p_X1_bodyOf v2 v1 ∧ (if (v_X1_bodyOf v2 v1) = 0 then p_X0_above v2 ∧ (p_X1_withBody_r n v1 (v_X0_above v2) (v3 + 1)) else True)
def v_X1_withBody (x0 : Int32) (x1 : Int32) : Int32 := v_X1_withBody_r 200 x1 x0 0
def p_X1_withBody (x0 : Int32) (x1 : Int32) : Prop := p_X1_withBody_r 200 x1 x0 0
set_option maxHeartbeats 800000 in
theorem w_X1_withBody {G : zG} {P : pT} {Γ : zT} {res : Int32} (hF : Fr G P ([]) Γ.2.2.1.1.heap) (hQ : zQ Γ (vp_Si (fun r => r = res)) 0 0 (fun _ => False)) : ∀ n : Nat, (∀ (v1 : Int32) (v2 : Int32) (v3 : Int32), p_X1_withBody_r n v1 v2 v3 → v_X1_withBody_r n v1 v2 v3 = res → Z k_X1_withBody G Γ (rd Γ.2.2.1.1.heap) 0 0 [(1, .int v1), (2, .int v2), (3, .int v3)] 4 []) := by
  have hI := rd_P (G := G) hF.1
  have hG := rd_F hF.2
  intro n
  induction n with
  | zero => exact fun v1 v2 v3 hp => absurd hp (by rw [p_X1_withBody_r]; exact not_false)
  | succ n ih =>
    intro v1 v2 v3 hp hv
    rw [p_X1_withBody_r] at hp
    rw [v_X1_withBody_r] at hv
    refine z_iload_n dX1_withBody_4 rfl ?_
    refine z_gsrow (fun H locs hi => (hG H locs hi).1.2.1) tw_f_RX1_57 dX1_withBody_5 ?_
    refine z_tlen (v := 21) (fun H locs hi => (hG H locs hi).1.2.1) rfl dX1_withBody_8 ?_
    refine z_icmp_ge (tgt := 36) dX1_withBody_9 (by decide) (fun c1 => ?_) (fun c1 => ?_)
    · have hp := ip_t hp c1; have hv := it_t hv c1
      refine z_iload_n dX1_withBody_36 rfl ?_
      exact z_iret_S hQ rfl hv dX1_withBody_37
    · have hp := ip_f hp c1; have hv := it_f hv c1
      refine z_iload_n dX1_withBody_12 rfl ?_
      refine z_iconst (v := (-1)) dX1_withBody_13 rfl ?_
      refine z_icmp_eq (tgt := 36) dX1_withBody_14 (by decide) (fun c6 => ?_) (fun c6 => ?_)
      · have hp := ip_t hp c6; have hv := it_t hv c6
        refine z_iload_n dX1_withBody_36 rfl ?_
        exact z_iret_S hQ rfl hv dX1_withBody_37
      · have hp := ip_f hp c6; have hv := it_f hv c6
        refine z_iload_n dX1_withBody_17 rfl ?_
        refine z_iload_n dX1_withBody_18 rfl ?_
        obtain ⟨q10, hp⟩ := hp
        refine z_csi (c_X1_bodyOf G P v2 v1 q10) zc_X1_bodyOf tw_st_yX1_bodyOf tw_m_RX1_40 (fr_all hI hG) (zroom_of rfl) rfl (Nat.le_of_ble_eq_true rfl) dX1_withBody_19 ?_
        refine z_if_ne (tgt := 36) dX1_withBody_22 (by decide) (fun c11 => ?_) (fun c11 => ?_)
        · have hp := ip_f hp c11; have hv := it_f hv c11
          refine z_iload_n dX1_withBody_36 rfl ?_
          exact z_iret_S hQ rfl hv dX1_withBody_37
        · have hp := ip_t hp c11; have hv := it_t hv c11
          refine z_iload_n dX1_withBody_25 rfl ?_
          obtain ⟨q13, hp⟩ := hp
          refine z_csi (c_X0_above G P v2 q13) zc_X0_above tw_st_yX0_above tw_m_RX1_47 (fr_all hI hG) (zroom_of rfl) rfl (Nat.le_of_ble_eq_true rfl) dX1_withBody_26 ?_
          refine z_istore_n (lv' := [(2, .int (v_X0_above v2)), (1, .int v1), (3, .int v3)]) dX1_withBody_29 (Nat.le_of_ble_eq_true rfl) rfl ?_
          refine z_iinc (v := v3 + 1) (lv' := [(3, .int (v3 + 1)), (2, .int (v_X0_above v2)), (1, .int v1)]) dX1_withBody_30 2 rfl rfl (Nat.le_of_ble_eq_true rfl) rfl ?_
          refine z_goto (tgt := 4) dX1_withBody_33 (by decide) ?_
          exact z_lv rfl ((ih) v1 (v_X0_above v2) (v3 + 1) hp hv)
set_option maxHeartbeats 800000 in
theorem c_X1_withBody {l : Launch} (G : zG) (P : pT) (x0 : Int32) (x1 : Int32) (hp : p_X1_withBody x0 x1) : Met l yX1_withBody (.code yX1_withBody k_X1_withBody.1 k_X1_withBody.2.1 k_X1_withBody.2.2.2.1 :: TS) k_X1_withBody.2.2.2.2 (Pz G [.int x0, .int x1] (Fr G P ([]))) (vp_Si (fun r => r = v_X1_withBody x0 x1)) 0 0 (fun _ => False) := by
  refine zmet (K := k_X1_withBody) (by decide +kernel) rfl rfl (fun Γ hl0 hQ hN hF => ?_)
  have hI := rd_P (G := G) hF.1
  have hG := rd_F hF.2
  obtain ⟨res, hv⟩ : ∃ res, v_X1_withBody x0 x1 = res := ⟨_, rfl⟩
  rw [hv] at hQ
  unfold v_X1_withBody at hv
  unfold p_X1_withBody at hp
  show Z k_X1_withBody G Γ _ 0 0 [(0, .int x0), (1, .int x1)] 0 []
  refine z_iload_n dX1_withBody_0 rfl ?_
  refine z_istore_n (lv' := [(2, .int x0), (0, .int x0), (1, .int x1)]) dX1_withBody_1 (Nat.le_of_ble_eq_true rfl) rfl ?_
  refine z_iconst (v := 0) dX1_withBody_2 rfl ?_
  refine z_istore_n (lv' := [(3, .int 0), (2, .int x0), (0, .int x0), (1, .int x1)]) dX1_withBody_3 (Nat.le_of_ble_eq_true rfl) rfl ?_
  exact z_lv rfl ((w_X1_withBody  hF hQ 200) x1 x0 0 hp hv)
theorem dX1_began_0 : decode cX1_began 0 = .ok (.aload_n 0, 1) := by decide +kernel
theorem dX1_began_1 : decode cX1_began 1 = .ok (.getfield 15, 3) := by decide +kernel
theorem dX1_began_4 : decode cX1_began 4 = .ok (.ifCond .lt 25, 3) := by decide +kernel
theorem dX1_began_7 : decode cX1_began 7 = .ok (.aload_n 0, 1) := by decide +kernel
theorem dX1_began_8 : decode cX1_began 8 = .ok (.getfield 15, 3) := by decide +kernel
theorem dX1_began_11 : decode cX1_began 11 = .ok (.aload_n 0, 1) := by decide +kernel
theorem dX1_began_12 : decode cX1_began 12 = .ok (.getfield 9, 3) := by decide +kernel
theorem dX1_began_15 : decode cX1_began 15 = .ok (.arraylength, 1) := by decide +kernel
theorem dX1_began_16 : decode cX1_began 16 = .ok (.if_icmp .ge 13, 3) := by decide +kernel
theorem dX1_began_19 : decode cX1_began 19 = .ok (.aload_n 0, 1) := by decide +kernel
theorem dX1_began_20 : decode cX1_began 20 = .ok (.getfield 9, 3) := by decide +kernel
theorem dX1_began_23 : decode cX1_began 23 = .ok (.aload_n 0, 1) := by decide +kernel
theorem dX1_began_24 : decode cX1_began 24 = .ok (.getfield 15, 3) := by decide +kernel
theorem dX1_began_27 : decode cX1_began 27 = .ok (.iload_n 1, 1) := by decide +kernel
theorem dX1_began_28 : decode cX1_began 28 = .ok (.iastore, 1) := by decide +kernel
theorem dX1_began_29 : decode cX1_began 29 = .ok (.aload_n 0, 1) := by decide +kernel
theorem dX1_began_30 : decode cX1_began 30 = .ok (.dup, 1) := by decide +kernel
theorem dX1_began_31 : decode cX1_began 31 = .ok (.getfield 15, 3) := by decide +kernel
theorem dX1_began_34 : decode cX1_began 34 = .ok (.iconst 1, 1) := by decide +kernel
theorem dX1_began_35 : decode cX1_began 35 = .ok (.iadd, 1) := by decide +kernel
theorem dX1_began_36 : decode cX1_began 36 = .ok (.putfield 15, 3) := by decide +kernel
theorem dX1_began_39 : decode cX1_began 39 = .ok (.return_, 1) := by decide +kernel
abbrev k_X1_began : zK := (cX1_began, 2, RX1, none, ({ frames := 0, cells := 0, slots := 0, locals := 0 } : Room))
theorem zc_X1_began : zcal yX1_began k_X1_began.1 k_X1_began.2.1 k_X1_began.2.2.2.1 1 := ⟨tw_code_yX1_began, tw_i_TollForHesitators_Moves, ⟨by decide +kernel, by decide +kernel⟩, by decide +kernel⟩
theorem zv_X1_began : Cond.instanceMethod yX1_began ∈ TS ∧ Cond.selects RX1 yX1_began yX1_began ∈ TS := ⟨tw_inst_yX1_began, tw_s_yX1_began⟩
def v_X1_began (V : vT) (x1 : Int32) : vT := kk (if (V.1 1) < 0 then V else (if 20 ≤ (V.1 1) then V else vsa V (upd V.2.1 (V.1 1).toNatClampNeg x1))) (fun M5 : vT => vsf M5 1 ((M5.1 1) + 1))
def p_X1_began (V : vT) (x1 : Int32) : Prop := if (V.1 1) < 0 then True else if 20 ≤ (V.1 1) then True else vp_in (V.1 1) 20
set_option maxHeartbeats 800000 in
theorem c_X1_began {l : Launch} (G : zG) (P : pT) (a : Nat → Nat) (sz : Nat) (V : vT) (x1 : Int32) (hp : p_X1_began V x1) : Met l yX1_began (.code yX1_began k_X1_began.1 k_X1_began.2.1 k_X1_began.2.2.2.1 :: TS) k_X1_began.2.2.2.2 (Pz G [.ref (a 0), .int x1] (Fw G (gX G P) (mvW G a V) sz)) (Qwv G (fun w => w = mvW G a (v_X1_began V x1)) (va_A (mvW G a V) sz)) 0 0 (va_A (mvW G a V) sz) := by
  refine zmet (K := k_X1_began) (by decide +kernel) rfl rfl (fun Γ hl0 hQ hN hF => ?_)
  refine z_start (gX_ok G P) hF (fun hw => ?_)
  generalize va_A (mvW G a V) sz = A at hQ hw ⊢
  obtain ⟨res, hv⟩ : ∃ res, v_X1_began V x1 = res := ⟨_, rfl⟩
  rw [hv] at hQ
  unfold v_X1_began at hv
  unfold p_X1_began at hp
  show Z k_X1_began G Γ _ 0 0 [(0, .ref (a 0)), (1, .int x1)] 0 []
  refine z_aload_n dX1_began_0 rfl ?_
  refine z_get (v := .int (V.1 1)) wr_P 0 rfl rfl uin_X1 1 (Nat.le_of_ble_eq_true rfl) tw_f_RX1_15 rfl rfl dX1_began_1 ?_
  have hpm := hp
  have J6 : ∀ M5 : vT, M5 = (if (V.1 1) < 0 then V else (if 20 ≤ (V.1 1) then V else vsa V (upd V.2.1 (V.1 1).toNatClampNeg x1))) → Z k_X1_began G Γ (wr G A Γ.2.2.1.1.heap (mvW G a M5)) 0 0 [(0, .ref (a 0)), (1, .int x1)] 29 [] := by
    intro M5 eM5
    have hv := kk_vq hv eM5
    clear eM5
    refine z_aload_n dX1_began_29 rfl ?_
    refine z_dup dX1_began_30 rfl ?_
    refine z_get (v := .int (M5.1 1)) wr_P 0 rfl rfl uin_X1 1 (Nat.le_of_ble_eq_true rfl) tw_f_RX1_15 rfl rfl dX1_began_31 ?_
    refine z_iconst (v := 1) dX1_began_34 rfl ?_
    refine z_iadd dX1_began_35 ?_
    refine z_put (fs := mvF a M5) (v := .int ((M5.1 1) + 1)) (ws' := mvW G a (vsf M5 1 ((M5.1 1) + 1))) 0 rfl rfl uin_X1 tyX1 tyX1_ok nmX1 1 (Nat.le_of_ble_eq_true rfl) tw_f_RX1_15 rfl rfl (ty := .int) rfl rfl rfl (Nat.le_of_ble_eq_true rfl) rfl dX1_began_36 ?_
    subst hv; exact z_vret_W hQ rfl rfl rfl rfl dX1_began_39
  refine z_if_lt (tgt := 29) dX1_began_4 (by decide) (fun c1 => ?_) (fun c1 => ?_)
  · have hp := ip_t hpm c1
    exact z_lv rfl (J6 _ (if_pos c1).symm)
  · have hp := ip_f hpm c1
    refine z_aload_n dX1_began_7 rfl ?_
    refine z_get (v := .int (V.1 1)) wr_P 0 rfl rfl uin_X1 1 (Nat.le_of_ble_eq_true rfl) tw_f_RX1_15 rfl rfl dX1_began_8 ?_
    refine z_aload_n dX1_began_11 rfl ?_
    refine z_get (v := .ref (a 1)) wr_P 0 rfl rfl uin_X1 0 (Nat.le_of_ble_eq_true rfl) tw_f_RX1_9 rfl rfl dX1_began_12 ?_
    refine z_alen (cA := G.2.2.1 0) (v := 20) 0 (fun _ => rfl) wr_P 1 rfl rfl dX1_began_15 ?_
    have hpm := hp
    have J7 : ∀ M4 : vT, M4 = (if 20 ≤ (V.1 1) then V else vsa V (upd V.2.1 (V.1 1).toNatClampNeg x1)) → Z k_X1_began G Γ (wr G A Γ.2.2.1.1.heap (mvW G a M4)) 0 0 [(0, .ref (a 0)), (1, .int x1)] 29 [] := by
      intro M4 eM4
      rewrite [eM4]; clear eM4
      exact z_lv rfl (J6 _ (if_neg c1).symm)
    refine z_icmp_ge (tgt := 29) dX1_began_16 (by decide) (fun c2 => ?_) (fun c2 => ?_)
    · have hp := ip_t hpm c2
      exact z_lv rfl (J7 _ (if_pos c2).symm)
    · have hp := ip_f hpm c2
      refine z_aload_n dX1_began_19 rfl ?_
      refine z_get (v := .ref (a 1)) wr_P 0 rfl rfl uin_X1 0 (Nat.le_of_ble_eq_true rfl) tw_f_RX1_9 rfl rfl dX1_began_20 ?_
      refine z_aload_n dX1_began_23 rfl ?_
      refine z_get (v := .int (V.1 1)) wr_P 0 rfl rfl uin_X1 1 (Nat.le_of_ble_eq_true rfl) tw_f_RX1_15 rfl rfl dX1_began_24 ?_
      refine z_iload_n dX1_began_27 rfl ?_
      have q3 := hp
      refine z_iastx (F := upd V.2.1 (V.1 1).toNatClampNeg x1) (ws' := mvW G a (vsa V (upd V.2.1 (V.1 1).toNatClampNeg x1))) 1 rfl q3 rfl rfl dX1_began_28 ?_
      exact z_lv rfl (J7 _ (if_neg c2).symm)
theorem dX1_keptAt_0 : decode cX1_keptAt 0 = .ok (.iload_n 1, 1) := by decide +kernel
theorem dX1_keptAt_1 : decode cX1_keptAt 1 = .ok (.ifCond .lt 20, 3) := by decide +kernel
theorem dX1_keptAt_4 : decode cX1_keptAt 4 = .ok (.iload_n 1, 1) := by decide +kernel
theorem dX1_keptAt_5 : decode cX1_keptAt 5 = .ok (.aload_n 0, 1) := by decide +kernel
theorem dX1_keptAt_6 : decode cX1_keptAt 6 = .ok (.getfield 15, 3) := by decide +kernel
theorem dX1_keptAt_9 : decode cX1_keptAt 9 = .ok (.if_icmp .ge 12, 3) := by decide +kernel
theorem dX1_keptAt_12 : decode cX1_keptAt 12 = .ok (.iload_n 1, 1) := by decide +kernel
theorem dX1_keptAt_13 : decode cX1_keptAt 13 = .ok (.aload_n 0, 1) := by decide +kernel
theorem dX1_keptAt_14 : decode cX1_keptAt 14 = .ok (.getfield 9, 3) := by decide +kernel
theorem dX1_keptAt_17 : decode cX1_keptAt 17 = .ok (.arraylength, 1) := by decide +kernel
theorem dX1_keptAt_18 : decode cX1_keptAt 18 = .ok (.if_icmp .lt 7, 3) := by decide +kernel
theorem dX1_keptAt_21 : decode cX1_keptAt 21 = .ok (.iconst (-1), 1) := by decide +kernel
theorem dX1_keptAt_22 : decode cX1_keptAt 22 = .ok (.goto 9, 3) := by decide +kernel
theorem dX1_keptAt_25 : decode cX1_keptAt 25 = .ok (.aload_n 0, 1) := by decide +kernel
theorem dX1_keptAt_26 : decode cX1_keptAt 26 = .ok (.getfield 9, 3) := by decide +kernel
theorem dX1_keptAt_29 : decode cX1_keptAt 29 = .ok (.iload_n 1, 1) := by decide +kernel
theorem dX1_keptAt_30 : decode cX1_keptAt 30 = .ok (.iaload, 1) := by decide +kernel
theorem dX1_keptAt_31 : decode cX1_keptAt 31 = .ok (.ireturn, 1) := by decide +kernel
abbrev k_X1_keptAt : zK := (cX1_keptAt, 2, RX1, (some .int), ({ frames := 0, cells := 0, slots := 0, locals := 0 } : Room))
theorem zc_X1_keptAt : zcal yX1_keptAt k_X1_keptAt.1 k_X1_keptAt.2.1 k_X1_keptAt.2.2.2.1 1 := ⟨tw_code_yX1_keptAt, tw_i_TollForHesitators_Moves, ⟨by decide +kernel, by decide +kernel⟩, by decide +kernel⟩
theorem zv_X1_keptAt : Cond.instanceMethod yX1_keptAt ∈ TS ∧ Cond.selects RX1 yX1_keptAt yX1_keptAt ∈ TS := ⟨tw_inst_yX1_keptAt, tw_s_yX1_keptAt⟩
def v_X1_keptAt (V : vT) (x1 : Int32) : Int32 := (if x1 < 0 then (-1) else (if (V.1 1) ≤ x1 then (-1) else (if x1 < 20 then V.2.1 x1.toNatClampNeg else (-1))))
def p_X1_keptAt (V : vT) (x1 : Int32) : Prop := if x1 < 0 then True else if (V.1 1) ≤ x1 then True else if x1 < 20 then vp_in x1 20 else True
set_option maxHeartbeats 800000 in
theorem c_X1_keptAt {l : Launch} (G : zG) (P : pT) (a : Nat → Nat) (V : vT) (x1 : Int32) (hp : p_X1_keptAt V x1) : Met l yX1_keptAt (.code yX1_keptAt k_X1_keptAt.1 k_X1_keptAt.2.1 k_X1_keptAt.2.2.2.1 :: TS) k_X1_keptAt.2.2.2.2 (Pz G [.ref (a 0), .int x1] (Fr G P (mvW G a V))) (vp_Si (fun r => r = v_X1_keptAt V x1)) 0 0 (fun _ => False) := by
  refine zmet (K := k_X1_keptAt) (by decide +kernel) rfl rfl (fun Γ hl0 hQ hN hF => ?_)
  have hI := rd_P (G := G) hF.1
  have hG := rd_F hF.2
  obtain ⟨res, hv⟩ : ∃ res, v_X1_keptAt V x1 = res := ⟨_, rfl⟩
  rw [hv] at hQ
  unfold v_X1_keptAt at hv
  unfold p_X1_keptAt at hp
  show Z k_X1_keptAt G Γ _ 0 0 [(0, .ref (a 0)), (1, .int x1)] 0 []
  refine z_iload_n dX1_keptAt_0 rfl ?_
  have hpm := hp
  have J8 : ∀ m7 : Int32, m7 = (if x1 < 0 then (-1) else (if (V.1 1) ≤ x1 then (-1) else (if x1 < 20 then V.2.1 x1.toNatClampNeg else (-1)))) → Z k_X1_keptAt G Γ (rd Γ.2.2.1.1.heap) 0 0 [(0, .ref (a 0)), (1, .int x1)] 31 [.int m7] := by
    intro m7 em7
    rewrite [em7]; clear em7
    exact z_iret_S hQ rfl hv dX1_keptAt_31
  refine z_if_lt (tgt := 21) dX1_keptAt_1 (by decide) (fun c1 => ?_) (fun c1 => ?_)
  · have hp := ip_t hpm c1
    refine z_iconst (v := (-1)) dX1_keptAt_21 rfl ?_
    refine z_goto (tgt := 31) dX1_keptAt_22 (by decide) ?_
    exact z_lv rfl (J8 _ (if_pos c1).symm)
  · have hp := ip_f hpm c1
    refine z_iload_n dX1_keptAt_4 rfl ?_
    refine z_aload_n dX1_keptAt_5 rfl ?_
    refine z_get (v := .int (V.1 1)) hI 0 rfl rfl uin_X1 1 (Nat.le_of_ble_eq_true rfl) tw_f_RX1_15 rfl rfl dX1_keptAt_6 ?_
    have hpm := hp
    have J9 : ∀ m6 : Int32, m6 = (if (V.1 1) ≤ x1 then (-1) else (if x1 < 20 then V.2.1 x1.toNatClampNeg else (-1))) → Z k_X1_keptAt G Γ (rd Γ.2.2.1.1.heap) 0 0 [(0, .ref (a 0)), (1, .int x1)] 31 [.int m6] := by
      intro m6 em6
      rewrite [em6]; clear em6
      exact z_lv rfl (J8 _ (if_neg c1).symm)
    refine z_icmp_ge (tgt := 21) dX1_keptAt_9 (by decide) (fun c2 => ?_) (fun c2 => ?_)
    · have hp := ip_t hpm c2
      refine z_iconst (v := (-1)) dX1_keptAt_21 rfl ?_
      refine z_goto (tgt := 31) dX1_keptAt_22 (by decide) ?_
      exact z_lv rfl (J9 _ (if_pos c2).symm)
    · have hp := ip_f hpm c2
      refine z_iload_n dX1_keptAt_12 rfl ?_
      refine z_aload_n dX1_keptAt_13 rfl ?_
      refine z_get (v := .ref (a 1)) hI 0 rfl rfl uin_X1 0 (Nat.le_of_ble_eq_true rfl) tw_f_RX1_9 rfl rfl dX1_keptAt_14 ?_
      refine z_alen (cA := G.2.2.1 0) (v := 20) 0 (fun _ => rfl) hI 1 rfl rfl dX1_keptAt_17 ?_
      have hpm := hp
      have J10 : ∀ m5 : Int32, m5 = (if x1 < 20 then V.2.1 x1.toNatClampNeg else (-1)) → Z k_X1_keptAt G Γ (rd Γ.2.2.1.1.heap) 0 0 [(0, .ref (a 0)), (1, .int x1)] 31 [.int m5] := by
        intro m5 em5
        rewrite [em5]; clear em5
        exact z_lv rfl (J9 _ (if_neg c2).symm)
      refine z_icmp_lt (tgt := 25) dX1_keptAt_18 (by decide) (fun c3 => ?_) (fun c3 => ?_)
      · have hp := ip_t hpm c3
        refine z_aload_n dX1_keptAt_25 rfl ?_
        refine z_get (v := .ref (a 1)) hI 0 rfl rfl uin_X1 0 (Nat.le_of_ble_eq_true rfl) tw_f_RX1_9 rfl rfl dX1_keptAt_26 ?_
        refine z_iload_n dX1_keptAt_29 rfl ?_
        have q4 := hp
        refine z_ialdx (x := V.2.1 x1.toNatClampNeg) hI 1 rfl q4 rfl dX1_keptAt_30 ?_
        exact z_lv rfl (J10 _ (if_pos c3).symm)
      · have hp := ip_f hpm c3
        refine z_iconst (v := (-1)) dX1_keptAt_21 rfl ?_
        refine z_goto (tgt := 31) dX1_keptAt_22 (by decide) ?_
        exact z_lv rfl (J10 _ (if_neg c3).symm)
theorem dX1_run_0 : decode cX1_run 0 = .ok (.aload_n 0, 1) := by decide +kernel
theorem dX1_run_1 : decode cX1_run 1 = .ok (.getfield 19, 3) := by decide +kernel
theorem dX1_run_4 : decode cX1_run 4 = .ok (.astore 5, 2) := by decide +kernel
theorem dX1_run_6 : decode cX1_run 6 = .ok (.iload_n 1, 1) := by decide +kernel
theorem dX1_run_7 : decode cX1_run 7 = .ok (.iload_n 2, 1) := by decide +kernel
theorem dX1_run_8 : decode cX1_run 8 = .ok (.invokestatic 36, 3) := by decide +kernel
theorem dX1_run_11 : decode cX1_run 11 = .ok (.istore 6, 2) := by decide +kernel
theorem dX1_run_13 : decode cX1_run 13 = .ok (.aload 5, 2) := by decide +kernel
theorem dX1_run_15 : decode cX1_run 15 = .ok (.ifnull 16, 3) := by decide +kernel
theorem dX1_run_18 : decode cX1_run 18 = .ok (.iload 6, 2) := by decide +kernel
theorem dX1_run_20 : decode cX1_run 20 = .ok (.iconst (-1), 1) := by decide +kernel
theorem dX1_run_21 : decode cX1_run 21 = .ok (.if_icmp .eq 10, 3) := by decide +kernel
theorem dX1_run_24 : decode cX1_run 24 = .ok (.iload 4, 2) := by decide +kernel
theorem dX1_run_26 : decode cX1_run 26 = .ok (.bipush 12, 2) := by decide +kernel
theorem dX1_run_28 : decode cX1_run 28 = .ok (.if_icmp .le 5, 3) := by decide +kernel
theorem dX1_run_31 : decode cX1_run 31 = .ok (.iconst 0, 1) := by decide +kernel
theorem dX1_run_32 : decode cX1_run 32 = .ok (.ireturn, 1) := by decide +kernel
theorem dX1_run_33 : decode cX1_run 33 = .ok (.iload 6, 2) := by decide +kernel
theorem dX1_run_35 : decode cX1_run 35 = .ok (.iload_n 2, 1) := by decide +kernel
theorem dX1_run_36 : decode cX1_run 36 = .ok (.invokestatic 40, 3) := by decide +kernel
theorem dX1_run_39 : decode cX1_run 39 = .ok (.istore 7, 2) := by decide +kernel
theorem dX1_run_41 : decode cX1_run 41 = .ok (.aload_n 0, 1) := by decide +kernel
theorem dX1_run_42 : decode cX1_run 42 = .ok (.iload 7, 2) := by decide +kernel
theorem dX1_run_44 : decode cX1_run 44 = .ok (.invokevirtual 43, 3) := by decide +kernel
theorem dX1_run_47 : decode cX1_run 47 = .ok (.iload 6, 2) := by decide +kernel
theorem dX1_run_49 : decode cX1_run 49 = .ok (.invokestatic 47, 3) := by decide +kernel
theorem dX1_run_52 : decode cX1_run 52 = .ok (.istore 8, 2) := by decide +kernel
theorem dX1_run_54 : decode cX1_run 54 = .ok (.iload 7, 2) := by decide +kernel
theorem dX1_run_56 : decode cX1_run 56 = .ok (.lookupswitch 299 #[(10, 100), (11, 108), (12, 126), (20, 168), (30, 187), (40, 202), (50, 217), (51, 231), (60, 250), (70, 265), (71, 280)], 100) := by decide +kernel
theorem dX1_run_156 : decode cX1_run 156 = .ok (.iload_n 3, 1) := by decide +kernel
theorem dX1_run_157 : decode cX1_run 157 = .ok (.aload 5, 2) := by decide +kernel
theorem dX1_run_159 : decode cX1_run 159 = .ok (.getfield 51, 3) := by decide +kernel
theorem dX1_run_162 : decode cX1_run 162 = .ok (.iadd, 1) := by decide +kernel
theorem dX1_run_163 : decode cX1_run 163 = .ok (.ireturn, 1) := by decide +kernel
theorem dX1_run_164 : decode cX1_run 164 = .ok (.aload_n 0, 1) := by decide +kernel
theorem dX1_run_165 : decode cX1_run 165 = .ok (.aload 5, 2) := by decide +kernel
theorem dX1_run_167 : decode cX1_run 167 = .ok (.getfield 27, 3) := by decide +kernel
theorem dX1_run_170 : decode cX1_run 170 = .ok (.iconst 0, 1) := by decide +kernel
theorem dX1_run_171 : decode cX1_run 171 = .ok (.iload_n 3, 1) := by decide +kernel
theorem dX1_run_172 : decode cX1_run 172 = .ok (.iload 4, 2) := by decide +kernel
theorem dX1_run_174 : decode cX1_run 174 = .ok (.iconst 1, 1) := by decide +kernel
theorem dX1_run_175 : decode cX1_run 175 = .ok (.iadd, 1) := by decide +kernel
theorem dX1_run_176 : decode cX1_run 176 = .ok (.invokestatic 32, 3) := by decide +kernel
theorem dX1_run_179 : decode cX1_run 179 = .ok (.iconst 2, 1) := by decide +kernel
theorem dX1_run_180 : decode cX1_run 180 = .ok (.imul, 1) := by decide +kernel
theorem dX1_run_181 : decode cX1_run 181 = .ok (.ireturn, 1) := by decide +kernel
theorem dX1_run_182 : decode cX1_run 182 = .ok (.aload_n 0, 1) := by decide +kernel
theorem dX1_run_183 : decode cX1_run 183 = .ok (.aload 5, 2) := by decide +kernel
theorem dX1_run_185 : decode cX1_run 185 = .ok (.getfield 27, 3) := by decide +kernel
theorem dX1_run_188 : decode cX1_run 188 = .ok (.iconst 1, 1) := by decide +kernel
theorem dX1_run_189 : decode cX1_run 189 = .ok (.iload_n 3, 1) := by decide +kernel
theorem dX1_run_190 : decode cX1_run 190 = .ok (.iload 4, 2) := by decide +kernel
theorem dX1_run_192 : decode cX1_run 192 = .ok (.iconst 1, 1) := by decide +kernel
theorem dX1_run_193 : decode cX1_run 193 = .ok (.iadd, 1) := by decide +kernel
theorem dX1_run_194 : decode cX1_run 194 = .ok (.invokestatic 32, 3) := by decide +kernel
theorem dX1_run_197 : decode cX1_run 197 = .ok (.istore 9, 2) := by decide +kernel
theorem dX1_run_199 : decode cX1_run 199 = .ok (.iload 9, 2) := by decide +kernel
theorem dX1_run_201 : decode cX1_run 201 = .ok (.aload_n 0, 1) := by decide +kernel
theorem dX1_run_202 : decode cX1_run 202 = .ok (.aload 5, 2) := by decide +kernel
theorem dX1_run_204 : decode cX1_run 204 = .ok (.getfield 27, 3) := by decide +kernel
theorem dX1_run_207 : decode cX1_run 207 = .ok (.iconst 0, 1) := by decide +kernel
theorem dX1_run_208 : decode cX1_run 208 = .ok (.iload_n 3, 1) := by decide +kernel
theorem dX1_run_209 : decode cX1_run 209 = .ok (.aload 5, 2) := by decide +kernel
theorem dX1_run_211 : decode cX1_run 211 = .ok (.getfield 54, 3) := by decide +kernel
theorem dX1_run_214 : decode cX1_run 214 = .ok (.isub, 1) := by decide +kernel
theorem dX1_run_215 : decode cX1_run 215 = .ok (.iload 4, 2) := by decide +kernel
theorem dX1_run_217 : decode cX1_run 217 = .ok (.iconst 1, 1) := by decide +kernel
theorem dX1_run_218 : decode cX1_run 218 = .ok (.iadd, 1) := by decide +kernel
theorem dX1_run_219 : decode cX1_run 219 = .ok (.invokestatic 32, 3) := by decide +kernel
theorem dX1_run_222 : decode cX1_run 222 = .ok (.ixor, 1) := by decide +kernel
theorem dX1_run_223 : decode cX1_run 223 = .ok (.ireturn, 1) := by decide +kernel
theorem dX1_run_224 : decode cX1_run 224 = .ok (.aload_n 0, 1) := by decide +kernel
theorem dX1_run_225 : decode cX1_run 225 = .ok (.iload 8, 2) := by decide +kernel
theorem dX1_run_227 : decode cX1_run 227 = .ok (.iconst 1, 1) := by decide +kernel
theorem dX1_run_228 : decode cX1_run 228 = .ok (.iload_n 3, 1) := by decide +kernel
theorem dX1_run_229 : decode cX1_run 229 = .ok (.iload 4, 2) := by decide +kernel
theorem dX1_run_231 : decode cX1_run 231 = .ok (.iconst 1, 1) := by decide +kernel
theorem dX1_run_232 : decode cX1_run 232 = .ok (.iadd, 1) := by decide +kernel
theorem dX1_run_233 : decode cX1_run 233 = .ok (.invokestatic 32, 3) := by decide +kernel
theorem dX1_run_236 : decode cX1_run 236 = .ok (.aload 5, 2) := by decide +kernel
theorem dX1_run_238 : decode cX1_run 238 = .ok (.getfield 54, 3) := by decide +kernel
theorem dX1_run_241 : decode cX1_run 241 = .ok (.iadd, 1) := by decide +kernel
theorem dX1_run_242 : decode cX1_run 242 = .ok (.ireturn, 1) := by decide +kernel
theorem dX1_run_243 : decode cX1_run 243 = .ok (.aload_n 0, 1) := by decide +kernel
theorem dX1_run_244 : decode cX1_run 244 = .ok (.iload 8, 2) := by decide +kernel
theorem dX1_run_246 : decode cX1_run 246 = .ok (.iconst 0, 1) := by decide +kernel
theorem dX1_run_247 : decode cX1_run 247 = .ok (.iload_n 3, 1) := by decide +kernel
theorem dX1_run_248 : decode cX1_run 248 = .ok (.iload 4, 2) := by decide +kernel
theorem dX1_run_250 : decode cX1_run 250 = .ok (.iconst 1, 1) := by decide +kernel
theorem dX1_run_251 : decode cX1_run 251 = .ok (.iadd, 1) := by decide +kernel
theorem dX1_run_252 : decode cX1_run 252 = .ok (.invokestatic 32, 3) := by decide +kernel
theorem dX1_run_255 : decode cX1_run 255 = .ok (.iconst 3, 1) := by decide +kernel
theorem dX1_run_256 : decode cX1_run 256 = .ok (.imul, 1) := by decide +kernel
theorem dX1_run_257 : decode cX1_run 257 = .ok (.ireturn, 1) := by decide +kernel
theorem dX1_run_258 : decode cX1_run 258 = .ok (.aload_n 0, 1) := by decide +kernel
theorem dX1_run_259 : decode cX1_run 259 = .ok (.iload 8, 2) := by decide +kernel
theorem dX1_run_261 : decode cX1_run 261 = .ok (.iconst 0, 1) := by decide +kernel
theorem dX1_run_262 : decode cX1_run 262 = .ok (.iload_n 3, 1) := by decide +kernel
theorem dX1_run_263 : decode cX1_run 263 = .ok (.iconst 1, 1) := by decide +kernel
theorem dX1_run_264 : decode cX1_run 264 = .ok (.iadd, 1) := by decide +kernel
theorem dX1_run_265 : decode cX1_run 265 = .ok (.iload 4, 2) := by decide +kernel
theorem dX1_run_267 : decode cX1_run 267 = .ok (.iconst 1, 1) := by decide +kernel
theorem dX1_run_268 : decode cX1_run 268 = .ok (.iadd, 1) := by decide +kernel
theorem dX1_run_269 : decode cX1_run 269 = .ok (.invokestatic 32, 3) := by decide +kernel
theorem dX1_run_272 : decode cX1_run 272 = .ok (.ireturn, 1) := by decide +kernel
theorem dX1_run_273 : decode cX1_run 273 = .ok (.aload_n 0, 1) := by decide +kernel
theorem dX1_run_274 : decode cX1_run 274 = .ok (.iload 8, 2) := by decide +kernel
theorem dX1_run_276 : decode cX1_run 276 = .ok (.iconst 2, 1) := by decide +kernel
theorem dX1_run_277 : decode cX1_run 277 = .ok (.iload_n 3, 1) := by decide +kernel
theorem dX1_run_278 : decode cX1_run 278 = .ok (.iload 4, 2) := by decide +kernel
theorem dX1_run_280 : decode cX1_run 280 = .ok (.iconst 1, 1) := by decide +kernel
theorem dX1_run_281 : decode cX1_run 281 = .ok (.iadd, 1) := by decide +kernel
theorem dX1_run_282 : decode cX1_run 282 = .ok (.invokestatic 32, 3) := by decide +kernel
theorem dX1_run_285 : decode cX1_run 285 = .ok (.ineg, 1) := by decide +kernel
theorem dX1_run_286 : decode cX1_run 286 = .ok (.ireturn, 1) := by decide +kernel
theorem dX1_run_287 : decode cX1_run 287 = .ok (.aload_n 0, 1) := by decide +kernel
theorem dX1_run_288 : decode cX1_run 288 = .ok (.iload 8, 2) := by decide +kernel
theorem dX1_run_290 : decode cX1_run 290 = .ok (.iconst 0, 1) := by decide +kernel
theorem dX1_run_291 : decode cX1_run 291 = .ok (.iload_n 3, 1) := by decide +kernel
theorem dX1_run_292 : decode cX1_run 292 = .ok (.iload 4, 2) := by decide +kernel
theorem dX1_run_294 : decode cX1_run 294 = .ok (.iconst 1, 1) := by decide +kernel
theorem dX1_run_295 : decode cX1_run 295 = .ok (.iadd, 1) := by decide +kernel
theorem dX1_run_296 : decode cX1_run 296 = .ok (.invokestatic 32, 3) := by decide +kernel
theorem dX1_run_299 : decode cX1_run 299 = .ok (.aload 5, 2) := by decide +kernel
theorem dX1_run_301 : decode cX1_run 301 = .ok (.getfield 51, 3) := by decide +kernel
theorem dX1_run_304 : decode cX1_run 304 = .ok (.isub, 1) := by decide +kernel
theorem dX1_run_305 : decode cX1_run 305 = .ok (.ireturn, 1) := by decide +kernel
theorem dX1_run_306 : decode cX1_run 306 = .ok (.aload_n 0, 1) := by decide +kernel
theorem dX1_run_307 : decode cX1_run 307 = .ok (.iload 8, 2) := by decide +kernel
theorem dX1_run_309 : decode cX1_run 309 = .ok (.iconst 2, 1) := by decide +kernel
theorem dX1_run_310 : decode cX1_run 310 = .ok (.iload_n 3, 1) := by decide +kernel
theorem dX1_run_311 : decode cX1_run 311 = .ok (.iload 4, 2) := by decide +kernel
theorem dX1_run_313 : decode cX1_run 313 = .ok (.iconst 1, 1) := by decide +kernel
theorem dX1_run_314 : decode cX1_run 314 = .ok (.iadd, 1) := by decide +kernel
theorem dX1_run_315 : decode cX1_run 315 = .ok (.invokestatic 32, 3) := by decide +kernel
theorem dX1_run_318 : decode cX1_run 318 = .ok (.iconst 5, 1) := by decide +kernel
theorem dX1_run_319 : decode cX1_run 319 = .ok (.ixor, 1) := by decide +kernel
theorem dX1_run_320 : decode cX1_run 320 = .ok (.ireturn, 1) := by decide +kernel
theorem dX1_run_321 : decode cX1_run 321 = .ok (.aload_n 0, 1) := by decide +kernel
theorem dX1_run_322 : decode cX1_run 322 = .ok (.iload 8, 2) := by decide +kernel
theorem dX1_run_324 : decode cX1_run 324 = .ok (.iconst 0, 1) := by decide +kernel
theorem dX1_run_325 : decode cX1_run 325 = .ok (.iload_n 3, 1) := by decide +kernel
theorem dX1_run_326 : decode cX1_run 326 = .ok (.iload 4, 2) := by decide +kernel
theorem dX1_run_328 : decode cX1_run 328 = .ok (.iconst 1, 1) := by decide +kernel
theorem dX1_run_329 : decode cX1_run 329 = .ok (.iadd, 1) := by decide +kernel
theorem dX1_run_330 : decode cX1_run 330 = .ok (.invokestatic 32, 3) := by decide +kernel
theorem dX1_run_333 : decode cX1_run 333 = .ok (.iconst 2, 1) := by decide +kernel
theorem dX1_run_334 : decode cX1_run 334 = .ok (.imul, 1) := by decide +kernel
theorem dX1_run_335 : decode cX1_run 335 = .ok (.ireturn, 1) := by decide +kernel
theorem dX1_run_336 : decode cX1_run 336 = .ok (.aload_n 0, 1) := by decide +kernel
theorem dX1_run_337 : decode cX1_run 337 = .ok (.iload 8, 2) := by decide +kernel
theorem dX1_run_339 : decode cX1_run 339 = .ok (.iconst 1, 1) := by decide +kernel
theorem dX1_run_340 : decode cX1_run 340 = .ok (.iload_n 3, 1) := by decide +kernel
theorem dX1_run_341 : decode cX1_run 341 = .ok (.aload 5, 2) := by decide +kernel
theorem dX1_run_343 : decode cX1_run 343 = .ok (.getfield 54, 3) := by decide +kernel
theorem dX1_run_346 : decode cX1_run 346 = .ok (.isub, 1) := by decide +kernel
theorem dX1_run_347 : decode cX1_run 347 = .ok (.iload 4, 2) := by decide +kernel
theorem dX1_run_349 : decode cX1_run 349 = .ok (.iconst 1, 1) := by decide +kernel
theorem dX1_run_350 : decode cX1_run 350 = .ok (.iadd, 1) := by decide +kernel
theorem dX1_run_351 : decode cX1_run 351 = .ok (.invokestatic 32, 3) := by decide +kernel
theorem dX1_run_354 : decode cX1_run 354 = .ok (.ireturn, 1) := by decide +kernel
theorem dX1_run_355 : decode cX1_run 355 = .ok (.iconst 0, 1) := by decide +kernel
theorem dX1_run_356 : decode cX1_run 356 = .ok (.ireturn, 1) := by decide +kernel
abbrev k_X1_run (d : Nat) : zK := (cX1_run, 10, RX1, (some .int), ({ frames := 2 + d, cells := 0, slots := 0, locals := 45 + d * 29 } : Room))
theorem zc_X1_run (d : Nat) : zcal yX1_run (k_X1_run d).1 (k_X1_run d).2.1 (k_X1_run d).2.2.2.1 5 := ⟨tw_code_yX1_run, tw_i_TollForHesitators_Moves, ⟨by decide +kernel, by decide +kernel⟩, by decide +kernel⟩
def v_X1_run (P : pT) : Nat → vT → Int32 → Int32 → Int32 → Int32 → Int32 × vT
  | 0, V, _, _, _, _ => (0, V)
  | d + 1, V, x1, x2, x3, x4 => oc (V.2.2) ((0, V)) (fun r1 : Nat => if (v_X1_withBody x1 x2) = (-1) then (0, V) else if x4 ≤ 12 then kk (v_X1_began V (v_X1_bodyOf (v_X1_withBody x1 x2) x2)) (fun q8 : vT => if (v_X1_bodyOf (v_X1_withBody x1 x2) x2) = 10 then (x3 + (P.2 r1 0), q8) else if (v_X1_bodyOf (v_X1_withBody x1 x2) x2) = 11 then kk (v_X1_run P d q8 (P.2 r1 1) 0 x3 (x4 + 1)) (fun q14 : Int32 × vT => (q14.1 * 2, q14.2)) else if (v_X1_bodyOf (v_X1_withBody x1 x2) x2) = 12 then kk (v_X1_run P d q8 (P.2 r1 1) 1 x3 (x4 + 1)) (fun q18 : Int32 × vT => kk (v_X1_run P d q18.2 (P.2 r1 1) 0 (x3 - (P.2 r1 2)) (x4 + 1)) (fun q20 : Int32 × vT => (q18.1 ^^^ q20.1, q20.2))) else if (v_X1_bodyOf (v_X1_withBody x1 x2) x2) = 20 then kk (v_X1_run P d q8 (v_X0_above (v_X1_withBody x1 x2)) 1 x3 (x4 + 1)) (fun q23 : Int32 × vT => (q23.1 + (P.2 r1 2), q23.2)) else if (v_X1_bodyOf (v_X1_withBody x1 x2) x2) = 30 then kk (v_X1_run P d q8 (v_X0_above (v_X1_withBody x1 x2)) 0 x3 (x4 + 1)) (fun q27 : Int32 × vT => (q27.1 * 3, q27.2)) else if (v_X1_bodyOf (v_X1_withBody x1 x2) x2) = 40 then kk (v_X1_run P d q8 (v_X0_above (v_X1_withBody x1 x2)) 0 (x3 + 1) (x4 + 1)) (fun q30 : Int32 × vT => (q30.1, q30.2)) else if (v_X1_bodyOf (v_X1_withBody x1 x2) x2) = 50 then kk (v_X1_run P d q8 (v_X0_above (v_X1_withBody x1 x2)) 2 x3 (x4 + 1)) (fun q33 : Int32 × vT => (-q33.1, q33.2)) else if (v_X1_bodyOf (v_X1_withBody x1 x2) x2) = 51 then kk (v_X1_run P d q8 (v_X0_above (v_X1_withBody x1 x2)) 0 x3 (x4 + 1)) (fun q36 : Int32 × vT => (q36.1 - (P.2 r1 0), q36.2)) else if (v_X1_bodyOf (v_X1_withBody x1 x2) x2) = 60 then kk (v_X1_run P d q8 (v_X0_above (v_X1_withBody x1 x2)) 2 x3 (x4 + 1)) (fun q40 : Int32 × vT => (q40.1 ^^^ 5, q40.2)) else if (v_X1_bodyOf (v_X1_withBody x1 x2) x2) = 70 then kk (v_X1_run P d q8 (v_X0_above (v_X1_withBody x1 x2)) 0 x3 (x4 + 1)) (fun q43 : Int32 × vT => (q43.1 * 2, q43.2)) else if (v_X1_bodyOf (v_X1_withBody x1 x2) x2) = 71 then kk (v_X1_run P d q8 (v_X0_above (v_X1_withBody x1 x2)) 1 (x3 - (P.2 r1 2)) (x4 + 1)) (fun q47 : Int32 × vT => (q47.1, q47.2)) else (0, q8)) else (0, V))
def p_X1_run (P : pT) : Nat → vT → Int32 → Int32 → Int32 → Int32 → Prop
  | 0, _, _, _, _, _ => False
  | d + 1, V, x1, x2, x3, x4 => oc (V.2.2) (p_X1_withBody x1 x2) (fun r1 : Nat => p_X1_withBody x1 x2 ∧ (if (v_X1_withBody x1 x2) = (-1) then True else if x4 ≤ 12 then (p_X1_bodyOf (v_X1_withBody x1 x2) x2) ∧ ((p_X1_began V (v_X1_bodyOf (v_X1_withBody x1 x2) x2)) ∧ (kk (v_X1_began V (v_X1_bodyOf (v_X1_withBody x1 x2) x2)) (fun q8 : vT => (p_X0_above (v_X1_withBody x1 x2)) ∧ (if (v_X1_bodyOf (v_X1_withBody x1 x2) x2) = 10 then r1 ∈ P.1 else if (v_X1_bodyOf (v_X1_withBody x1 x2) x2) = 11 then (r1 ∈ P.1) ∧ (p_X1_run P d q8 (P.2 r1 1) 0 x3 (x4 + 1)) else if (v_X1_bodyOf (v_X1_withBody x1 x2) x2) = 12 then (r1 ∈ P.1) ∧ ((p_X1_run P d q8 (P.2 r1 1) 1 x3 (x4 + 1)) ∧ (kk (v_X1_run P d q8 (P.2 r1 1) 1 x3 (x4 + 1)) (fun q18 : Int32 × vT => p_X1_run P d q18.2 (P.2 r1 1) 0 (x3 - (P.2 r1 2)) (x4 + 1)))) else if (v_X1_bodyOf (v_X1_withBody x1 x2) x2) = 20 then (p_X1_run P d q8 (v_X0_above (v_X1_withBody x1 x2)) 1 x3 (x4 + 1)) ∧ (kk (v_X1_run P d q8 (v_X0_above (v_X1_withBody x1 x2)) 1 x3 (x4 + 1)) (fun q23 : Int32 × vT => r1 ∈ P.1)) else if (v_X1_bodyOf (v_X1_withBody x1 x2) x2) = 30 then p_X1_run P d q8 (v_X0_above (v_X1_withBody x1 x2)) 0 x3 (x4 + 1) else if (v_X1_bodyOf (v_X1_withBody x1 x2) x2) = 40 then p_X1_run P d q8 (v_X0_above (v_X1_withBody x1 x2)) 0 (x3 + 1) (x4 + 1) else if (v_X1_bodyOf (v_X1_withBody x1 x2) x2) = 50 then p_X1_run P d q8 (v_X0_above (v_X1_withBody x1 x2)) 2 x3 (x4 + 1) else if (v_X1_bodyOf (v_X1_withBody x1 x2) x2) = 51 then (p_X1_run P d q8 (v_X0_above (v_X1_withBody x1 x2)) 0 x3 (x4 + 1)) ∧ (kk (v_X1_run P d q8 (v_X0_above (v_X1_withBody x1 x2)) 0 x3 (x4 + 1)) (fun q36 : Int32 × vT => r1 ∈ P.1)) else if (v_X1_bodyOf (v_X1_withBody x1 x2) x2) = 60 then p_X1_run P d q8 (v_X0_above (v_X1_withBody x1 x2)) 2 x3 (x4 + 1) else if (v_X1_bodyOf (v_X1_withBody x1 x2) x2) = 70 then p_X1_run P d q8 (v_X0_above (v_X1_withBody x1 x2)) 0 x3 (x4 + 1) else if (v_X1_bodyOf (v_X1_withBody x1 x2) x2) = 71 then (r1 ∈ P.1) ∧ (p_X1_run P d q8 (v_X0_above (v_X1_withBody x1 x2)) 1 (x3 - (P.2 r1 2)) (x4 + 1)) else True)))) else True))
set_option maxHeartbeats 800000 in
theorem c_X1_run {l : Launch} (G : zG) (P : pT) (a : Nat → Nat) : ∀ (d : Nat) (sz : Nat) (V : vT) (x1 : Int32) (x2 : Int32) (x3 : Int32) (x4 : Int32) (hp : p_X1_run P d V x1 x2 x3 x4), Met l yX1_run (.code yX1_run (k_X1_run d).1 (k_X1_run d).2.1 (k_X1_run d).2.2.2.1 :: TS) (k_X1_run d).2.2.2.2 (Pz G [.ref (a 0), .int x1, .int x2, .int x3, .int x4] (Fw G (gX G P) (mvW G a V) sz)) (Qwi G (fun r w => r = (v_X1_run P d V x1 x2 x3 x4).1 ∧ w = mvW G a ((v_X1_run P d V x1 x2 x3 x4).2)) (va_A (mvW G a V) sz)) 0 0 (va_A (mvW G a V) sz) := by
  intro d
  induction d with
  | zero => exact fun sz V x1 x2 x3 x4 hp => absurd hp (by rw [p_X1_run]; exact not_false)
  | succ d ihd =>
  intro sz V x1 x2 x3 x4 hp
  refine zmet (K := (k_X1_run (d + 1))) (by decide +kernel) rfl rfl (fun Γ hl0 hQ hN hF => ?_)
  subst hl0
  refine z_start (gX_ok G P) hF (fun hw => ?_)
  generalize va_A (mvW G a V) sz = A at hQ hw ⊢
  obtain ⟨res, hv⟩ : ∃ res, v_X1_run P (d + 1) V x1 x2 x3 x4 = res := ⟨_, rfl⟩
  rw [hv] at hQ
  rw [v_X1_run] at hv
  rw [p_X1_run] at hp
  show Z (k_X1_run (d + 1)) G Γ _ 0 0 [(0, .ref (a 0)), (1, .int x1), (2, .int x2), (3, .int x3), (4, .int x4)] 0 []
  refine z_aload_n dX1_run_0 rfl ?_
  refine z_get (v := va_rf V.2.2) wr_P 0 rfl rfl uin_X1 2 (Nat.le_of_ble_eq_true rfl) tw_f_RX1_19 rfl rfl dX1_run_1 ?_
  suffices z49 : ∀ r1 : Option Nat, r1 = (V.2.2) → Z (k_X1_run (d + 1)) G Γ (wr G A Γ.2.2.1.1.heap (mvW G a V)) 0 0 [(0, .ref (a 0)), (1, .int x1), (2, .int x2), (3, .int x3), (4, .int x4)] 4 [va_rf r1] from z49 _ rfl
  intro r1 hr1
  have hp := oc_pq hp hr1
  have hv := oc_vq hv hr1
  clear hr1
  rcases r1 with _ | r1
  · have hp := oc_pn hp; have hv := oc_n hv
    refine z_astoreN (lv' := [(5, .null), (0, .ref (a 0)), (1, .int x1), (2, .int x2), (3, .int x3), (4, .int x4)]) dX1_run_4 (Nat.le_of_ble_eq_true rfl) rfl ?_
    refine z_iload_n dX1_run_6 rfl ?_
    refine z_iload_n dX1_run_7 rfl ?_
    have q2 := hp
    refine z_csi (c_X1_withBody G P x1 x2 q2) zc_X1_withBody tw_st_yX1_withBody tw_m_RX1_36 (fr_all (sub_P wr_P [] rfl) (wr_G hw)) (by refine ⟨rfl, rfl, ⟨?_, ?_⟩, ⟨?_, ?_⟩⟩ <;> (simp only [k_X1_run, k_X1_withBody]; omega)) rfl (Nat.le_of_ble_eq_true rfl) dX1_run_8 ?_
    refine z_istore (lv' := [(6, .int (v_X1_withBody x1 x2)), (5, .null), (0, .ref (a 0)), (1, .int x1), (2, .int x2), (3, .int x3), (4, .int x4)]) dX1_run_11 (Nat.le_of_ble_eq_true rfl) rfl ?_
    refine z_aloadN dX1_run_13 rfl ?_
    refine z_ifnullN (tgt := 31) dX1_run_15 (by decide) ?_
    refine z_iconst (v := 0) dX1_run_31 rfl ?_
    subst hv; exact z_iret_W hQ rfl rfl rfl ⟨rfl, rfl⟩ dX1_run_32
  · have hp := oc_ps hp; have hv := oc_s hv
    refine z_astore (lv' := [(5, .ref r1), (0, .ref (a 0)), (1, .int x1), (2, .int x2), (3, .int x3), (4, .int x4)]) dX1_run_4 (Nat.le_of_ble_eq_true rfl) rfl ?_
    refine z_iload_n dX1_run_6 rfl ?_
    refine z_iload_n dX1_run_7 rfl ?_
    obtain ⟨q3, hp⟩ := hp
    refine z_csi (c_X1_withBody G P x1 x2 q3) zc_X1_withBody tw_st_yX1_withBody tw_m_RX1_36 (fr_all (sub_P wr_P [] rfl) (wr_G hw)) (by refine ⟨rfl, rfl, ⟨?_, ?_⟩, ⟨?_, ?_⟩⟩ <;> (simp only [k_X1_run, k_X1_withBody]; omega)) rfl (Nat.le_of_ble_eq_true rfl) dX1_run_8 ?_
    refine z_istore (lv' := [(6, .int (v_X1_withBody x1 x2)), (5, .ref r1), (0, .ref (a 0)), (1, .int x1), (2, .int x2), (3, .int x3), (4, .int x4)]) dX1_run_11 (Nat.le_of_ble_eq_true rfl) rfl ?_
    refine z_aload dX1_run_13 rfl ?_
    refine z_ifnull dX1_run_15 ?_
    refine z_iload dX1_run_18 rfl ?_
    refine z_iconst (v := (-1)) dX1_run_20 rfl ?_
    refine z_icmp_eq (tgt := 31) dX1_run_21 (by decide) (fun c4 => ?_) (fun c4 => ?_)
    · have hp := ip_t hp c4; have hv := it_t hv c4
      refine z_iconst (v := 0) dX1_run_31 rfl ?_
      subst hv; exact z_iret_W hQ rfl rfl rfl ⟨rfl, rfl⟩ dX1_run_32
    · have hp := ip_f hp c4; have hv := it_f hv c4
      refine z_iload dX1_run_24 rfl ?_
      refine z_bipush (v := 12) dX1_run_26 rfl ?_
      refine z_icmp_le (tgt := 33) dX1_run_28 (by decide) (fun c5 => ?_) (fun c5 => ?_)
      · have hp := ip_t hp c5; have hv := it_t hv c5
        refine z_iload dX1_run_33 rfl ?_
        refine z_iload_n dX1_run_35 rfl ?_
        obtain ⟨q6, hp⟩ := hp
        refine z_csi (c_X1_bodyOf G P (v_X1_withBody x1 x2) x2 q6) zc_X1_bodyOf tw_st_yX1_bodyOf tw_m_RX1_40 (fr_all (sub_P wr_P [] rfl) (wr_G hw)) (by refine ⟨rfl, rfl, ⟨?_, ?_⟩, ⟨?_, ?_⟩⟩ <;> (simp only [k_X1_run, k_X1_bodyOf]; omega)) rfl (Nat.le_of_ble_eq_true rfl) dX1_run_36 ?_
        refine z_istore (lv' := [(7, .int (v_X1_bodyOf (v_X1_withBody x1 x2) x2)), (6, .int (v_X1_withBody x1 x2)), (5, .ref r1), (0, .ref (a 0)), (1, .int x1), (2, .int x2), (3, .int x3), (4, .int x4)]) dX1_run_39 (Nat.le_of_ble_eq_true rfl) rfl ?_
        refine z_aload_n dX1_run_41 rfl ?_
        refine z_iload dX1_run_42 rfl ?_
        obtain ⟨q7, hp⟩ := hp
        refine z_cavvD (W' := mvW G a (v_X1_began V (v_X1_bodyOf (v_X1_withBody x1 x2) x2))) hw (fun sz => c_X1_began G P a sz V (v_X1_bodyOf (v_X1_withBody x1 x2) x2) q7) zc_X1_began zv_X1_began tw_m_RX1_43 (zrec_of wr_P 0 rfl rfl) (by refine ⟨rfl, rfl, ⟨?_, ?_⟩, ⟨?_, ?_⟩⟩ <;> (simp only [k_X1_run, k_X1_began]; omega)) rfl (Nat.le_of_ble_eq_true rfl) dX1_run_44 ?_
        suffices z50 : ∀ q8 : vT, q8 = (v_X1_began V (v_X1_bodyOf (v_X1_withBody x1 x2) x2)) → Z (k_X1_run (d + 1)) G Γ (wr G A Γ.2.2.1.1.heap (mvW G a q8)) 0 0 [(7, .int (v_X1_bodyOf (v_X1_withBody x1 x2) x2)), (6, .int (v_X1_withBody x1 x2)), (5, .ref r1), (0, .ref (a 0)), (1, .int x1), (2, .int x2), (3, .int x3), (4, .int x4)] 47 [] from z50 _ rfl
        intro q8 hq8
        have hp := kk_pq hp hq8
        have hv := kk_vq hv hq8
        clear hq8
        refine z_iload dX1_run_47 rfl ?_
        obtain ⟨q9, hp⟩ := hp
        refine z_csi (c_X0_above G P (v_X1_withBody x1 x2) q9) zc_X0_above tw_st_yX0_above tw_m_RX1_47 (fr_all (sub_P wr_P [] rfl) (wr_G hw)) (by refine ⟨rfl, rfl, ⟨?_, ?_⟩, ⟨?_, ?_⟩⟩ <;> (simp only [k_X1_run, k_X0_above]; omega)) rfl (Nat.le_of_ble_eq_true rfl) dX1_run_49 ?_
        refine z_istore (lv' := [(8, .int (v_X0_above (v_X1_withBody x1 x2))), (7, .int (v_X1_bodyOf (v_X1_withBody x1 x2) x2)), (6, .int (v_X1_withBody x1 x2)), (5, .ref r1), (0, .ref (a 0)), (1, .int x1), (2, .int x2), (3, .int x3), (4, .int x4)]) dX1_run_52 (Nat.le_of_ble_eq_true rfl) rfl ?_
        refine z_iload dX1_run_54 rfl ?_
        by_cases c11 : (v_X1_bodyOf (v_X1_withBody x1 x2) x2) = 10
        · have hp := ip_t hp c11; have hv := it_t hv c11
          refine z_lookup (tgt := 156) dX1_run_56 (by decide) (look_in c11 rfl) (by decide) ?_
          refine z_iload_n dX1_run_156 rfl ?_
          refine z_aload dX1_run_157 rfl ?_
          have q10 := hp
          skip
          refine z_get (v := .int (P.2 r1 0)) (cm_P (wr_G hw) q10) 0 rfl rfl uin_X0 0 (Nat.le_of_ble_eq_true rfl) tw_f_RX1_51 rfl rfl dX1_run_159 ?_
          refine z_iadd dX1_run_162 ?_
          subst hv; exact z_iret_W hQ rfl rfl rfl ⟨rfl, rfl⟩ dX1_run_163
        have hp := ip_f hp c11
        have hv := it_f hv c11
        by_cases c15 : (v_X1_bodyOf (v_X1_withBody x1 x2) x2) = 11
        · have hp := ip_t hp c15; have hv := it_t hv c15
          refine z_lookup (tgt := 164) dX1_run_56 (by decide) (look_in c15 rfl) (by decide) ?_
          refine z_aload_n dX1_run_164 rfl ?_
          refine z_aload dX1_run_165 rfl ?_
          obtain ⟨q12, hp⟩ := hp
          skip
          refine z_get (v := .int (P.2 r1 1)) (cm_P (wr_G hw) q12) 0 rfl rfl uin_X0 1 (Nat.le_of_ble_eq_true rfl) tw_f_RX1_27 rfl rfl dX1_run_167 ?_
          refine z_iconst (v := 0) dX1_run_170 rfl ?_
          refine z_iload_n dX1_run_171 rfl ?_
          refine z_iload dX1_run_172 rfl ?_
          refine z_iconst (v := 1) dX1_run_174 rfl ?_
          refine z_iadd dX1_run_175 ?_
          have q13 := hp
          refine z_casiD (ws' := mvW G a ((v_X1_run P d q8 (P.2 r1 1) 0 x3 (x4 + 1)).2)) hw (fun sz => ihd sz q8 (P.2 r1 1) 0 x3 (x4 + 1) q13) (zc_X1_run d) tw_st_yX1_run tw_m_RX1_32 (by refine ⟨rfl, rfl, ⟨?_, ?_⟩, ⟨?_, ?_⟩⟩ <;> (simp only [k_X1_run]; omega)) rfl (Nat.le_of_ble_eq_true rfl) dX1_run_176 ?_
          suffices z51 : ∀ q14 : Int32 × vT, q14 = (v_X1_run P d q8 (P.2 r1 1) 0 x3 (x4 + 1)) → Z (k_X1_run (d + 1)) G Γ (wr G A Γ.2.2.1.1.heap (mvW G a q14.2)) 0 0 [(8, .int (v_X0_above (v_X1_withBody x1 x2))), (7, .int (v_X1_bodyOf (v_X1_withBody x1 x2) x2)), (6, .int (v_X1_withBody x1 x2)), (5, .ref r1), (0, .ref (a 0)), (1, .int x1), (2, .int x2), (3, .int x3), (4, .int x4)] 179 [.int q14.1] from z51 _ rfl
          intro q14 hq14
          have hv := kk_vq hv hq14
          clear hq14
          refine z_iconst (v := 2) dX1_run_179 rfl ?_
          refine z_imul dX1_run_180 ?_
          subst hv; exact z_iret_W hQ rfl rfl rfl ⟨rfl, rfl⟩ dX1_run_181
        have hp := ip_f hp c15
        have hv := it_f hv c15
        by_cases c21 : (v_X1_bodyOf (v_X1_withBody x1 x2) x2) = 12
        · have hp := ip_t hp c21; have hv := it_t hv c21
          refine z_lookup (tgt := 182) dX1_run_56 (by decide) (look_in c21 rfl) (by decide) ?_
          refine z_aload_n dX1_run_182 rfl ?_
          refine z_aload dX1_run_183 rfl ?_
          obtain ⟨q16, hp⟩ := hp
          skip
          refine z_get (v := .int (P.2 r1 1)) (cm_P (wr_G hw) q16) 0 rfl rfl uin_X0 1 (Nat.le_of_ble_eq_true rfl) tw_f_RX1_27 rfl rfl dX1_run_185 ?_
          refine z_iconst (v := 1) dX1_run_188 rfl ?_
          refine z_iload_n dX1_run_189 rfl ?_
          refine z_iload dX1_run_190 rfl ?_
          refine z_iconst (v := 1) dX1_run_192 rfl ?_
          refine z_iadd dX1_run_193 ?_
          obtain ⟨q17, hp⟩ := hp
          refine z_casiD (ws' := mvW G a ((v_X1_run P d q8 (P.2 r1 1) 1 x3 (x4 + 1)).2)) hw (fun sz => ihd sz q8 (P.2 r1 1) 1 x3 (x4 + 1) q17) (zc_X1_run d) tw_st_yX1_run tw_m_RX1_32 (by refine ⟨rfl, rfl, ⟨?_, ?_⟩, ⟨?_, ?_⟩⟩ <;> (simp only [k_X1_run]; omega)) rfl (Nat.le_of_ble_eq_true rfl) dX1_run_194 ?_
          suffices z52 : ∀ q18 : Int32 × vT, q18 = (v_X1_run P d q8 (P.2 r1 1) 1 x3 (x4 + 1)) → Z (k_X1_run (d + 1)) G Γ (wr G A Γ.2.2.1.1.heap (mvW G a q18.2)) 0 0 [(8, .int (v_X0_above (v_X1_withBody x1 x2))), (7, .int (v_X1_bodyOf (v_X1_withBody x1 x2) x2)), (6, .int (v_X1_withBody x1 x2)), (5, .ref r1), (0, .ref (a 0)), (1, .int x1), (2, .int x2), (3, .int x3), (4, .int x4)] 197 [.int q18.1] from z52 _ rfl
          intro q18 hq18
          have hp := kk_pq hp hq18
          have hv := kk_vq hv hq18
          clear hq18
          refine z_istore (lv' := [(9, .int q18.1), (8, .int (v_X0_above (v_X1_withBody x1 x2))), (7, .int (v_X1_bodyOf (v_X1_withBody x1 x2) x2)), (6, .int (v_X1_withBody x1 x2)), (5, .ref r1), (0, .ref (a 0)), (1, .int x1), (2, .int x2), (3, .int x3), (4, .int x4)]) dX1_run_197 (Nat.le_of_ble_eq_true rfl) rfl ?_
          refine z_iload dX1_run_199 rfl ?_
          refine z_aload_n dX1_run_201 rfl ?_
          refine z_aload dX1_run_202 rfl ?_
          refine z_get (v := .int (P.2 r1 1)) (cm_P (wr_G hw) q16) 0 rfl rfl uin_X0 1 (Nat.le_of_ble_eq_true rfl) tw_f_RX1_27 rfl rfl dX1_run_204 ?_
          refine z_iconst (v := 0) dX1_run_207 rfl ?_
          refine z_iload_n dX1_run_208 rfl ?_
          refine z_aload dX1_run_209 rfl ?_
          refine z_get (v := .int (P.2 r1 2)) (cm_P (wr_G hw) q16) 0 rfl rfl uin_X0 2 (Nat.le_of_ble_eq_true rfl) tw_f_RX1_54 rfl rfl dX1_run_211 ?_
          refine z_isub dX1_run_214 ?_
          refine z_iload dX1_run_215 rfl ?_
          refine z_iconst (v := 1) dX1_run_217 rfl ?_
          refine z_iadd dX1_run_218 ?_
          have q19 := hp
          refine z_casiD (ws' := mvW G a ((v_X1_run P d q18.2 (P.2 r1 1) 0 (x3 - (P.2 r1 2)) (x4 + 1)).2)) hw (fun sz => ihd sz q18.2 (P.2 r1 1) 0 (x3 - (P.2 r1 2)) (x4 + 1) q19) (zc_X1_run d) tw_st_yX1_run tw_m_RX1_32 (by refine ⟨rfl, rfl, ⟨?_, ?_⟩, ⟨?_, ?_⟩⟩ <;> (simp only [k_X1_run]; omega)) rfl (Nat.le_of_ble_eq_true rfl) dX1_run_219 ?_
          suffices z53 : ∀ q20 : Int32 × vT, q20 = (v_X1_run P d q18.2 (P.2 r1 1) 0 (x3 - (P.2 r1 2)) (x4 + 1)) → Z (k_X1_run (d + 1)) G Γ (wr G A Γ.2.2.1.1.heap (mvW G a q20.2)) 0 0 [(9, .int q18.1), (8, .int (v_X0_above (v_X1_withBody x1 x2))), (7, .int (v_X1_bodyOf (v_X1_withBody x1 x2) x2)), (6, .int (v_X1_withBody x1 x2)), (5, .ref r1), (0, .ref (a 0)), (1, .int x1), (2, .int x2), (3, .int x3), (4, .int x4)] 222 [.int q20.1, .int q18.1] from z53 _ rfl
          intro q20 hq20
          have hv := kk_vq hv hq20
          clear hq20
          refine z_ixor dX1_run_222 ?_
          subst hv; exact z_iret_W hQ rfl rfl rfl ⟨rfl, rfl⟩ dX1_run_223
        have hp := ip_f hp c21
        have hv := it_f hv c21
        by_cases c25 : (v_X1_bodyOf (v_X1_withBody x1 x2) x2) = 20
        · have hp := ip_t hp c25; have hv := it_t hv c25
          refine z_lookup (tgt := 224) dX1_run_56 (by decide) (look_in c25 rfl) (by decide) ?_
          refine z_aload_n dX1_run_224 rfl ?_
          refine z_iload dX1_run_225 rfl ?_
          refine z_iconst (v := 1) dX1_run_227 rfl ?_
          refine z_iload_n dX1_run_228 rfl ?_
          refine z_iload dX1_run_229 rfl ?_
          refine z_iconst (v := 1) dX1_run_231 rfl ?_
          refine z_iadd dX1_run_232 ?_
          obtain ⟨q22, hp⟩ := hp
          refine z_casiD (ws' := mvW G a ((v_X1_run P d q8 (v_X0_above (v_X1_withBody x1 x2)) 1 x3 (x4 + 1)).2)) hw (fun sz => ihd sz q8 (v_X0_above (v_X1_withBody x1 x2)) 1 x3 (x4 + 1) q22) (zc_X1_run d) tw_st_yX1_run tw_m_RX1_32 (by refine ⟨rfl, rfl, ⟨?_, ?_⟩, ⟨?_, ?_⟩⟩ <;> (simp only [k_X1_run]; omega)) rfl (Nat.le_of_ble_eq_true rfl) dX1_run_233 ?_
          suffices z54 : ∀ q23 : Int32 × vT, q23 = (v_X1_run P d q8 (v_X0_above (v_X1_withBody x1 x2)) 1 x3 (x4 + 1)) → Z (k_X1_run (d + 1)) G Γ (wr G A Γ.2.2.1.1.heap (mvW G a q23.2)) 0 0 [(8, .int (v_X0_above (v_X1_withBody x1 x2))), (7, .int (v_X1_bodyOf (v_X1_withBody x1 x2) x2)), (6, .int (v_X1_withBody x1 x2)), (5, .ref r1), (0, .ref (a 0)), (1, .int x1), (2, .int x2), (3, .int x3), (4, .int x4)] 236 [.int q23.1] from z54 _ rfl
          intro q23 hq23
          have hp := kk_pq hp hq23
          have hv := kk_vq hv hq23
          clear hq23
          refine z_aload dX1_run_236 rfl ?_
          have q24 := hp
          skip
          refine z_get (v := .int (P.2 r1 2)) (cm_P (wr_G hw) q24) 0 rfl rfl uin_X0 2 (Nat.le_of_ble_eq_true rfl) tw_f_RX1_54 rfl rfl dX1_run_238 ?_
          refine z_iadd dX1_run_241 ?_
          subst hv; exact z_iret_W hQ rfl rfl rfl ⟨rfl, rfl⟩ dX1_run_242
        have hp := ip_f hp c25
        have hv := it_f hv c25
        by_cases c28 : (v_X1_bodyOf (v_X1_withBody x1 x2) x2) = 30
        · have hp := ip_t hp c28; have hv := it_t hv c28
          refine z_lookup (tgt := 243) dX1_run_56 (by decide) (look_in c28 rfl) (by decide) ?_
          refine z_aload_n dX1_run_243 rfl ?_
          refine z_iload dX1_run_244 rfl ?_
          refine z_iconst (v := 0) dX1_run_246 rfl ?_
          refine z_iload_n dX1_run_247 rfl ?_
          refine z_iload dX1_run_248 rfl ?_
          refine z_iconst (v := 1) dX1_run_250 rfl ?_
          refine z_iadd dX1_run_251 ?_
          have q26 := hp
          refine z_casiD (ws' := mvW G a ((v_X1_run P d q8 (v_X0_above (v_X1_withBody x1 x2)) 0 x3 (x4 + 1)).2)) hw (fun sz => ihd sz q8 (v_X0_above (v_X1_withBody x1 x2)) 0 x3 (x4 + 1) q26) (zc_X1_run d) tw_st_yX1_run tw_m_RX1_32 (by refine ⟨rfl, rfl, ⟨?_, ?_⟩, ⟨?_, ?_⟩⟩ <;> (simp only [k_X1_run]; omega)) rfl (Nat.le_of_ble_eq_true rfl) dX1_run_252 ?_
          suffices z55 : ∀ q27 : Int32 × vT, q27 = (v_X1_run P d q8 (v_X0_above (v_X1_withBody x1 x2)) 0 x3 (x4 + 1)) → Z (k_X1_run (d + 1)) G Γ (wr G A Γ.2.2.1.1.heap (mvW G a q27.2)) 0 0 [(8, .int (v_X0_above (v_X1_withBody x1 x2))), (7, .int (v_X1_bodyOf (v_X1_withBody x1 x2) x2)), (6, .int (v_X1_withBody x1 x2)), (5, .ref r1), (0, .ref (a 0)), (1, .int x1), (2, .int x2), (3, .int x3), (4, .int x4)] 255 [.int q27.1] from z55 _ rfl
          intro q27 hq27
          have hv := kk_vq hv hq27
          clear hq27
          refine z_iconst (v := 3) dX1_run_255 rfl ?_
          refine z_imul dX1_run_256 ?_
          subst hv; exact z_iret_W hQ rfl rfl rfl ⟨rfl, rfl⟩ dX1_run_257
        have hp := ip_f hp c28
        have hv := it_f hv c28
        by_cases c31 : (v_X1_bodyOf (v_X1_withBody x1 x2) x2) = 40
        · have hp := ip_t hp c31; have hv := it_t hv c31
          refine z_lookup (tgt := 258) dX1_run_56 (by decide) (look_in c31 rfl) (by decide) ?_
          refine z_aload_n dX1_run_258 rfl ?_
          refine z_iload dX1_run_259 rfl ?_
          refine z_iconst (v := 0) dX1_run_261 rfl ?_
          refine z_iload_n dX1_run_262 rfl ?_
          refine z_iconst (v := 1) dX1_run_263 rfl ?_
          refine z_iadd dX1_run_264 ?_
          refine z_iload dX1_run_265 rfl ?_
          refine z_iconst (v := 1) dX1_run_267 rfl ?_
          refine z_iadd dX1_run_268 ?_
          have q29 := hp
          refine z_casiD (ws' := mvW G a ((v_X1_run P d q8 (v_X0_above (v_X1_withBody x1 x2)) 0 (x3 + 1) (x4 + 1)).2)) hw (fun sz => ihd sz q8 (v_X0_above (v_X1_withBody x1 x2)) 0 (x3 + 1) (x4 + 1) q29) (zc_X1_run d) tw_st_yX1_run tw_m_RX1_32 (by refine ⟨rfl, rfl, ⟨?_, ?_⟩, ⟨?_, ?_⟩⟩ <;> (simp only [k_X1_run]; omega)) rfl (Nat.le_of_ble_eq_true rfl) dX1_run_269 ?_
          suffices z56 : ∀ q30 : Int32 × vT, q30 = (v_X1_run P d q8 (v_X0_above (v_X1_withBody x1 x2)) 0 (x3 + 1) (x4 + 1)) → Z (k_X1_run (d + 1)) G Γ (wr G A Γ.2.2.1.1.heap (mvW G a q30.2)) 0 0 [(8, .int (v_X0_above (v_X1_withBody x1 x2))), (7, .int (v_X1_bodyOf (v_X1_withBody x1 x2) x2)), (6, .int (v_X1_withBody x1 x2)), (5, .ref r1), (0, .ref (a 0)), (1, .int x1), (2, .int x2), (3, .int x3), (4, .int x4)] 272 [.int q30.1] from z56 _ rfl
          intro q30 hq30
          have hv := kk_vq hv hq30
          clear hq30
          subst hv; exact z_iret_W hQ rfl rfl rfl ⟨rfl, rfl⟩ dX1_run_272
        have hp := ip_f hp c31
        have hv := it_f hv c31
        by_cases c34 : (v_X1_bodyOf (v_X1_withBody x1 x2) x2) = 50
        · have hp := ip_t hp c34; have hv := it_t hv c34
          refine z_lookup (tgt := 273) dX1_run_56 (by decide) (look_in c34 rfl) (by decide) ?_
          refine z_aload_n dX1_run_273 rfl ?_
          refine z_iload dX1_run_274 rfl ?_
          refine z_iconst (v := 2) dX1_run_276 rfl ?_
          refine z_iload_n dX1_run_277 rfl ?_
          refine z_iload dX1_run_278 rfl ?_
          refine z_iconst (v := 1) dX1_run_280 rfl ?_
          refine z_iadd dX1_run_281 ?_
          have q32 := hp
          refine z_casiD (ws' := mvW G a ((v_X1_run P d q8 (v_X0_above (v_X1_withBody x1 x2)) 2 x3 (x4 + 1)).2)) hw (fun sz => ihd sz q8 (v_X0_above (v_X1_withBody x1 x2)) 2 x3 (x4 + 1) q32) (zc_X1_run d) tw_st_yX1_run tw_m_RX1_32 (by refine ⟨rfl, rfl, ⟨?_, ?_⟩, ⟨?_, ?_⟩⟩ <;> (simp only [k_X1_run]; omega)) rfl (Nat.le_of_ble_eq_true rfl) dX1_run_282 ?_
          suffices z57 : ∀ q33 : Int32 × vT, q33 = (v_X1_run P d q8 (v_X0_above (v_X1_withBody x1 x2)) 2 x3 (x4 + 1)) → Z (k_X1_run (d + 1)) G Γ (wr G A Γ.2.2.1.1.heap (mvW G a q33.2)) 0 0 [(8, .int (v_X0_above (v_X1_withBody x1 x2))), (7, .int (v_X1_bodyOf (v_X1_withBody x1 x2) x2)), (6, .int (v_X1_withBody x1 x2)), (5, .ref r1), (0, .ref (a 0)), (1, .int x1), (2, .int x2), (3, .int x3), (4, .int x4)] 285 [.int q33.1] from z57 _ rfl
          intro q33 hq33
          have hv := kk_vq hv hq33
          clear hq33
          refine z_ineg dX1_run_285 ?_
          subst hv; exact z_iret_W hQ rfl rfl rfl ⟨rfl, rfl⟩ dX1_run_286
        have hp := ip_f hp c34
        have hv := it_f hv c34
        by_cases c38 : (v_X1_bodyOf (v_X1_withBody x1 x2) x2) = 51
        · have hp := ip_t hp c38; have hv := it_t hv c38
          refine z_lookup (tgt := 287) dX1_run_56 (by decide) (look_in c38 rfl) (by decide) ?_
          refine z_aload_n dX1_run_287 rfl ?_
          refine z_iload dX1_run_288 rfl ?_
          refine z_iconst (v := 0) dX1_run_290 rfl ?_
          refine z_iload_n dX1_run_291 rfl ?_
          refine z_iload dX1_run_292 rfl ?_
          refine z_iconst (v := 1) dX1_run_294 rfl ?_
          refine z_iadd dX1_run_295 ?_
          obtain ⟨q35, hp⟩ := hp
          refine z_casiD (ws' := mvW G a ((v_X1_run P d q8 (v_X0_above (v_X1_withBody x1 x2)) 0 x3 (x4 + 1)).2)) hw (fun sz => ihd sz q8 (v_X0_above (v_X1_withBody x1 x2)) 0 x3 (x4 + 1) q35) (zc_X1_run d) tw_st_yX1_run tw_m_RX1_32 (by refine ⟨rfl, rfl, ⟨?_, ?_⟩, ⟨?_, ?_⟩⟩ <;> (simp only [k_X1_run]; omega)) rfl (Nat.le_of_ble_eq_true rfl) dX1_run_296 ?_
          suffices z58 : ∀ q36 : Int32 × vT, q36 = (v_X1_run P d q8 (v_X0_above (v_X1_withBody x1 x2)) 0 x3 (x4 + 1)) → Z (k_X1_run (d + 1)) G Γ (wr G A Γ.2.2.1.1.heap (mvW G a q36.2)) 0 0 [(8, .int (v_X0_above (v_X1_withBody x1 x2))), (7, .int (v_X1_bodyOf (v_X1_withBody x1 x2) x2)), (6, .int (v_X1_withBody x1 x2)), (5, .ref r1), (0, .ref (a 0)), (1, .int x1), (2, .int x2), (3, .int x3), (4, .int x4)] 299 [.int q36.1] from z58 _ rfl
          intro q36 hq36
          have hp := kk_pq hp hq36
          have hv := kk_vq hv hq36
          clear hq36
          refine z_aload dX1_run_299 rfl ?_
          have q37 := hp
          skip
          refine z_get (v := .int (P.2 r1 0)) (cm_P (wr_G hw) q37) 0 rfl rfl uin_X0 0 (Nat.le_of_ble_eq_true rfl) tw_f_RX1_51 rfl rfl dX1_run_301 ?_
          refine z_isub dX1_run_304 ?_
          subst hv; exact z_iret_W hQ rfl rfl rfl ⟨rfl, rfl⟩ dX1_run_305
        have hp := ip_f hp c38
        have hv := it_f hv c38
        by_cases c41 : (v_X1_bodyOf (v_X1_withBody x1 x2) x2) = 60
        · have hp := ip_t hp c41; have hv := it_t hv c41
          refine z_lookup (tgt := 306) dX1_run_56 (by decide) (look_in c41 rfl) (by decide) ?_
          refine z_aload_n dX1_run_306 rfl ?_
          refine z_iload dX1_run_307 rfl ?_
          refine z_iconst (v := 2) dX1_run_309 rfl ?_
          refine z_iload_n dX1_run_310 rfl ?_
          refine z_iload dX1_run_311 rfl ?_
          refine z_iconst (v := 1) dX1_run_313 rfl ?_
          refine z_iadd dX1_run_314 ?_
          have q39 := hp
          refine z_casiD (ws' := mvW G a ((v_X1_run P d q8 (v_X0_above (v_X1_withBody x1 x2)) 2 x3 (x4 + 1)).2)) hw (fun sz => ihd sz q8 (v_X0_above (v_X1_withBody x1 x2)) 2 x3 (x4 + 1) q39) (zc_X1_run d) tw_st_yX1_run tw_m_RX1_32 (by refine ⟨rfl, rfl, ⟨?_, ?_⟩, ⟨?_, ?_⟩⟩ <;> (simp only [k_X1_run]; omega)) rfl (Nat.le_of_ble_eq_true rfl) dX1_run_315 ?_
          suffices z59 : ∀ q40 : Int32 × vT, q40 = (v_X1_run P d q8 (v_X0_above (v_X1_withBody x1 x2)) 2 x3 (x4 + 1)) → Z (k_X1_run (d + 1)) G Γ (wr G A Γ.2.2.1.1.heap (mvW G a q40.2)) 0 0 [(8, .int (v_X0_above (v_X1_withBody x1 x2))), (7, .int (v_X1_bodyOf (v_X1_withBody x1 x2) x2)), (6, .int (v_X1_withBody x1 x2)), (5, .ref r1), (0, .ref (a 0)), (1, .int x1), (2, .int x2), (3, .int x3), (4, .int x4)] 318 [.int q40.1] from z59 _ rfl
          intro q40 hq40
          have hv := kk_vq hv hq40
          clear hq40
          refine z_iconst (v := 5) dX1_run_318 rfl ?_
          refine z_ixor dX1_run_319 ?_
          subst hv; exact z_iret_W hQ rfl rfl rfl ⟨rfl, rfl⟩ dX1_run_320
        have hp := ip_f hp c41
        have hv := it_f hv c41
        by_cases c44 : (v_X1_bodyOf (v_X1_withBody x1 x2) x2) = 70
        · have hp := ip_t hp c44; have hv := it_t hv c44
          refine z_lookup (tgt := 321) dX1_run_56 (by decide) (look_in c44 rfl) (by decide) ?_
          refine z_aload_n dX1_run_321 rfl ?_
          refine z_iload dX1_run_322 rfl ?_
          refine z_iconst (v := 0) dX1_run_324 rfl ?_
          refine z_iload_n dX1_run_325 rfl ?_
          refine z_iload dX1_run_326 rfl ?_
          refine z_iconst (v := 1) dX1_run_328 rfl ?_
          refine z_iadd dX1_run_329 ?_
          have q42 := hp
          refine z_casiD (ws' := mvW G a ((v_X1_run P d q8 (v_X0_above (v_X1_withBody x1 x2)) 0 x3 (x4 + 1)).2)) hw (fun sz => ihd sz q8 (v_X0_above (v_X1_withBody x1 x2)) 0 x3 (x4 + 1) q42) (zc_X1_run d) tw_st_yX1_run tw_m_RX1_32 (by refine ⟨rfl, rfl, ⟨?_, ?_⟩, ⟨?_, ?_⟩⟩ <;> (simp only [k_X1_run]; omega)) rfl (Nat.le_of_ble_eq_true rfl) dX1_run_330 ?_
          suffices z60 : ∀ q43 : Int32 × vT, q43 = (v_X1_run P d q8 (v_X0_above (v_X1_withBody x1 x2)) 0 x3 (x4 + 1)) → Z (k_X1_run (d + 1)) G Γ (wr G A Γ.2.2.1.1.heap (mvW G a q43.2)) 0 0 [(8, .int (v_X0_above (v_X1_withBody x1 x2))), (7, .int (v_X1_bodyOf (v_X1_withBody x1 x2) x2)), (6, .int (v_X1_withBody x1 x2)), (5, .ref r1), (0, .ref (a 0)), (1, .int x1), (2, .int x2), (3, .int x3), (4, .int x4)] 333 [.int q43.1] from z60 _ rfl
          intro q43 hq43
          have hv := kk_vq hv hq43
          clear hq43
          refine z_iconst (v := 2) dX1_run_333 rfl ?_
          refine z_imul dX1_run_334 ?_
          subst hv; exact z_iret_W hQ rfl rfl rfl ⟨rfl, rfl⟩ dX1_run_335
        have hp := ip_f hp c44
        have hv := it_f hv c44
        by_cases c48 : (v_X1_bodyOf (v_X1_withBody x1 x2) x2) = 71
        · have hp := ip_t hp c48; have hv := it_t hv c48
          refine z_lookup (tgt := 336) dX1_run_56 (by decide) (look_in c48 rfl) (by decide) ?_
          refine z_aload_n dX1_run_336 rfl ?_
          refine z_iload dX1_run_337 rfl ?_
          refine z_iconst (v := 1) dX1_run_339 rfl ?_
          refine z_iload_n dX1_run_340 rfl ?_
          refine z_aload dX1_run_341 rfl ?_
          obtain ⟨q45, hp⟩ := hp
          skip
          refine z_get (v := .int (P.2 r1 2)) (cm_P (wr_G hw) q45) 0 rfl rfl uin_X0 2 (Nat.le_of_ble_eq_true rfl) tw_f_RX1_54 rfl rfl dX1_run_343 ?_
          refine z_isub dX1_run_346 ?_
          refine z_iload dX1_run_347 rfl ?_
          refine z_iconst (v := 1) dX1_run_349 rfl ?_
          refine z_iadd dX1_run_350 ?_
          have q46 := hp
          refine z_casiD (ws' := mvW G a ((v_X1_run P d q8 (v_X0_above (v_X1_withBody x1 x2)) 1 (x3 - (P.2 r1 2)) (x4 + 1)).2)) hw (fun sz => ihd sz q8 (v_X0_above (v_X1_withBody x1 x2)) 1 (x3 - (P.2 r1 2)) (x4 + 1) q46) (zc_X1_run d) tw_st_yX1_run tw_m_RX1_32 (by refine ⟨rfl, rfl, ⟨?_, ?_⟩, ⟨?_, ?_⟩⟩ <;> (simp only [k_X1_run]; omega)) rfl (Nat.le_of_ble_eq_true rfl) dX1_run_351 ?_
          suffices z61 : ∀ q47 : Int32 × vT, q47 = (v_X1_run P d q8 (v_X0_above (v_X1_withBody x1 x2)) 1 (x3 - (P.2 r1 2)) (x4 + 1)) → Z (k_X1_run (d + 1)) G Γ (wr G A Γ.2.2.1.1.heap (mvW G a q47.2)) 0 0 [(8, .int (v_X0_above (v_X1_withBody x1 x2))), (7, .int (v_X1_bodyOf (v_X1_withBody x1 x2) x2)), (6, .int (v_X1_withBody x1 x2)), (5, .ref r1), (0, .ref (a 0)), (1, .int x1), (2, .int x2), (3, .int x3), (4, .int x4)] 354 [.int q47.1] from z61 _ rfl
          intro q47 hq47
          have hv := kk_vq hv hq47
          clear hq47
          subst hv; exact z_iret_W hQ rfl rfl rfl ⟨rfl, rfl⟩ dX1_run_354
        have hp := ip_f hp c48
        have hv := it_f hv c48
        refine z_lookup (tgt := 355) dX1_run_56 (by decide) (look_c c11 rfl (look_c c15 rfl (look_c c21 rfl (look_c c25 rfl (look_c c28 rfl (look_c c31 rfl (look_c c34 rfl (look_c c38 rfl (look_c c41 rfl (look_c c44 rfl (look_c c48 rfl look_n))))))))))) (by decide) ?_
        refine z_iconst (v := 0) dX1_run_355 rfl ?_
        subst hv; exact z_iret_W hQ rfl rfl rfl ⟨rfl, rfl⟩ dX1_run_356
      · have hp := ip_f hp c5; have hv := it_f hv c5
        refine z_iconst (v := 0) dX1_run_31 rfl ?_
        subst hv; exact z_iret_W hQ rfl rfl rfl ⟨rfl, rfl⟩ dX1_run_32
theorem dX1_start_0 : decode cX1_start 0 = .ok (.aload_n 0, 1) := by decide +kernel
theorem dX1_start_1 : decode cX1_start 1 = .ok (.iconst 0, 1) := by decide +kernel
theorem dX1_start_2 : decode cX1_start 2 = .ok (.putfield 15, 3) := by decide +kernel
theorem dX1_start_5 : decode cX1_start 5 = .ok (.aload_n 0, 1) := by decide +kernel
theorem dX1_start_6 : decode cX1_start 6 = .ok (.aload_n 1, 1) := by decide +kernel
theorem dX1_start_7 : decode cX1_start 7 = .ok (.putfield 19, 3) := by decide +kernel
theorem dX1_start_10 : decode cX1_start 10 = .ok (.aload_n 1, 1) := by decide +kernel
theorem dX1_start_11 : decode cX1_start 11 = .ok (.ifnull 12, 3) := by decide +kernel
theorem dX1_start_14 : decode cX1_start 14 = .ok (.iload_n 2, 1) := by decide +kernel
theorem dX1_start_15 : decode cX1_start 15 = .ok (.iconst 0, 1) := by decide +kernel
theorem dX1_start_16 : decode cX1_start 16 = .ok (.iconst 2, 1) := by decide +kernel
theorem dX1_start_17 : decode cX1_start 17 = .ok (.invokestatic 23, 3) := by decide +kernel
theorem dX1_start_20 : decode cX1_start 20 = .ok (.ifCond .ne 7, 3) := by decide +kernel
theorem dX1_start_23 : decode cX1_start 23 = .ok (.iconst 0, 1) := by decide +kernel
theorem dX1_start_24 : decode cX1_start 24 = .ok (.goto 14, 3) := by decide +kernel
theorem dX1_start_27 : decode cX1_start 27 = .ok (.aload_n 0, 1) := by decide +kernel
theorem dX1_start_28 : decode cX1_start 28 = .ok (.aload_n 1, 1) := by decide +kernel
theorem dX1_start_29 : decode cX1_start 29 = .ok (.getfield 27, 3) := by decide +kernel
theorem dX1_start_32 : decode cX1_start 32 = .ok (.iload_n 2, 1) := by decide +kernel
theorem dX1_start_33 : decode cX1_start 33 = .ok (.iload_n 3, 1) := by decide +kernel
theorem dX1_start_34 : decode cX1_start 34 = .ok (.iconst 0, 1) := by decide +kernel
theorem dX1_start_35 : decode cX1_start 35 = .ok (.invokestatic 32, 3) := by decide +kernel
theorem dX1_start_38 : decode cX1_start 38 = .ok (.ireturn, 1) := by decide +kernel
abbrev k_X1_start : zK := (cX1_start, 4, RX1, (some .int), ({ frames := 19, cells := 0, slots := 0, locals := 538 } : Room))
theorem zc_X1_start : zcal yX1_start k_X1_start.1 k_X1_start.2.1 k_X1_start.2.2.2.1 3 := ⟨tw_code_yX1_start, tw_i_TollForHesitators_Moves, ⟨by decide +kernel, by decide +kernel⟩, by decide +kernel⟩
theorem zv_X1_start : Cond.instanceMethod yX1_start ∈ TS ∧ Cond.selects RX1 yX1_start yX1_start ∈ TS := ⟨tw_inst_yX1_start, tw_s_yX1_start⟩
def v_X1_start (P : pT) (V : vT) (x1 : (Option Nat)) (x2 : Int32) (x3 : Int32) : Int32 × vT := oc (x1) ((0, vso (vsf V 1 0) none)) (fun r1 : Nat => kk (if (v_X6_within x2 0 2) = 0 then vso (vsf V 1 0) (some r1) else ((v_X1_run P 16 (vso (vsf V 1 0) (some r1)) (P.2 r1 1) x2 x3 0).2)) (fun M6 : vT => ((if (v_X6_within x2 0 2) = 0 then 0 else (v_X1_run P 16 (vso (vsf V 1 0) (some r1)) (P.2 r1 1) x2 x3 0).1), M6)))
def p_X1_start (P : pT) (V : vT) (x1 : (Option Nat)) (x2 : Int32) (x3 : Int32) : Prop := oc (x1) (True) (fun r1 : Nat => if (v_X6_within x2 0 2) = 0 then True else (r1 ∈ P.1) ∧ (p_X1_run P 16 (vso (vsf V 1 0) (some r1)) (P.2 r1 1) x2 x3 0))
set_option maxHeartbeats 800000 in
theorem c_X1_start {l : Launch} (G : zG) (P : pT) (a : Nat → Nat) (sz : Nat) (V : vT) (x1 : (Option Nat)) (x2 : Int32) (x3 : Int32) (hp : p_X1_start P V x1 x2 x3) : Met l yX1_start (.code yX1_start k_X1_start.1 k_X1_start.2.1 k_X1_start.2.2.2.1 :: TS) k_X1_start.2.2.2.2 (Pz G [.ref (a 0), va_rf x1, .int x2, .int x3] (Fw G (gX G P) (mvW G a V) sz)) (Qwi G (fun r w => r = (v_X1_start P V x1 x2 x3).1 ∧ w = mvW G a ((v_X1_start P V x1 x2 x3).2)) (va_A (mvW G a V) sz)) 0 0 (va_A (mvW G a V) sz) := by
  rcases x1 with _ | r1
  · refine zmet (K := k_X1_start) (by decide +kernel) rfl rfl (fun Γ hl0 hQ hN hF => ?_)
    refine z_start (gX_ok G P) hF (fun hw => ?_)
    generalize va_A (mvW G a V) sz = A at hQ hw ⊢
    obtain ⟨res, hv⟩ : ∃ res, v_X1_start P V none x2 x3 = res := ⟨_, rfl⟩
    rw [hv] at hQ
    unfold v_X1_start at hv
    unfold p_X1_start at hp
    have hp := oc_pn hp
    have hv := oc_n hv
    show Z k_X1_start G Γ _ 0 0 [(0, .ref (a 0)), (1, .null), (2, .int x2), (3, .int x3)] 0 []
    refine z_aload_n dX1_start_0 rfl ?_
    refine z_iconst (v := 0) dX1_start_1 rfl ?_
    refine z_put (fs := mvF a V) (v := .int 0) (ws' := mvW G a (vsf V 1 0)) 0 rfl rfl uin_X1 tyX1 tyX1_ok nmX1 1 (Nat.le_of_ble_eq_true rfl) tw_f_RX1_15 rfl rfl (ty := .int) rfl rfl rfl (Nat.le_of_ble_eq_true rfl) rfl dX1_start_2 ?_
    refine z_aload_n dX1_start_5 rfl ?_
    refine z_aload_nN dX1_start_6 rfl ?_
    refine z_put (fs := mvF a (vsf V 1 0)) (v := .null) (ws' := mvW G a (vso (vsf V 1 0) none)) 0 rfl rfl uin_X1 tyX1 tyX1_ok nmX1 2 (Nat.le_of_ble_eq_true rfl) tw_f_RX1_19 rfl rfl (ty := (.object RX0)) rfl rfl rfl (Nat.le_of_ble_eq_true rfl) rfl dX1_start_7 ?_
    refine z_aload_nN dX1_start_10 rfl ?_
    refine z_ifnullN (tgt := 23) dX1_start_11 (by decide) ?_
    refine z_iconst (v := 0) dX1_start_23 rfl ?_
    refine z_goto (tgt := 38) dX1_start_24 (by decide) ?_
    subst hv; exact z_iret_W hQ rfl rfl rfl ⟨rfl, rfl⟩ dX1_start_38
  · refine zmet (K := k_X1_start) (by decide +kernel) rfl rfl (fun Γ hl0 hQ hN hF => ?_)
    refine z_start (gX_ok G P) hF (fun hw => ?_)
    generalize va_A (mvW G a V) sz = A at hQ hw ⊢
    obtain ⟨res, hv⟩ : ∃ res, v_X1_start P V (some r1) x2 x3 = res := ⟨_, rfl⟩
    rw [hv] at hQ
    unfold v_X1_start at hv
    unfold p_X1_start at hp
    have hp := oc_ps hp
    have hv := oc_s hv
    show Z k_X1_start G Γ _ 0 0 [(0, .ref (a 0)), (1, .ref r1), (2, .int x2), (3, .int x3)] 0 []
    refine z_aload_n dX1_start_0 rfl ?_
    refine z_iconst (v := 0) dX1_start_1 rfl ?_
    refine z_put (fs := mvF a V) (v := .int 0) (ws' := mvW G a (vsf V 1 0)) 0 rfl rfl uin_X1 tyX1 tyX1_ok nmX1 1 (Nat.le_of_ble_eq_true rfl) tw_f_RX1_15 rfl rfl (ty := .int) rfl rfl rfl (Nat.le_of_ble_eq_true rfl) rfl dX1_start_2 ?_
    refine z_aload_n dX1_start_5 rfl ?_
    refine z_aload_n dX1_start_6 rfl ?_
    refine z_put (fs := mvF a (vsf V 1 0)) (v := .ref r1) (ws' := mvW G a (vso (vsf V 1 0) (some r1))) 0 rfl rfl uin_X1 tyX1 tyX1_ok nmX1 2 (Nat.le_of_ble_eq_true rfl) tw_f_RX1_19 rfl rfl (ty := (.object RX0)) rfl rfl rfl (Nat.le_of_ble_eq_true rfl) rfl dX1_start_7 ?_
    refine z_aload_n dX1_start_10 rfl ?_
    refine z_ifnull dX1_start_11 ?_
    refine z_iload_n dX1_start_14 rfl ?_
    refine z_iconst (v := 0) dX1_start_15 rfl ?_
    refine z_iconst (v := 2) dX1_start_16 rfl ?_
    refine z_csNi (host := RX6) (c_X6_within G P x2 0 2 ) zc_X6_within tw_st_yX6_within (by decide +kernel) (fr_all (sub_P wr_P [] rfl) (wr_G hw)) (zroom_of rfl) rfl (Nat.le_of_ble_eq_true rfl) dX1_start_17 ?_
    have hpm := hp
    have J8 : ∀ M6 : vT, M6 = (if (v_X6_within x2 0 2) = 0 then vso (vsf V 1 0) (some r1) else ((v_X1_run P 16 (vso (vsf V 1 0) (some r1)) (P.2 r1 1) x2 x3 0).2)) → ∀ m7 : Int32, m7 = (if (v_X6_within x2 0 2) = 0 then 0 else (v_X1_run P 16 (vso (vsf V 1 0) (some r1)) (P.2 r1 1) x2 x3 0).1) → Z k_X1_start G Γ (wr G A Γ.2.2.1.1.heap (mvW G a M6)) 0 0 [(0, .ref (a 0)), (1, .ref r1), (2, .int x2), (3, .int x3)] 38 [.int m7] := by
      intro M6 eM6 m7 em7
      have hv := kk_vq hv eM6
      clear eM6
      rewrite [em7]; clear em7
      subst hv; exact z_iret_W hQ rfl rfl rfl ⟨rfl, rfl⟩ dX1_start_38
    refine z_if_ne (tgt := 27) dX1_start_20 (by decide) (fun c2 => ?_) (fun c2 => ?_)
    · have hp := ip_f hpm c2
      refine z_aload_n dX1_start_27 rfl ?_
      refine z_aload_n dX1_start_28 rfl ?_
      obtain ⟨q3, hp⟩ := hp
      skip
      refine z_get (v := .int (P.2 r1 1)) (cm_P (wr_G hw) q3) 0 rfl rfl uin_X0 1 (Nat.le_of_ble_eq_true rfl) tw_f_RX1_27 rfl rfl dX1_start_29 ?_
      refine z_iload_n dX1_start_32 rfl ?_
      refine z_iload_n dX1_start_33 rfl ?_
      refine z_iconst (v := 0) dX1_start_34 rfl ?_
      have q4 := hp
      refine z_casiD (ws' := mvW G a ((v_X1_run P 16 (vso (vsf V 1 0) (some r1)) (P.2 r1 1) x2 x3 0).2)) hw (fun sz => c_X1_run G P a 16 sz (vso (vsf V 1 0) (some r1)) (P.2 r1 1) x2 x3 0 q4) (zc_X1_run 16) tw_st_yX1_run tw_m_RX1_32 (zroom_of rfl) rfl (Nat.le_of_ble_eq_true rfl) dX1_start_35 ?_
      exact z_lv rfl (J8 _ (if_neg c2).symm _ (if_neg c2).symm)
    · have hp := ip_t hpm c2
      refine z_iconst (v := 0) dX1_start_23 rfl ?_
      refine z_goto (tgt := 38) dX1_start_24 (by decide) ?_
      exact z_lv rfl (J8 _ (if_pos c2).symm _ (if_pos c2).symm)
