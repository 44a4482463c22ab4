theorem dX7_isBlind_0 : decode cX7_isBlind 0 = .ok (.aload_n 0, 1) := by decide +kernel
theorem dX7_isBlind_1 : decode cX7_isBlind 1 = .ok (.getfield 29, 3) := by decide +kernel
theorem dX7_isBlind_4 : decode cX7_isBlind 4 = .ok (.iload_n 1, 1) := by decide +kernel
theorem dX7_isBlind_5 : decode cX7_isBlind 5 = .ok (.iaload, 1) := by decide +kernel
theorem dX7_isBlind_6 : decode cX7_isBlind 6 = .ok (.iconst 1, 1) := by decide +kernel
theorem dX7_isBlind_7 : decode cX7_isBlind 7 = .ok (.if_icmp .eq 14, 3) := by decide +kernel
theorem dX7_isBlind_10 : decode cX7_isBlind 10 = .ok (.aload_n 0, 1) := by decide +kernel
theorem dX7_isBlind_11 : decode cX7_isBlind 11 = .ok (.getfield 29, 3) := by decide +kernel
theorem dX7_isBlind_14 : decode cX7_isBlind 14 = .ok (.iload_n 1, 1) := by decide +kernel
theorem dX7_isBlind_15 : decode cX7_isBlind 15 = .ok (.iaload, 1) := by decide +kernel
theorem dX7_isBlind_16 : decode cX7_isBlind 16 = .ok (.bipush 6, 2) := by decide +kernel
theorem dX7_isBlind_18 : decode cX7_isBlind 18 = .ok (.if_icmp .ne 7, 3) := by decide +kernel
theorem dX7_isBlind_21 : decode cX7_isBlind 21 = .ok (.iconst 1, 1) := by decide +kernel
theorem dX7_isBlind_22 : decode cX7_isBlind 22 = .ok (.goto 4, 3) := by decide +kernel
theorem dX7_isBlind_25 : decode cX7_isBlind 25 = .ok (.iconst 0, 1) := by decide +kernel
theorem dX7_isBlind_26 : decode cX7_isBlind 26 = .ok (.ireturn, 1) := by decide +kernel
abbrev k_X7_isBlind : zK := (cX7_isBlind, 2, RX7, (some .boolean), ({ frames := 0, cells := 0, slots := 0, locals := 0 } : Room))
theorem zc_X7_isBlind : zcal yX7_isBlind k_X7_isBlind.1 k_X7_isBlind.2.1 k_X7_isBlind.2.2.2.1 1 := ⟨tw_code_yX7_isBlind, tw_i_TollForHesitatorsModel, ⟨by decide +kernel, by decide +kernel⟩, by decide +kernel⟩
theorem zv_X7_isBlind : Cond.instanceMethod yX7_isBlind ∈ TS ∧ Cond.selects RX7 yX7_isBlind yX7_isBlind ∈ TS := ⟨tw_inst_yX7_isBlind, tw_s_yX7_isBlind⟩
def v_X7_isBlind (M : mT) (x1 : Int32) : Int32 := (if ((M.2.1 9) x1.toNatClampNeg) = 1 then 1 else (if ((M.2.1 9) x1.toNatClampNeg) = 6 then 1 else 0))
def p_X7_isBlind (M : mT) (x1 : Int32) : Prop := vp_in x1 7 ∧ (if ((M.2.1 9) x1.toNatClampNeg) = 1 then True else vp_in x1 7)
theorem nb_X7_isBlind (M : mT) (x1 : Int32) : narrow .boolean (.int (v_X7_isBlind M x1)) = .int (v_X7_isBlind M x1) := by
  unfold v_X7_isBlind
  skip
  (repeat' (first | with_reducible exact nz0 | with_reducible exact nz1 | with_reducible assumption | split))
set_option maxHeartbeats 4000000 in
theorem c_X7_isBlind {l : Launch} (G : zG) (a : Nat → Nat) (M : mT) (x1 : Int32) (hp : p_X7_isBlind M x1) : Met l yX7_isBlind (.code yX7_isBlind k_X7_isBlind.1 k_X7_isBlind.2.1 k_X7_isBlind.2.2.2.1 :: TS) k_X7_isBlind.2.2.2.2 (Pz G [.ref (a 0), .int x1] (va_P G.2.1 CL (mW G a M))) (vp_Si (fun r => r = v_X7_isBlind M x1)) 0 0 (fun _ => False) := by
  refine zmet (by decide +kernel) rfl rfl (fun Γ hl0 hQ hN hF => ?_)
  have hI := rd_P (G := G) hF
  obtain ⟨res, hv⟩ : ∃ res, v_X7_isBlind M x1 = res := ⟨_, rfl⟩
  rw [hv] at hQ
  unfold v_X7_isBlind at hv
  unfold p_X7_isBlind at hp
  show Z k_X7_isBlind G Γ _ 0 0 [(0, .ref (a 0)), (1, .int x1)] 0 []
  refine z_aload_n dX7_isBlind_0 rfl ?_
  refine mg_9 hI rfl dX7_isBlind_1 ?_
  refine z_iload_n dX7_isBlind_4 rfl ?_
  obtain ⟨q1, hp⟩ := hp
  refine ml_9 (x := (M.2.1 9) x1.toNatClampNeg) hI q1 rfl dX7_isBlind_5 ?_
  refine z_iconst (v := 1) dX7_isBlind_6 rfl ?_
  have hpm := hp
  have J7 : ∀ m6 : Int32, m6 = (if ((M.2.1 9) x1.toNatClampNeg) = 1 then 1 else (if ((M.2.1 9) x1.toNatClampNeg) = 6 then 1 else 0)) → Z k_X7_isBlind G Γ (rd Γ.2.2.1.1.heap) 0 0 [(0, .ref (a 0)), (1, .int x1)] 26 [.int m6] := by
    intro m6 em6
    rewrite [em6]; clear em6
    exact z_zret_S hQ rfl (by (repeat' (first | with_reducible exact nz0 | with_reducible exact nz1 | with_reducible assumption | split))) hv dX7_isBlind_26
  refine z_icmp_eq (tgt := 21) dX7_isBlind_7 (by decide) (fun c2 => ?_) (fun c2 => ?_)
  · have hp := ip_t hpm c2
    refine z_iconst (v := 1) dX7_isBlind_21 rfl ?_
    refine z_goto (tgt := 26) dX7_isBlind_22 (by decide) ?_
    exact z_lv rfl (J7 _ (if_pos c2).symm)
  · have hp := ip_f hpm c2
    refine z_aload_n dX7_isBlind_10 rfl ?_
    refine mg_9 hI rfl dX7_isBlind_11 ?_
    refine z_iload_n dX7_isBlind_14 rfl ?_
    have q3 := hp
    refine ml_9 (x := (M.2.1 9) x1.toNatClampNeg) hI q3 rfl dX7_isBlind_15 ?_
    refine z_bipush (v := 6) dX7_isBlind_16 rfl ?_
    have J8 : ∀ m5 : Int32, m5 = (if ((M.2.1 9) x1.toNatClampNeg) = 6 then 1 else 0) → Z k_X7_isBlind G Γ (rd Γ.2.2.1.1.heap) 0 0 [(0, .ref (a 0)), (1, .int x1)] 26 [.int m5] := by
      intro m5 em5
      rewrite [em5]; clear em5
      exact z_lv rfl (J7 _ (if_neg c2).symm)
    refine z_icmp_ne (tgt := 25) dX7_isBlind_18 (by decide) (fun c4 => ?_) (fun c4 => ?_)
    · skip
      refine z_iconst (v := 0) dX7_isBlind_25 rfl ?_
      exact z_lv rfl (J8 _ (if_neg c4).symm)
    · skip
      refine z_iconst (v := 1) dX7_isBlind_21 rfl ?_
      refine z_goto (tgt := 26) dX7_isBlind_22 (by decide) ?_
      exact z_lv rfl (J8 _ (if_pos c4).symm)
theorem dX7_looksOf_0 : decode cX7_looksOf 0 = .ok (.aload_n 0, 1) := by decide +kernel
theorem dX7_looksOf_1 : decode cX7_looksOf 1 = .ok (.getfield 29, 3) := by decide +kernel
theorem dX7_looksOf_4 : decode cX7_looksOf 4 = .ok (.iload_n 1, 1) := by decide +kernel
theorem dX7_looksOf_5 : decode cX7_looksOf 5 = .ok (.iaload, 1) := by decide +kernel
theorem dX7_looksOf_6 : decode cX7_looksOf 6 = .ok (.bipush 6, 2) := by decide +kernel
theorem dX7_looksOf_8 : decode cX7_looksOf 8 = .ok (.if_icmp .ne 7, 3) := by decide +kernel
theorem dX7_looksOf_11 : decode cX7_looksOf 11 = .ok (.iconst 1, 1) := by decide +kernel
theorem dX7_looksOf_12 : decode cX7_looksOf 12 = .ok (.goto 23, 3) := by decide +kernel
theorem dX7_looksOf_15 : decode cX7_looksOf 15 = .ok (.aload_n 0, 1) := by decide +kernel
theorem dX7_looksOf_16 : decode cX7_looksOf 16 = .ok (.getfield 7, 3) := by decide +kernel
theorem dX7_looksOf_19 : decode cX7_looksOf 19 = .ok (.aload_n 0, 1) := by decide +kernel
theorem dX7_looksOf_20 : decode cX7_looksOf 20 = .ok (.getfield 38, 3) := by decide +kernel
theorem dX7_looksOf_23 : decode cX7_looksOf 23 = .ok (.iload_n 1, 1) := by decide +kernel
theorem dX7_looksOf_24 : decode cX7_looksOf 24 = .ok (.iaload, 1) := by decide +kernel
theorem dX7_looksOf_25 : decode cX7_looksOf 25 = .ok (.iadd, 1) := by decide +kernel
theorem dX7_looksOf_26 : decode cX7_looksOf 26 = .ok (.iconst 1, 1) := by decide +kernel
theorem dX7_looksOf_27 : decode cX7_looksOf 27 = .ok (.isub, 1) := by decide +kernel
theorem dX7_looksOf_28 : decode cX7_looksOf 28 = .ok (.aload_n 0, 1) := by decide +kernel
theorem dX7_looksOf_29 : decode cX7_looksOf 29 = .ok (.getfield 38, 3) := by decide +kernel
theorem dX7_looksOf_32 : decode cX7_looksOf 32 = .ok (.iload_n 1, 1) := by decide +kernel
theorem dX7_looksOf_33 : decode cX7_looksOf 33 = .ok (.iaload, 1) := by decide +kernel
theorem dX7_looksOf_34 : decode cX7_looksOf 34 = .ok (.idiv, 1) := by decide +kernel
theorem dX7_looksOf_35 : decode cX7_looksOf 35 = .ok (.ireturn, 1) := by decide +kernel
abbrev k_X7_looksOf : zK := (cX7_looksOf, 2, RX7, (some .int), ({ frames := 0, cells := 0, slots := 0, locals := 0 } : Room))
theorem zc_X7_looksOf : zcal yX7_looksOf k_X7_looksOf.1 k_X7_looksOf.2.1 k_X7_looksOf.2.2.2.1 1 := ⟨tw_code_yX7_looksOf, tw_i_TollForHesitatorsModel, ⟨by decide +kernel, by decide +kernel⟩, by decide +kernel⟩
theorem zv_X7_looksOf : Cond.instanceMethod yX7_looksOf ∈ TS ∧ Cond.selects RX7 yX7_looksOf yX7_looksOf ∈ TS := ⟨tw_inst_yX7_looksOf, tw_s_yX7_looksOf⟩
def v_X7_looksOf (M : mT) (x1 : Int32) : Int32 := (if ((M.2.1 9) x1.toNatClampNeg) = 6 then 1 else (((M.1 1) + ((M.2.1 12) x1.toNatClampNeg)) - 1) / ((M.2.1 12) x1.toNatClampNeg))
def p_X7_looksOf (M : mT) (x1 : Int32) : Prop := vp_in x1 7 ∧ (if ((M.2.1 9) x1.toNatClampNeg) = 6 then True else vp_in x1 7 ∧ (vp_in x1 7 ∧ (¬ ((M.2.1 12) x1.toNatClampNeg) = 0)))
set_option maxHeartbeats 4000000 in
theorem c_X7_looksOf {l : Launch} (G : zG) (a : Nat → Nat) (M : mT) (x1 : Int32) (hp : p_X7_looksOf M x1) : Met l yX7_looksOf (.code yX7_looksOf k_X7_looksOf.1 k_X7_looksOf.2.1 k_X7_looksOf.2.2.2.1 :: TS) k_X7_looksOf.2.2.2.2 (Pz G [.ref (a 0), .int x1] (va_P G.2.1 CL (mW G a M))) (vp_Si (fun r => r = v_X7_looksOf M x1)) 0 0 (fun _ => False) := by
  refine zmet (by decide +kernel) rfl rfl (fun Γ hl0 hQ hN hF => ?_)
  have hI := rd_P (G := G) hF
  obtain ⟨res, hv⟩ : ∃ res, v_X7_looksOf M x1 = res := ⟨_, rfl⟩
  rw [hv] at hQ
  unfold v_X7_looksOf at hv
  unfold p_X7_looksOf at hp
  show Z k_X7_looksOf G Γ _ 0 0 [(0, .ref (a 0)), (1, .int x1)] 0 []
  refine z_aload_n dX7_looksOf_0 rfl ?_
  refine mg_9 hI rfl dX7_looksOf_1 ?_
  refine z_iload_n dX7_looksOf_4 rfl ?_
  obtain ⟨q1, hp⟩ := hp
  refine ml_9 (x := (M.2.1 9) x1.toNatClampNeg) hI q1 rfl dX7_looksOf_5 ?_
  refine z_bipush (v := 6) dX7_looksOf_6 rfl ?_
  have hpm := hp
  have J7 : ∀ m6 : Int32, m6 = (if ((M.2.1 9) x1.toNatClampNeg) = 6 then 1 else (((M.1 1) + ((M.2.1 12) x1.toNatClampNeg)) - 1) / ((M.2.1 12) x1.toNatClampNeg)) → Z k_X7_looksOf G Γ (rd Γ.2.2.1.1.heap) 0 0 [(0, .ref (a 0)), (1, .int x1)] 35 [.int m6] := by
    intro m6 em6
    rewrite [em6]; clear em6
    exact z_iret_S hQ rfl hv dX7_looksOf_35
  refine z_icmp_ne (tgt := 15) dX7_looksOf_8 (by decide) (fun c2 => ?_) (fun c2 => ?_)
  · have hp := ip_f hpm c2
    refine z_aload_n dX7_looksOf_15 rfl ?_
    refine mg_1 (v := M.1 1) hI rfl rfl dX7_looksOf_16 ?_
    refine z_aload_n dX7_looksOf_19 rfl ?_
    refine mg_12 hI rfl dX7_looksOf_20 ?_
    refine z_iload_n dX7_looksOf_23 rfl ?_
    obtain ⟨q3, hp⟩ := hp
    refine ml_12 (x := (M.2.1 12) x1.toNatClampNeg) hI q3 rfl dX7_looksOf_24 ?_
    refine z_iadd dX7_looksOf_25 ?_
    refine z_iconst (v := 1) dX7_looksOf_26 rfl ?_
    refine z_isub dX7_looksOf_27 ?_
    refine z_aload_n dX7_looksOf_28 rfl ?_
    refine mg_12 hI rfl dX7_looksOf_29 ?_
    refine z_iload_n dX7_looksOf_32 rfl ?_
    obtain ⟨q4, hp⟩ := hp
    refine ml_12 (x := (M.2.1 12) x1.toNatClampNeg) hI q4 rfl dX7_looksOf_33 ?_
    have q5 := hp
    refine z_idiv dX7_looksOf_34 q5 ?_
    exact z_lv rfl (J7 _ (if_neg c2).symm)
  · have hp := ip_t hpm c2
    refine z_iconst (v := 1) dX7_looksOf_11 rfl ?_
    refine z_goto (tgt := 35) dX7_looksOf_12 (by decide) ?_
    exact z_lv rfl (J7 _ (if_pos c2).symm)
theorem dX7_burden_0 : decode cX7_burden 0 = .ok (.aload_n 0, 1) := by decide +kernel
theorem dX7_burden_1 : decode cX7_burden 1 = .ok (.iload_n 1, 1) := by decide +kernel
theorem dX7_burden_2 : decode cX7_burden 2 = .ok (.invokevirtual 190, 3) := by decide +kernel
theorem dX7_burden_5 : decode cX7_burden 5 = .ok (.ifCond .eq 14, 3) := by decide +kernel
theorem dX7_burden_8 : decode cX7_burden 8 = .ok (.iconst 2, 1) := by decide +kernel
theorem dX7_burden_9 : decode cX7_burden 9 = .ok (.aload_n 0, 1) := by decide +kernel
theorem dX7_burden_10 : decode cX7_burden 10 = .ok (.getfield 41, 3) := by decide +kernel
theorem dX7_burden_13 : decode cX7_burden 13 = .ok (.iload_n 1, 1) := by decide +kernel
theorem dX7_burden_14 : decode cX7_burden 14 = .ok (.iaload, 1) := by decide +kernel
theorem dX7_burden_15 : decode cX7_burden 15 = .ok (.imul, 1) := by decide +kernel
theorem dX7_burden_16 : decode cX7_burden 16 = .ok (.goto 11, 3) := by decide +kernel
theorem dX7_burden_19 : decode cX7_burden 19 = .ok (.iload_n 2, 1) := by decide +kernel
theorem dX7_burden_20 : decode cX7_burden 20 = .ok (.aload_n 0, 1) := by decide +kernel
theorem dX7_burden_21 : decode cX7_burden 21 = .ok (.getfield 41, 3) := by decide +kernel
theorem dX7_burden_24 : decode cX7_burden 24 = .ok (.iload_n 1, 1) := by decide +kernel
theorem dX7_burden_25 : decode cX7_burden 25 = .ok (.iaload, 1) := by decide +kernel
theorem dX7_burden_26 : decode cX7_burden 26 = .ok (.iadd, 1) := by decide +kernel
theorem dX7_burden_27 : decode cX7_burden 27 = .ok (.ireturn, 1) := by decide +kernel
abbrev k_X7_burden : zK := (cX7_burden, 3, RX7, (some .int), ({ frames := 1, cells := 0, slots := 0, locals := 21 } : Room))
theorem zc_X7_burden : zcal yX7_burden k_X7_burden.1 k_X7_burden.2.1 k_X7_burden.2.2.2.1 2 := ⟨tw_code_yX7_burden, tw_i_TollForHesitatorsModel, ⟨by decide +kernel, by decide +kernel⟩, by decide +kernel⟩
theorem zv_X7_burden : Cond.instanceMethod yX7_burden ∈ TS ∧ Cond.selects RX7 yX7_burden yX7_burden ∈ TS := ⟨tw_inst_yX7_burden, tw_s_yX7_burden⟩
def v_X7_burden (M : mT) (x1 : Int32) (x2 : Int32) : Int32 := (if (v_X7_isBlind M x1) = 0 then x2 + ((M.2.1 13) x1.toNatClampNeg) else 2 * ((M.2.1 13) x1.toNatClampNeg))
def p_X7_burden (M : mT) (x1 : Int32) (x2 : Int32) : Prop := p_X7_isBlind M x1 ∧ (if (v_X7_isBlind M x1) = 0 then vp_in x1 7 else vp_in x1 7)
set_option maxHeartbeats 4000000 in
theorem c_X7_burden {l : Launch} (G : zG) (a : Nat → Nat) (M : mT) (x1 : Int32) (x2 : Int32) (hp : p_X7_burden M x1 x2) : Met l yX7_burden (.code yX7_burden k_X7_burden.1 k_X7_burden.2.1 k_X7_burden.2.2.2.1 :: TS) k_X7_burden.2.2.2.2 (Pz G [.ref (a 0), .int x1, .int x2] (va_P G.2.1 CL (mW G a M))) (vp_Si (fun r => r = v_X7_burden M x1 x2)) 0 0 (fun _ => False) := by
  refine zmet (by decide +kernel) rfl rfl (fun Γ hl0 hQ hN hF => ?_)
  have hI := rd_P (G := G) hF
  obtain ⟨res, hv⟩ : ∃ res, v_X7_burden M x1 x2 = res := ⟨_, rfl⟩
  rw [hv] at hQ
  unfold v_X7_burden at hv
  unfold p_X7_burden at hp
  show Z k_X7_burden G Γ _ 0 0 [(0, .ref (a 0)), (1, .int x1), (2, .int x2)] 0 []
  refine z_aload_n dX7_burden_0 rfl ?_
  refine z_iload_n dX7_burden_1 rfl ?_
  obtain ⟨q1, hp⟩ := hp
  refine z_cvi (c_X7_isBlind G a M x1 q1) zc_X7_isBlind zv_X7_isBlind tw_m_RX7_190 (mrec hI) hI (zroom_of rfl) rfl (Nat.le_of_ble_eq_true rfl) dX7_burden_2 ?_
  have hpm := hp
  have J6 : ∀ m5 : Int32, m5 = (if (v_X7_isBlind M x1) = 0 then x2 + ((M.2.1 13) x1.toNatClampNeg) else 2 * ((M.2.1 13) x1.toNatClampNeg)) → Z k_X7_burden G Γ (rd Γ.2.2.1.1.heap) 0 0 [(0, .ref (a 0)), (1, .int x1), (2, .int x2)] 27 [.int m5] := by
    intro m5 em5
    rewrite [em5]; clear em5
    exact z_iret_S hQ rfl hv dX7_burden_27
  refine z_if_eq (tgt := 19) dX7_burden_5 (by decide) (fun c2 => ?_) (fun c2 => ?_)
  · have hp := ip_t hpm c2
    refine z_iload_n dX7_burden_19 rfl ?_
    refine z_aload_n dX7_burden_20 rfl ?_
    refine mg_13 hI rfl dX7_burden_21 ?_
    refine z_iload_n dX7_burden_24 rfl ?_
    have q3 := hp
    refine ml_13 (x := (M.2.1 13) x1.toNatClampNeg) hI q3 rfl dX7_burden_25 ?_
    refine z_iadd dX7_burden_26 ?_
    exact z_lv rfl (J6 _ (if_pos c2).symm)
  · have hp := ip_f hpm c2
    refine z_iconst (v := 2) dX7_burden_8 rfl ?_
    refine z_aload_n dX7_burden_9 rfl ?_
    refine mg_13 hI rfl dX7_burden_10 ?_
    refine z_iload_n dX7_burden_13 rfl ?_
    have q4 := hp
    refine ml_13 (x := (M.2.1 13) x1.toNatClampNeg) hI q4 rfl dX7_burden_14 ?_
    refine z_imul dX7_burden_15 ?_
    refine z_goto (tgt := 27) dX7_burden_16 (by decide) ?_
    exact z_lv rfl (J6 _ (if_neg c2).symm)
theorem dX7_courage_0 : decode cX7_courage 0 = .ok (.aload_n 0, 1) := by decide +kernel
theorem dX7_courage_1 : decode cX7_courage 1 = .ok (.getfield 35, 3) := by decide +kernel
theorem dX7_courage_4 : decode cX7_courage 4 = .ok (.iload_n 1, 1) := by decide +kernel
theorem dX7_courage_5 : decode cX7_courage 5 = .ok (.iaload, 1) := by decide +kernel
theorem dX7_courage_6 : decode cX7_courage 6 = .ok (.istore 4, 2) := by decide +kernel
theorem dX7_courage_8 : decode cX7_courage 8 = .ok (.aload_n 0, 1) := by decide +kernel
theorem dX7_courage_9 : decode cX7_courage 9 = .ok (.getfield 29, 3) := by decide +kernel
theorem dX7_courage_12 : decode cX7_courage 12 = .ok (.iload_n 1, 1) := by decide +kernel
theorem dX7_courage_13 : decode cX7_courage 13 = .ok (.iaload, 1) := by decide +kernel
theorem dX7_courage_14 : decode cX7_courage 14 = .ok (.iconst 2, 1) := by decide +kernel
theorem dX7_courage_15 : decode cX7_courage 15 = .ok (.if_icmp .eq 16, 3) := by decide +kernel
theorem dX7_courage_18 : decode cX7_courage 18 = .ok (.aload_n 0, 1) := by decide +kernel
theorem dX7_courage_19 : decode cX7_courage 19 = .ok (.getfield 29, 3) := by decide +kernel
theorem dX7_courage_22 : decode cX7_courage 22 = .ok (.iload_n 1, 1) := by decide +kernel
theorem dX7_courage_23 : decode cX7_courage 23 = .ok (.iaload, 1) := by decide +kernel
theorem dX7_courage_24 : decode cX7_courage 24 = .ok (.iconst 3, 1) := by decide +kernel
theorem dX7_courage_25 : decode cX7_courage 25 = .ok (.if_icmp .eq 6, 3) := by decide +kernel
theorem dX7_courage_28 : decode cX7_courage 28 = .ok (.iload 4, 2) := by decide +kernel
theorem dX7_courage_30 : decode cX7_courage 30 = .ok (.ireturn, 1) := by decide +kernel
theorem dX7_courage_31 : decode cX7_courage 31 = .ok (.iload_n 2, 1) := by decide +kernel
theorem dX7_courage_32 : decode cX7_courage 32 = .ok (.iconst (-1), 1) := by decide +kernel
theorem dX7_courage_33 : decode cX7_courage 33 = .ok (.if_icmp .eq 22, 3) := by decide +kernel
theorem dX7_courage_36 : decode cX7_courage 36 = .ok (.aload_n 0, 1) := by decide +kernel
theorem dX7_courage_37 : decode cX7_courage 37 = .ok (.getfield 35, 3) := by decide +kernel
theorem dX7_courage_40 : decode cX7_courage 40 = .ok (.iload_n 2, 1) := by decide +kernel
theorem dX7_courage_41 : decode cX7_courage 41 = .ok (.iaload, 1) := by decide +kernel
theorem dX7_courage_42 : decode cX7_courage 42 = .ok (.iload 4, 2) := by decide +kernel
theorem dX7_courage_44 : decode cX7_courage 44 = .ok (.if_icmp .le 11, 3) := by decide +kernel
theorem dX7_courage_47 : decode cX7_courage 47 = .ok (.aload_n 0, 1) := by decide +kernel
theorem dX7_courage_48 : decode cX7_courage 48 = .ok (.getfield 35, 3) := by decide +kernel
theorem dX7_courage_51 : decode cX7_courage 51 = .ok (.iload_n 2, 1) := by decide +kernel
theorem dX7_courage_52 : decode cX7_courage 52 = .ok (.iaload, 1) := by decide +kernel
theorem dX7_courage_53 : decode cX7_courage 53 = .ok (.istore 4, 2) := by decide +kernel
theorem dX7_courage_55 : decode cX7_courage 55 = .ok (.aload_n 0, 1) := by decide +kernel
theorem dX7_courage_56 : decode cX7_courage 56 = .ok (.getfield 29, 3) := by decide +kernel
theorem dX7_courage_59 : decode cX7_courage 59 = .ok (.iload_n 1, 1) := by decide +kernel
theorem dX7_courage_60 : decode cX7_courage 60 = .ok (.iaload, 1) := by decide +kernel
theorem dX7_courage_61 : decode cX7_courage 61 = .ok (.iconst 3, 1) := by decide +kernel
theorem dX7_courage_62 : decode cX7_courage 62 = .ok (.if_icmp .ne 21, 3) := by decide +kernel
theorem dX7_courage_65 : decode cX7_courage 65 = .ok (.iload_n 3, 1) := by decide +kernel
theorem dX7_courage_66 : decode cX7_courage 66 = .ok (.iconst (-1), 1) := by decide +kernel
theorem dX7_courage_67 : decode cX7_courage 67 = .ok (.if_icmp .eq 16, 3) := by decide +kernel
theorem dX7_courage_70 : decode cX7_courage 70 = .ok (.iload 4, 2) := by decide +kernel
theorem dX7_courage_72 : decode cX7_courage 72 = .ok (.aload_n 0, 1) := by decide +kernel
theorem dX7_courage_73 : decode cX7_courage 73 = .ok (.getfield 35, 3) := by decide +kernel
theorem dX7_courage_76 : decode cX7_courage 76 = .ok (.iload_n 3, 1) := by decide +kernel
theorem dX7_courage_77 : decode cX7_courage 77 = .ok (.iaload, 1) := by decide +kernel
theorem dX7_courage_78 : decode cX7_courage 78 = .ok (.iconst 2, 1) := by decide +kernel
theorem dX7_courage_79 : decode cX7_courage 79 = .ok (.idiv, 1) := by decide +kernel
theorem dX7_courage_80 : decode cX7_courage 80 = .ok (.iadd, 1) := by decide +kernel
theorem dX7_courage_81 : decode cX7_courage 81 = .ok (.istore 4, 2) := by decide +kernel
theorem dX7_courage_83 : decode cX7_courage 83 = .ok (.iload 4, 2) := by decide +kernel
theorem dX7_courage_85 : decode cX7_courage 85 = .ok (.ireturn, 1) := by decide +kernel
abbrev k_X7_courage : zK := (cX7_courage, 5, RX7, (some .int), ({ frames := 0, cells := 0, slots := 0, locals := 0 } : Room))
theorem zc_X7_courage : zcal yX7_courage k_X7_courage.1 k_X7_courage.2.1 k_X7_courage.2.2.2.1 3 := ⟨tw_code_yX7_courage, tw_i_TollForHesitatorsModel, ⟨by decide +kernel, by decide +kernel⟩, by decide +kernel⟩
theorem zv_X7_courage : Cond.instanceMethod yX7_courage ∈ TS ∧ Cond.selects RX7 yX7_courage yX7_courage ∈ TS := ⟨tw_inst_yX7_courage, tw_s_yX7_courage⟩
def v_X7_courage (M : mT) (x1 : Int32) (x2 : Int32) (x3 : Int32) : Int32 := if ((M.2.1 9) x1.toNatClampNeg) = 2 then kk (if x2 = (-1) then (M.2.1 11) x1.toNatClampNeg else (if ((M.2.1 11) x2.toNatClampNeg) ≤ ((M.2.1 11) x1.toNatClampNeg) then (M.2.1 11) x1.toNatClampNeg else (M.2.1 11) x2.toNatClampNeg)) (fun m9 : Int32 => kk (if ((M.2.1 9) x1.toNatClampNeg) = 3 then (if x3 = (-1) then m9 else m9 + (((M.2.1 11) x3.toNatClampNeg) / 2)) else m9) (fun m15 : Int32 => m15)) else if ((M.2.1 9) x1.toNatClampNeg) = 3 then kk (if x2 = (-1) then (M.2.1 11) x1.toNatClampNeg else (if ((M.2.1 11) x2.toNatClampNeg) ≤ ((M.2.1 11) x1.toNatClampNeg) then (M.2.1 11) x1.toNatClampNeg else (M.2.1 11) x2.toNatClampNeg)) (fun m23 : Int32 => kk (if ((M.2.1 9) x1.toNatClampNeg) = 3 then (if x3 = (-1) then m23 else m23 + (((M.2.1 11) x3.toNatClampNeg) / 2)) else m23) (fun m29 : Int32 => m29)) else (M.2.1 11) x1.toNatClampNeg
def p_X7_courage (M : mT) (x1 : Int32) (x2 : Int32) (x3 : Int32) : Prop := vp_in x1 7 ∧ (vp_in x1 7 ∧ (if ((M.2.1 9) x1.toNatClampNeg) = 2 then (if x2 = (-1) then True else vp_in x2 7 ∧ (if ((M.2.1 11) x2.toNatClampNeg) ≤ ((M.2.1 11) x1.toNatClampNeg) then True else vp_in x2 7)) ∧ (kk (if x2 = (-1) then (M.2.1 11) x1.toNatClampNeg else (if ((M.2.1 11) x2.toNatClampNeg) ≤ ((M.2.1 11) x1.toNatClampNeg) then (M.2.1 11) x1.toNatClampNeg else (M.2.1 11) x2.toNatClampNeg)) (fun m9 : Int32 => vp_in x1 7 ∧ (if ((M.2.1 9) x1.toNatClampNeg) = 3 then if x3 = (-1) then True else vp_in x3 7 else True))) else vp_in x1 7 ∧ (if ((M.2.1 9) x1.toNatClampNeg) = 3 then (if x2 = (-1) then True else vp_in x2 7 ∧ (if ((M.2.1 11) x2.toNatClampNeg) ≤ ((M.2.1 11) x1.toNatClampNeg) then True else vp_in x2 7)) ∧ (kk (if x2 = (-1) then (M.2.1 11) x1.toNatClampNeg else (if ((M.2.1 11) x2.toNatClampNeg) ≤ ((M.2.1 11) x1.toNatClampNeg) then (M.2.1 11) x1.toNatClampNeg else (M.2.1 11) x2.toNatClampNeg)) (fun m23 : Int32 => vp_in x1 7 ∧ (if ((M.2.1 9) x1.toNatClampNeg) = 3 then if x3 = (-1) then True else vp_in x3 7 else True))) else True)))
set_option maxHeartbeats 4000000 in
theorem c_X7_courage {l : Launch} (G : zG) (a : Nat → Nat) (M : mT) (x1 : Int32) (x2 : Int32) (x3 : Int32) (hp : p_X7_courage M x1 x2 x3) : Met l yX7_courage (.code yX7_courage k_X7_courage.1 k_X7_courage.2.1 k_X7_courage.2.2.2.1 :: TS) k_X7_courage.2.2.2.2 (Pz G [.ref (a 0), .int x1, .int x2, .int x3] (va_P G.2.1 CL (mW G a M))) (vp_Si (fun r => r = v_X7_courage M x1 x2 x3)) 0 0 (fun _ => False) := by
  refine zmet (by decide +kernel) rfl rfl (fun Γ hl0 hQ hN hF => ?_)
  have hI := rd_P (G := G) hF
  obtain ⟨res, hv⟩ : ∃ res, v_X7_courage M x1 x2 x3 = res := ⟨_, rfl⟩
  rw [hv] at hQ
  unfold v_X7_courage at hv
  unfold p_X7_courage at hp
  show Z k_X7_courage G Γ _ 0 0 [(0, .ref (a 0)), (1, .int x1), (2, .int x2), (3, .int x3)] 0 []
  refine z_aload_n dX7_courage_0 rfl ?_
  refine mg_11 hI rfl dX7_courage_1 ?_
  refine z_iload_n dX7_courage_4 rfl ?_
  obtain ⟨q1, hp⟩ := hp
  refine ml_11 (x := (M.2.1 11) x1.toNatClampNeg) hI q1 rfl dX7_courage_5 ?_
  refine z_istore (lv' := [(4, .int ((M.2.1 11) x1.toNatClampNeg)), (0, .ref (a 0)), (1, .int x1), (2, .int x2), (3, .int x3)]) dX7_courage_6 (Nat.le_of_ble_eq_true rfl) rfl ?_
  refine z_aload_n dX7_courage_8 rfl ?_
  refine mg_9 hI rfl dX7_courage_9 ?_
  refine z_iload_n dX7_courage_12 rfl ?_
  obtain ⟨q2, hp⟩ := hp
  refine ml_9 (x := (M.2.1 9) x1.toNatClampNeg) hI q2 rfl dX7_courage_13 ?_
  refine z_iconst (v := 2) dX7_courage_14 rfl ?_
  refine z_icmp_eq (tgt := 31) dX7_courage_15 (by decide) (fun c3 => ?_) (fun c3 => ?_)
  · have hp := ip_t hp c3; have hv := it_t hv c3
    refine z_iload_n dX7_courage_31 rfl ?_
    refine z_iconst (v := (-1)) dX7_courage_32 rfl ?_
    obtain ⟨hpm, hp⟩ := hp
    have J30 : ∀ m9 : Int32, m9 = (if x2 = (-1) then (M.2.1 11) x1.toNatClampNeg else (if ((M.2.1 11) x2.toNatClampNeg) ≤ ((M.2.1 11) x1.toNatClampNeg) then (M.2.1 11) x1.toNatClampNeg else (M.2.1 11) x2.toNatClampNeg)) → Z k_X7_courage G Γ (rd Γ.2.2.1.1.heap) 0 0 [(4, .int m9), (0, .ref (a 0)), (1, .int x1), (2, .int x2), (3, .int x3)] 55 [] := by
      intro m9 em9
      have hp := kk_pq hp em9
      have hv := kk_vq hv em9
      clear em9
      refine z_aload_n dX7_courage_55 rfl ?_
      refine mg_9 hI rfl dX7_courage_56 ?_
      refine z_iload_n dX7_courage_59 rfl ?_
      obtain ⟨q10, hp⟩ := hp
      refine ml_9 (x := (M.2.1 9) x1.toNatClampNeg) hI q10 rfl dX7_courage_60 ?_
      refine z_iconst (v := 3) dX7_courage_61 rfl ?_
      have hpm := hp
      have J31 : ∀ m15 : Int32, m15 = (if ((M.2.1 9) x1.toNatClampNeg) = 3 then (if x3 = (-1) then m9 else m9 + (((M.2.1 11) x3.toNatClampNeg) / 2)) else m9) → Z k_X7_courage G Γ (rd Γ.2.2.1.1.heap) 0 0 [(4, .int m15), (0, .ref (a 0)), (1, .int x1), (2, .int x2), (3, .int x3)] 83 [] := by
        intro m15 em15
        have hv := kk_vq hv em15
        clear em15
        refine z_iload dX7_courage_83 rfl ?_
        exact z_iret_S hQ rfl hv dX7_courage_85
      refine z_icmp_ne (tgt := 83) dX7_courage_62 (by decide) (fun c11 => ?_) (fun c11 => ?_)
      · have hp := ip_f hpm c11
        exact z_lv rfl (J31 _ (if_neg c11).symm)
      · have hp := ip_t hpm c11
        refine z_iload_n dX7_courage_65 rfl ?_
        refine z_iconst (v := (-1)) dX7_courage_66 rfl ?_
        have hpm := hp
        have J32 : ∀ m14 : Int32, m14 = (if x3 = (-1) then m9 else m9 + (((M.2.1 11) x3.toNatClampNeg) / 2)) → Z k_X7_courage G Γ (rd Γ.2.2.1.1.heap) 0 0 [(4, .int m14), (0, .ref (a 0)), (1, .int x1), (2, .int x2), (3, .int x3)] 83 [] := by
          intro m14 em14
          rewrite [em14]; clear em14
          exact z_lv rfl (J31 _ (if_pos c11).symm)
        refine z_icmp_eq (tgt := 83) dX7_courage_67 (by decide) (fun c12 => ?_) (fun c12 => ?_)
        · have hp := ip_t hpm c12
          exact z_lv rfl (J32 _ (if_pos c12).symm)
        · have hp := ip_f hpm c12
          refine z_iload dX7_courage_70 rfl ?_
          refine z_aload_n dX7_courage_72 rfl ?_
          refine mg_11 hI rfl dX7_courage_73 ?_
          refine z_iload_n dX7_courage_76 rfl ?_
          have q13 := hp
          refine ml_11 (x := (M.2.1 11) x3.toNatClampNeg) hI q13 rfl dX7_courage_77 ?_
          refine z_iconst (v := 2) dX7_courage_78 rfl ?_
          refine z_idiv dX7_courage_79 (by decide) ?_
          refine z_iadd dX7_courage_80 ?_
          refine z_istore (lv' := [(4, .int (m9 + (((M.2.1 11) x3.toNatClampNeg) / 2))), (0, .ref (a 0)), (1, .int x1), (2, .int x2), (3, .int x3)]) dX7_courage_81 (Nat.le_of_ble_eq_true rfl) rfl ?_
          exact z_lv rfl (J32 _ (if_neg c12).symm)
    refine z_icmp_eq (tgt := 55) dX7_courage_33 (by decide) (fun c4 => ?_) (fun c4 => ?_)
    · have hp := ip_t hpm c4
      exact z_lv rfl (J30 _ (if_pos c4).symm)
    · have hp := ip_f hpm c4
      refine z_aload_n dX7_courage_36 rfl ?_
      refine mg_11 hI rfl dX7_courage_37 ?_
      refine z_iload_n dX7_courage_40 rfl ?_
      obtain ⟨q5, hp⟩ := hp
      refine ml_11 (x := (M.2.1 11) x2.toNatClampNeg) hI q5 rfl dX7_courage_41 ?_
      refine z_iload dX7_courage_42 rfl ?_
      have hpm := hp
      have J33 : ∀ m8 : Int32, m8 = (if ((M.2.1 11) x2.toNatClampNeg) ≤ ((M.2.1 11) x1.toNatClampNeg) then (M.2.1 11) x1.toNatClampNeg else (M.2.1 11) x2.toNatClampNeg) → Z k_X7_courage G Γ (rd Γ.2.2.1.1.heap) 0 0 [(4, .int m8), (0, .ref (a 0)), (1, .int x1), (2, .int x2), (3, .int x3)] 55 [] := by
        intro m8 em8
        rewrite [em8]; clear em8
        exact z_lv rfl (J30 _ (if_neg c4).symm)
      refine z_icmp_le (tgt := 55) dX7_courage_44 (by decide) (fun c6 => ?_) (fun c6 => ?_)
      · have hp := ip_t hpm c6
        exact z_lv rfl (J33 _ (if_pos c6).symm)
      · have hp := ip_f hpm c6
        refine z_aload_n dX7_courage_47 rfl ?_
        refine mg_11 hI rfl dX7_courage_48 ?_
        refine z_iload_n dX7_courage_51 rfl ?_
        have q7 := hp
        refine ml_11 (x := (M.2.1 11) x2.toNatClampNeg) hI q7 rfl dX7_courage_52 ?_
        refine z_istore (lv' := [(4, .int ((M.2.1 11) x2.toNatClampNeg)), (0, .ref (a 0)), (1, .int x1), (2, .int x2), (3, .int x3)]) dX7_courage_53 (Nat.le_of_ble_eq_true rfl) rfl ?_
        exact z_lv rfl (J33 _ (if_neg c6).symm)
  · have hp := ip_f hp c3; have hv := it_f hv c3
    refine z_aload_n dX7_courage_18 rfl ?_
    refine mg_9 hI rfl dX7_courage_19 ?_
    refine z_iload_n dX7_courage_22 rfl ?_
    obtain ⟨q16, hp⟩ := hp
    refine ml_9 (x := (M.2.1 9) x1.toNatClampNeg) hI q16 rfl dX7_courage_23 ?_
    refine z_iconst (v := 3) dX7_courage_24 rfl ?_
    refine z_icmp_eq (tgt := 31) dX7_courage_25 (by decide) (fun c17 => ?_) (fun c17 => ?_)
    · have hp := ip_t hp c17; have hv := it_t hv c17
      refine z_iload_n dX7_courage_31 rfl ?_
      refine z_iconst (v := (-1)) dX7_courage_32 rfl ?_
      obtain ⟨hpm, hp⟩ := hp
      have J34 : ∀ m23 : Int32, m23 = (if x2 = (-1) then (M.2.1 11) x1.toNatClampNeg else (if ((M.2.1 11) x2.toNatClampNeg) ≤ ((M.2.1 11) x1.toNatClampNeg) then (M.2.1 11) x1.toNatClampNeg else (M.2.1 11) x2.toNatClampNeg)) → Z k_X7_courage G Γ (rd Γ.2.2.1.1.heap) 0 0 [(4, .int m23), (0, .ref (a 0)), (1, .int x1), (2, .int x2), (3, .int x3)] 55 [] := by
        intro m23 em23
        have hp := kk_pq hp em23
        have hv := kk_vq hv em23
        clear em23
        refine z_aload_n dX7_courage_55 rfl ?_
        refine mg_9 hI rfl dX7_courage_56 ?_
        refine z_iload_n dX7_courage_59 rfl ?_
        obtain ⟨q24, hp⟩ := hp
        refine ml_9 (x := (M.2.1 9) x1.toNatClampNeg) hI q24 rfl dX7_courage_60 ?_
        refine z_iconst (v := 3) dX7_courage_61 rfl ?_
        have hpm := hp
        have J35 : ∀ m29 : Int32, m29 = (if ((M.2.1 9) x1.toNatClampNeg) = 3 then (if x3 = (-1) then m23 else m23 + (((M.2.1 11) x3.toNatClampNeg) / 2)) else m23) → Z k_X7_courage G Γ (rd Γ.2.2.1.1.heap) 0 0 [(4, .int m29), (0, .ref (a 0)), (1, .int x1), (2, .int x2), (3, .int x3)] 83 [] := by
          intro m29 em29
          have hv := kk_vq hv em29
          clear em29
          refine z_iload dX7_courage_83 rfl ?_
          exact z_iret_S hQ rfl hv dX7_courage_85
        refine z_icmp_ne (tgt := 83) dX7_courage_62 (by decide) (fun c25 => ?_) (fun c25 => ?_)
        · have hp := ip_f hpm c25
          exact z_lv rfl (J35 _ (if_neg c25).symm)
        · have hp := ip_t hpm c25
          refine z_iload_n dX7_courage_65 rfl ?_
          refine z_iconst (v := (-1)) dX7_courage_66 rfl ?_
          have hpm := hp
          have J36 : ∀ m28 : Int32, m28 = (if x3 = (-1) then m23 else m23 + (((M.2.1 11) x3.toNatClampNeg) / 2)) → Z k_X7_courage G Γ (rd Γ.2.2.1.1.heap) 0 0 [(4, .int m28), (0, .ref (a 0)), (1, .int x1), (2, .int x2), (3, .int x3)] 83 [] := by
            intro m28 em28
            rewrite [em28]; clear em28
            exact z_lv rfl (J35 _ (if_pos c25).symm)
          refine z_icmp_eq (tgt := 83) dX7_courage_67 (by decide) (fun c26 => ?_) (fun c26 => ?_)
          · have hp := ip_t hpm c26
            exact z_lv rfl (J36 _ (if_pos c26).symm)
          · have hp := ip_f hpm c26
            refine z_iload dX7_courage_70 rfl ?_
            refine z_aload_n dX7_courage_72 rfl ?_
            refine mg_11 hI rfl dX7_courage_73 ?_
            refine z_iload_n dX7_courage_76 rfl ?_
            have q27 := hp
            refine ml_11 (x := (M.2.1 11) x3.toNatClampNeg) hI q27 rfl dX7_courage_77 ?_
            refine z_iconst (v := 2) dX7_courage_78 rfl ?_
            refine z_idiv dX7_courage_79 (by decide) ?_
            refine z_iadd dX7_courage_80 ?_
            refine z_istore (lv' := [(4, .int (m23 + (((M.2.1 11) x3.toNatClampNeg) / 2))), (0, .ref (a 0)), (1, .int x1), (2, .int x2), (3, .int x3)]) dX7_courage_81 (Nat.le_of_ble_eq_true rfl) rfl ?_
            exact z_lv rfl (J36 _ (if_neg c26).symm)
      refine z_icmp_eq (tgt := 55) dX7_courage_33 (by decide) (fun c18 => ?_) (fun c18 => ?_)
      · have hp := ip_t hpm c18
        exact z_lv rfl (J34 _ (if_pos c18).symm)
      · have hp := ip_f hpm c18
        refine z_aload_n dX7_courage_36 rfl ?_
        refine mg_11 hI rfl dX7_courage_37 ?_
        refine z_iload_n dX7_courage_40 rfl ?_
        obtain ⟨q19, hp⟩ := hp
        refine ml_11 (x := (M.2.1 11) x2.toNatClampNeg) hI q19 rfl dX7_courage_41 ?_
        refine z_iload dX7_courage_42 rfl ?_
        have hpm := hp
        have J37 : ∀ m22 : Int32, m22 = (if ((M.2.1 11) x2.toNatClampNeg) ≤ ((M.2.1 11) x1.toNatClampNeg) then (M.2.1 11) x1.toNatClampNeg else (M.2.1 11) x2.toNatClampNeg) → Z k_X7_courage G Γ (rd Γ.2.2.1.1.heap) 0 0 [(4, .int m22), (0, .ref (a 0)), (1, .int x1), (2, .int x2), (3, .int x3)] 55 [] := by
          intro m22 em22
          rewrite [em22]; clear em22
          exact z_lv rfl (J34 _ (if_neg c18).symm)
        refine z_icmp_le (tgt := 55) dX7_courage_44 (by decide) (fun c20 => ?_) (fun c20 => ?_)
        · have hp := ip_t hpm c20
          exact z_lv rfl (J37 _ (if_pos c20).symm)
        · have hp := ip_f hpm c20
          refine z_aload_n dX7_courage_47 rfl ?_
          refine mg_11 hI rfl dX7_courage_48 ?_
          refine z_iload_n dX7_courage_51 rfl ?_
          have q21 := hp
          refine ml_11 (x := (M.2.1 11) x2.toNatClampNeg) hI q21 rfl dX7_courage_52 ?_
          refine z_istore (lv' := [(4, .int ((M.2.1 11) x2.toNatClampNeg)), (0, .ref (a 0)), (1, .int x1), (2, .int x2), (3, .int x3)]) dX7_courage_53 (Nat.le_of_ble_eq_true rfl) rfl ?_
          exact z_lv rfl (J37 _ (if_neg c20).symm)
    · have hp := ip_f hp c17; have hv := it_f hv c17
      refine z_iload dX7_courage_28 rfl ?_
      exact z_iret_S hQ rfl hv dX7_courage_30
theorem dX7_slowsAt_0 : decode cX7_slowsAt 0 = .ok (.aload_n 0, 1) := by decide +kernel
theorem dX7_slowsAt_1 : decode cX7_slowsAt 1 = .ok (.iload_n 1, 1) := by decide +kernel
theorem dX7_slowsAt_2 : decode cX7_slowsAt 2 = .ok (.iload_n 2, 1) := by decide +kernel
theorem dX7_slowsAt_3 : decode cX7_slowsAt 3 = .ok (.iload_n 3, 1) := by decide +kernel
theorem dX7_slowsAt_4 : decode cX7_slowsAt 4 = .ok (.invokevirtual 193, 3) := by decide +kernel
theorem dX7_slowsAt_7 : decode cX7_slowsAt 7 = .ok (.istore 6, 2) := by decide +kernel
theorem dX7_slowsAt_9 : decode cX7_slowsAt 9 = .ok (.aload_n 0, 1) := by decide +kernel
theorem dX7_slowsAt_10 : decode cX7_slowsAt 10 = .ok (.getfield 47, 3) := by decide +kernel
theorem dX7_slowsAt_13 : decode cX7_slowsAt 13 = .ok (.iload_n 1, 1) := by decide +kernel
theorem dX7_slowsAt_14 : decode cX7_slowsAt 14 = .ok (.iaload, 1) := by decide +kernel
theorem dX7_slowsAt_15 : decode cX7_slowsAt 15 = .ok (.iload 4, 2) := by decide +kernel
theorem dX7_slowsAt_17 : decode cX7_slowsAt 17 = .ok (.iadd, 1) := by decide +kernel
theorem dX7_slowsAt_18 : decode cX7_slowsAt 18 = .ok (.aload_n 0, 1) := by decide +kernel
theorem dX7_slowsAt_19 : decode cX7_slowsAt 19 = .ok (.iload_n 1, 1) := by decide +kernel
theorem dX7_slowsAt_20 : decode cX7_slowsAt 20 = .ok (.iload 5, 2) := by decide +kernel
theorem dX7_slowsAt_22 : decode cX7_slowsAt 22 = .ok (.invokevirtual 197, 3) := by decide +kernel
theorem dX7_slowsAt_25 : decode cX7_slowsAt 25 = .ok (.iadd, 1) := by decide +kernel
theorem dX7_slowsAt_26 : decode cX7_slowsAt 26 = .ok (.istore 7, 2) := by decide +kernel
theorem dX7_slowsAt_28 : decode cX7_slowsAt 28 = .ok (.iconst 1, 1) := by decide +kernel
theorem dX7_slowsAt_29 : decode cX7_slowsAt 29 = .ok (.istore 8, 2) := by decide +kernel
theorem dX7_slowsAt_31 : decode cX7_slowsAt 31 = .ok (.iload 8, 2) := by decide +kernel
theorem dX7_slowsAt_33 : decode cX7_slowsAt 33 = .ok (.aload_n 0, 1) := by decide +kernel
theorem dX7_slowsAt_34 : decode cX7_slowsAt 34 = .ok (.iload_n 1, 1) := by decide +kernel
theorem dX7_slowsAt_35 : decode cX7_slowsAt 35 = .ok (.invokevirtual 201, 3) := by decide +kernel
theorem dX7_slowsAt_38 : decode cX7_slowsAt 38 = .ok (.if_icmp .gt 29, 3) := by decide +kernel
theorem dX7_slowsAt_41 : decode cX7_slowsAt 41 = .ok (.iload 7, 2) := by decide +kernel
theorem dX7_slowsAt_43 : decode cX7_slowsAt 43 = .ok (.aload_n 0, 1) := by decide +kernel
theorem dX7_slowsAt_44 : decode cX7_slowsAt 44 = .ok (.iload_n 1, 1) := by decide +kernel
theorem dX7_slowsAt_45 : decode cX7_slowsAt 45 = .ok (.invokevirtual 113, 3) := by decide +kernel
theorem dX7_slowsAt_48 : decode cX7_slowsAt 48 = .ok (.iadd, 1) := by decide +kernel
theorem dX7_slowsAt_49 : decode cX7_slowsAt 49 = .ok (.istore 7, 2) := by decide +kernel
theorem dX7_slowsAt_51 : decode cX7_slowsAt 51 = .ok (.iload 7, 2) := by decide +kernel
theorem dX7_slowsAt_53 : decode cX7_slowsAt 53 = .ok (.iload 6, 2) := by decide +kernel
theorem dX7_slowsAt_55 : decode cX7_slowsAt 55 = .ok (.if_icmp .le 6, 3) := by decide +kernel
theorem dX7_slowsAt_58 : decode cX7_slowsAt 58 = .ok (.iload 8, 2) := by decide +kernel
theorem dX7_slowsAt_60 : decode cX7_slowsAt 60 = .ok (.ireturn, 1) := by decide +kernel
theorem dX7_slowsAt_61 : decode cX7_slowsAt 61 = .ok (.iinc 8 1, 3) := by decide +kernel
theorem dX7_slowsAt_64 : decode cX7_slowsAt 64 = .ok (.goto (-33), 3) := by decide +kernel
theorem dX7_slowsAt_67 : decode cX7_slowsAt 67 = .ok (.iconst (-1), 1) := by decide +kernel
theorem dX7_slowsAt_68 : decode cX7_slowsAt 68 = .ok (.ireturn, 1) := by decide +kernel
abbrev k_X7_slowsAt : zK := (cX7_slowsAt, 9, RX7, (some .int), ({ frames := 2, cells := 0, slots := 0, locals := 43 } : Room))
theorem zc_X7_slowsAt : zcal yX7_slowsAt k_X7_slowsAt.1 k_X7_slowsAt.2.1 k_X7_slowsAt.2.2.2.1 5 := ⟨tw_code_yX7_slowsAt, tw_i_TollForHesitatorsModel, ⟨by decide +kernel, by decide +kernel⟩, by decide +kernel⟩
theorem zv_X7_slowsAt : Cond.instanceMethod yX7_slowsAt ∈ TS ∧ Cond.selects RX7 yX7_slowsAt yX7_slowsAt ∈ TS := ⟨tw_inst_yX7_slowsAt, tw_s_yX7_slowsAt⟩
def v_X7_slowsAt_r (M : mT) : Nat → Int32 → Int32 → Int32 → Int32 → Int32
  | 0, _, _, _, _ => 0
  | n + 1, v1, v6, v7, v8 => if (v_X7_looksOf M v1) < v8 then (-1) else if (v7 + (v_X7_step M v1)) ≤ v6 then v_X7_slowsAt_r M n v1 v6 (v7 + (v_X7_step M v1)) (v8 + 1) else v8
def p_X7_slowsAt_r (M : mT) : Nat → Int32 → Int32 → Int32 → Int32 → Prop
  | 0, _, _, _, _ => False
  | n + 1, v1, v6, v7, v8 => p_X7_looksOf M v1 ∧ (if (v_X7_looksOf M v1) < v8 then True else p_X7_step M v1 ∧ (if (v7 + (v_X7_step M v1)) ≤ v6 then p_X7_slowsAt_r M n v1 v6 (v7 + (v_X7_step M v1)) (v8 + 1) else True))
set_option maxHeartbeats 4000000 in
theorem w_X7_slowsAt {G : zG} {Γ : zT} {a : Nat → Nat} {res : Int32} (M : mT) (hF : va_P G.2.1 CL (mW G a M) Γ.2.2.1.1.heap) (hQ : zQ Γ (vp_Si (fun r => r = res)) 0 0 (fun _ => False)) : ∀ n : Nat, (∀ (v1 : Int32) (v6 : Int32) (v7 : Int32) (v8 : Int32), p_X7_slowsAt_r M n v1 v6 v7 v8 → v_X7_slowsAt_r M n v1 v6 v7 v8 = res → Z k_X7_slowsAt G Γ (rd Γ.2.2.1.1.heap) 0 0 [(0, .ref (a 0)), (1, .int v1), (6, .int v6), (7, .int v7), (8, .int v8)] 31 []) := by
  have hI := rd_P (G := G) hF
  intro n
  induction n with
  | zero => exact fun v1 v6 v7 v8 hp => absurd hp (by rw [p_X7_slowsAt_r]; exact not_false)
  | succ n ih =>
    intro v1 v6 v7 v8 hp hv
    rw [p_X7_slowsAt_r] at hp
    rw [v_X7_slowsAt_r] at hv
    refine z_iload dX7_slowsAt_31 rfl ?_
    refine z_aload_n dX7_slowsAt_33 rfl ?_
    refine z_iload_n dX7_slowsAt_34 rfl ?_
    obtain ⟨q4, hp⟩ := hp
    refine z_cvi (c_X7_looksOf G a M v1 q4) zc_X7_looksOf zv_X7_looksOf tw_m_RX7_201 (mrec hI) hI (zroom_of rfl) rfl (Nat.le_of_ble_eq_true rfl) dX7_slowsAt_35 ?_
    refine z_icmp_gt (tgt := 67) dX7_slowsAt_38 (by decide) (fun c5 => ?_) (fun c5 => ?_)
    · have hp := ip_t hp c5; have hv := it_t hv c5
      refine z_iconst (v := (-1)) dX7_slowsAt_67 rfl ?_
      exact z_iret_S hQ rfl hv dX7_slowsAt_68
    · have hp := ip_f hp c5; have hv := it_f hv c5
      refine z_iload dX7_slowsAt_41 rfl ?_
      refine z_aload_n dX7_slowsAt_43 rfl ?_
      refine z_iload_n dX7_slowsAt_44 rfl ?_
      obtain ⟨q6, hp⟩ := hp
      refine z_cvi (c_X7_step G a M v1 q6) zc_X7_step zv_X7_step tw_m_RX7_113 (mrec hI) hI (zroom_of rfl) rfl (Nat.le_of_ble_eq_true rfl) dX7_slowsAt_45 ?_
      refine z_iadd dX7_slowsAt_48 ?_
      refine z_istore (lv' := [(7, .int (v7 + (v_X7_step M v1))), (0, .ref (a 0)), (1, .int v1), (6, .int v6), (8, .int v8)]) dX7_slowsAt_49 (Nat.le_of_ble_eq_true rfl) rfl ?_
      refine z_iload dX7_slowsAt_51 rfl ?_
      refine z_iload dX7_slowsAt_53 rfl ?_
      refine z_icmp_le (tgt := 61) dX7_slowsAt_55 (by decide) (fun c7 => ?_) (fun c7 => ?_)
      · have hp := ip_t hp c7; have hv := it_t hv c7
        refine z_iinc (v := v8 + 1) (lv' := [(8, .int (v8 + 1)), (7, .int (v7 + (v_X7_step M v1))), (0, .ref (a 0)), (1, .int v1), (6, .int v6)]) dX7_slowsAt_61 4 rfl rfl (Nat.le_of_ble_eq_true rfl) rfl ?_
        refine z_goto (tgt := 31) dX7_slowsAt_64 (by decide) ?_
        exact z_lv rfl ((ih) v1 v6 (v7 + (v_X7_step M v1)) (v8 + 1) hp hv)
      · have hp := ip_f hp c7; have hv := it_f hv c7
        refine z_iload dX7_slowsAt_58 rfl ?_
        exact z_iret_S hQ rfl hv dX7_slowsAt_60
def v_X7_slowsAt (M : mT) (x1 : Int32) (x2 : Int32) (x3 : Int32) (x4 : Int32) (x5 : Int32) : Int32 := v_X7_slowsAt_r M 40 x1 (v_X7_courage M x1 x2 x3) ((((M.2.1 15) x1.toNatClampNeg) + x4) + (v_X7_burden M x1 x5)) 1
def p_X7_slowsAt (M : mT) (x1 : Int32) (x2 : Int32) (x3 : Int32) (x4 : Int32) (x5 : Int32) : Prop := p_X7_courage M x1 x2 x3 ∧ (vp_in x1 7 ∧ (p_X7_burden M x1 x5 ∧ (p_X7_slowsAt_r M 40 x1 (v_X7_courage M x1 x2 x3) ((((M.2.1 15) x1.toNatClampNeg) + x4) + (v_X7_burden M x1 x5)) 1)))
set_option maxHeartbeats 4000000 in
theorem c_X7_slowsAt {l : Launch} (G : zG) (a : Nat → Nat) (M : mT) (x1 : Int32) (x2 : Int32) (x3 : Int32) (x4 : Int32) (x5 : Int32) (hp : p_X7_slowsAt M x1 x2 x3 x4 x5) : Met l yX7_slowsAt (.code yX7_slowsAt k_X7_slowsAt.1 k_X7_slowsAt.2.1 k_X7_slowsAt.2.2.2.1 :: TS) k_X7_slowsAt.2.2.2.2 (Pz G [.ref (a 0), .int x1, .int x2, .int x3, .int x4, .int x5] (va_P G.2.1 CL (mW G a M))) (vp_Si (fun r => r = v_X7_slowsAt M x1 x2 x3 x4 x5)) 0 0 (fun _ => False) := by
  refine zmet (by decide +kernel) rfl rfl (fun Γ hl0 hQ hN hF => ?_)
  have hI := rd_P (G := G) hF
  obtain ⟨res, hv⟩ : ∃ res, v_X7_slowsAt M x1 x2 x3 x4 x5 = res := ⟨_, rfl⟩
  rw [hv] at hQ
  unfold v_X7_slowsAt at hv
  unfold p_X7_slowsAt at hp
  show Z k_X7_slowsAt G Γ _ 0 0 [(0, .ref (a 0)), (1, .int x1), (2, .int x2), (3, .int x3), (4, .int x4), (5, .int x5)] 0 []
  refine z_aload_n dX7_slowsAt_0 rfl ?_
  refine z_iload_n dX7_slowsAt_1 rfl ?_
  refine z_iload_n dX7_slowsAt_2 rfl ?_
  refine z_iload_n dX7_slowsAt_3 rfl ?_
  obtain ⟨q1, hp⟩ := hp
  refine z_cvi (c_X7_courage G a M x1 x2 x3 q1) zc_X7_courage zv_X7_courage tw_m_RX7_193 (mrec hI) hI (zroom_of rfl) rfl (Nat.le_of_ble_eq_true rfl) dX7_slowsAt_4 ?_
  refine z_istore (lv' := [(6, .int (v_X7_courage M x1 x2 x3)), (0, .ref (a 0)), (1, .int x1), (2, .int x2), (3, .int x3), (4, .int x4), (5, .int x5)]) dX7_slowsAt_7 (Nat.le_of_ble_eq_true rfl) rfl ?_
  refine z_aload_n dX7_slowsAt_9 rfl ?_
  refine mg_15 hI rfl dX7_slowsAt_10 ?_
  refine z_iload_n dX7_slowsAt_13 rfl ?_
  obtain ⟨q2, hp⟩ := hp
  refine ml_15 (x := (M.2.1 15) x1.toNatClampNeg) hI q2 rfl dX7_slowsAt_14 ?_
  refine z_iload dX7_slowsAt_15 rfl ?_
  refine z_iadd dX7_slowsAt_17 ?_
  refine z_aload_n dX7_slowsAt_18 rfl ?_
  refine z_iload_n dX7_slowsAt_19 rfl ?_
  refine z_iload dX7_slowsAt_20 rfl ?_
  obtain ⟨q3, hp⟩ := hp
  refine z_cvi (c_X7_burden G a M x1 x5 q3) zc_X7_burden zv_X7_burden tw_m_RX7_197 (mrec hI) hI (zroom_of rfl) rfl (Nat.le_of_ble_eq_true rfl) dX7_slowsAt_22 ?_
  refine z_iadd dX7_slowsAt_25 ?_
  refine z_istore (lv' := [(7, .int ((((M.2.1 15) x1.toNatClampNeg) + x4) + (v_X7_burden M x1 x5))), (6, .int (v_X7_courage M x1 x2 x3)), (0, .ref (a 0)), (1, .int x1), (2, .int x2), (3, .int x3), (4, .int x4), (5, .int x5)]) dX7_slowsAt_26 (Nat.le_of_ble_eq_true rfl) rfl ?_
  refine z_iconst (v := 1) dX7_slowsAt_28 rfl ?_
  refine z_istore (lv' := [(8, .int 1), (7, .int ((((M.2.1 15) x1.toNatClampNeg) + x4) + (v_X7_burden M x1 x5))), (6, .int (v_X7_courage M x1 x2 x3)), (0, .ref (a 0)), (1, .int x1), (2, .int x2), (3, .int x3), (4, .int x4), (5, .int x5)]) dX7_slowsAt_29 (Nat.le_of_ble_eq_true rfl) rfl ?_
  exact z_lv rfl ((w_X7_slowsAt M hF hQ 40) x1 (v_X7_courage M x1 x2 x3) ((((M.2.1 15) x1.toNatClampNeg) + x4) + (v_X7_burden M x1 x5)) 1 hp hv)
theorem dX7_aloneIn_0 : decode cX7_aloneIn 0 = .ok (.aload_n 0, 1) := by decide +kernel
theorem dX7_aloneIn_1 : decode cX7_aloneIn 1 = .ok (.iload_n 1, 1) := by decide +kernel
theorem dX7_aloneIn_2 : decode cX7_aloneIn 2 = .ok (.iconst (-1), 1) := by decide +kernel
theorem dX7_aloneIn_3 : decode cX7_aloneIn 3 = .ok (.iconst (-1), 1) := by decide +kernel
theorem dX7_aloneIn_4 : decode cX7_aloneIn 4 = .ok (.iconst 0, 1) := by decide +kernel
theorem dX7_aloneIn_5 : decode cX7_aloneIn 5 = .ok (.iload_n 2, 1) := by decide +kernel
theorem dX7_aloneIn_6 : decode cX7_aloneIn 6 = .ok (.invokevirtual 204, 3) := by decide +kernel
theorem dX7_aloneIn_9 : decode cX7_aloneIn 9 = .ok (.ireturn, 1) := by decide +kernel
abbrev k_X7_aloneIn : zK := (cX7_aloneIn, 3, RX7, (some .int), ({ frames := 3, cells := 0, slots := 0, locals := 71 } : Room))
theorem zc_X7_aloneIn : zcal yX7_aloneIn k_X7_aloneIn.1 k_X7_aloneIn.2.1 k_X7_aloneIn.2.2.2.1 2 := ⟨tw_code_yX7_aloneIn, tw_i_TollForHesitatorsModel, ⟨by decide +kernel, by decide +kernel⟩, by decide +kernel⟩
theorem zv_X7_aloneIn : Cond.instanceMethod yX7_aloneIn ∈ TS ∧ Cond.selects RX7 yX7_aloneIn yX7_aloneIn ∈ TS := ⟨tw_inst_yX7_aloneIn, tw_s_yX7_aloneIn⟩
def v_X7_aloneIn (M : mT) (x1 : Int32) (x2 : Int32) : Int32 := (v_X7_slowsAt M x1 (-1) (-1) 0 x2)
def p_X7_aloneIn (M : mT) (x1 : Int32) (x2 : Int32) : Prop := p_X7_slowsAt M x1 (-1) (-1) 0 x2
set_option maxHeartbeats 4000000 in
theorem c_X7_aloneIn {l : Launch} (G : zG) (a : Nat → Nat) (M : mT) (x1 : Int32) (x2 : Int32) (hp : p_X7_aloneIn M x1 x2) : Met l yX7_aloneIn (.code yX7_aloneIn k_X7_aloneIn.1 k_X7_aloneIn.2.1 k_X7_aloneIn.2.2.2.1 :: TS) k_X7_aloneIn.2.2.2.2 (Pz G [.ref (a 0), .int x1, .int x2] (va_P G.2.1 CL (mW G a M))) (vp_Si (fun r => r = v_X7_aloneIn M x1 x2)) 0 0 (fun _ => False) := by
  refine zmet (by decide +kernel) rfl rfl (fun Γ hl0 hQ hN hF => ?_)
  have hI := rd_P (G := G) hF
  obtain ⟨res, hv⟩ : ∃ res, v_X7_aloneIn M x1 x2 = res := ⟨_, rfl⟩
  rw [hv] at hQ
  unfold v_X7_aloneIn at hv
  unfold p_X7_aloneIn at hp
  show Z k_X7_aloneIn G Γ _ 0 0 [(0, .ref (a 0)), (1, .int x1), (2, .int x2)] 0 []
  refine z_aload_n dX7_aloneIn_0 rfl ?_
  refine z_iload_n dX7_aloneIn_1 rfl ?_
  refine z_iconst (v := (-1)) dX7_aloneIn_2 rfl ?_
  refine z_iconst (v := (-1)) dX7_aloneIn_3 rfl ?_
  refine z_iconst (v := 0) dX7_aloneIn_4 rfl ?_
  refine z_iload_n dX7_aloneIn_5 rfl ?_
  have q1 := hp
  refine z_cvi (c_X7_slowsAt G a M x1 (-1) (-1) 0 x2 q1) zc_X7_slowsAt zv_X7_slowsAt tw_m_RX7_204 (mrec hI) hI (zroom_of rfl) rfl (Nat.le_of_ble_eq_true rfl) dX7_aloneIn_6 ?_
  exact z_iret_S hQ rfl hv dX7_aloneIn_9
theorem dX7_fogsOf_0 : decode cX7_fogsOf 0 = .ok (.iconst 0, 1) := by decide +kernel
theorem dX7_fogsOf_1 : decode cX7_fogsOf 1 = .ok (.istore_n 2, 1) := by decide +kernel
theorem dX7_fogsOf_2 : decode cX7_fogsOf 2 = .ok (.iconst 0, 1) := by decide +kernel
theorem dX7_fogsOf_3 : decode cX7_fogsOf 3 = .ok (.istore_n 3, 1) := by decide +kernel
theorem dX7_fogsOf_4 : decode cX7_fogsOf 4 = .ok (.iload_n 3, 1) := by decide +kernel
theorem dX7_fogsOf_5 : decode cX7_fogsOf 5 = .ok (.bipush 9, 2) := by decide +kernel
theorem dX7_fogsOf_7 : decode cX7_fogsOf 7 = .ok (.if_icmp .gt 22, 3) := by decide +kernel
theorem dX7_fogsOf_10 : decode cX7_fogsOf 10 = .ok (.aload_n 0, 1) := by decide +kernel
theorem dX7_fogsOf_11 : decode cX7_fogsOf 11 = .ok (.iload_n 1, 1) := by decide +kernel
theorem dX7_fogsOf_12 : decode cX7_fogsOf 12 = .ok (.iload_n 3, 1) := by decide +kernel
theorem dX7_fogsOf_13 : decode cX7_fogsOf 13 = .ok (.invokevirtual 208, 3) := by decide +kernel
theorem dX7_fogsOf_16 : decode cX7_fogsOf 16 = .ok (.iconst (-1), 1) := by decide +kernel
theorem dX7_fogsOf_17 : decode cX7_fogsOf 17 = .ok (.if_icmp .eq 6, 3) := by decide +kernel
theorem dX7_fogsOf_20 : decode cX7_fogsOf 20 = .ok (.iinc 2 1, 3) := by decide +kernel
theorem dX7_fogsOf_23 : decode cX7_fogsOf 23 = .ok (.iinc 3 1, 3) := by decide +kernel
theorem dX7_fogsOf_26 : decode cX7_fogsOf 26 = .ok (.goto (-22), 3) := by decide +kernel
theorem dX7_fogsOf_29 : decode cX7_fogsOf 29 = .ok (.iload_n 2, 1) := by decide +kernel
theorem dX7_fogsOf_30 : decode cX7_fogsOf 30 = .ok (.ireturn, 1) := by decide +kernel
abbrev k_X7_fogsOf : zK := (cX7_fogsOf, 4, RX7, (some .int), ({ frames := 4, cells := 0, slots := 0, locals := 93 } : Room))
theorem zc_X7_fogsOf : zcal yX7_fogsOf k_X7_fogsOf.1 k_X7_fogsOf.2.1 k_X7_fogsOf.2.2.2.1 1 := ⟨tw_code_yX7_fogsOf, tw_i_TollForHesitatorsModel, ⟨by decide +kernel, by decide +kernel⟩, by decide +kernel⟩
theorem zv_X7_fogsOf : Cond.instanceMethod yX7_fogsOf ∈ TS ∧ Cond.selects RX7 yX7_fogsOf yX7_fogsOf ∈ TS := ⟨tw_inst_yX7_fogsOf, tw_s_yX7_fogsOf⟩
def v_X7_fogsOf_r (M : mT) : Nat → Int32 → Int32 → Int32 → Int32
  | 0, _, _, _ => 0
  | n + 1, v1, v2, v3 => if 9 < v3 then v2 else v_X7_fogsOf_r M n v1 (if (v_X7_aloneIn M v1 v3) = (-1) then v2 else v2 + 1) (v3 + 1)
def p_X7_fogsOf_r (M : mT) : Nat → Int32 → Int32 → Int32 → Prop
  | 0, _, _, _ => False
  | n + 1, v1, v2, v3 => if 9 < v3 then True else p_X7_aloneIn M v1 v3 ∧ (p_X7_fogsOf_r M n v1 (if (v_X7_aloneIn M v1 v3) = (-1) then v2 else v2 + 1) (v3 + 1))
set_option maxHeartbeats 4000000 in
theorem w_X7_fogsOf {G : zG} {Γ : zT} {a : Nat → Nat} {res : Int32} (M : mT) (hF : va_P G.2.1 CL (mW G a M) Γ.2.2.1.1.heap) (hQ : zQ Γ (vp_Si (fun r => r = res)) 0 0 (fun _ => False)) : ∀ n : Nat, (∀ (v1 : Int32) (v2 : Int32) (v3 : Int32), p_X7_fogsOf_r M n v1 v2 v3 → v_X7_fogsOf_r M n v1 v2 v3 = res → Z k_X7_fogsOf G Γ (rd Γ.2.2.1.1.heap) 0 0 [(0, .ref (a 0)), (1, .int v1), (2, .int v2), (3, .int v3)] 4 []) := by
  have hI := rd_P (G := G) hF
  intro n
  induction n with
  | zero => exact fun v1 v2 v3 hp => absurd hp (by rw [p_X7_fogsOf_r]; exact not_false)
  | succ n ih =>
    intro v1 v2 v3 hp hv
    rw [p_X7_fogsOf_r] at hp
    rw [v_X7_fogsOf_r] at hv
    refine z_iload_n dX7_fogsOf_4 rfl ?_
    refine z_bipush (v := 9) dX7_fogsOf_5 rfl ?_
    refine z_icmp_gt (tgt := 29) dX7_fogsOf_7 (by decide) (fun c1 => ?_) (fun c1 => ?_)
    · have hp := ip_t hp c1; have hv := it_t hv c1
      refine z_iload_n dX7_fogsOf_29 rfl ?_
      exact z_iret_S hQ rfl hv dX7_fogsOf_30
    · have hp := ip_f hp c1; have hv := it_f hv c1
      refine z_aload_n dX7_fogsOf_10 rfl ?_
      refine z_iload_n dX7_fogsOf_11 rfl ?_
      refine z_iload_n dX7_fogsOf_12 rfl ?_
      obtain ⟨q5, hp⟩ := hp
      refine z_cvi (c_X7_aloneIn G a M v1 v3 q5) zc_X7_aloneIn zv_X7_aloneIn tw_m_RX7_208 (mrec hI) hI (zroom_of rfl) rfl (Nat.le_of_ble_eq_true rfl) dX7_fogsOf_13 ?_
      refine z_iconst (v := (-1)) dX7_fogsOf_16 rfl ?_
      have J8 : ∀ m7 : Int32, m7 = (if (v_X7_aloneIn M v1 v3) = (-1) then v2 else v2 + 1) → Z k_X7_fogsOf G Γ (rd Γ.2.2.1.1.heap) 0 0 [(0, .ref (a 0)), (1, .int v1), (2, .int m7), (3, .int v3)] 23 [] := by
        intro m7 em7
        rewrite [em7]; clear em7
        refine z_iinc (v := v3 + 1) (lv' := [(3, .int (v3 + 1)), (0, .ref (a 0)), (1, .int v1), (2, .int (if (v_X7_aloneIn M v1 v3) = (-1) then v2 else v2 + 1))]) dX7_fogsOf_23 3 rfl rfl (Nat.le_of_ble_eq_true rfl) rfl ?_
        refine z_goto (tgt := 4) dX7_fogsOf_26 (by decide) ?_
        exact z_lv rfl ((ih) v1 (if (v_X7_aloneIn M v1 v3) = (-1) then v2 else v2 + 1) (v3 + 1) hp hv)
      refine z_icmp_eq (tgt := 23) dX7_fogsOf_17 (by decide) (fun c6 => ?_) (fun c6 => ?_)
      · skip
        exact z_lv rfl (J8 _ (if_pos c6).symm)
      · skip
        refine z_iinc (v := v2 + 1) (lv' := [(2, .int (v2 + 1)), (0, .ref (a 0)), (1, .int v1), (3, .int v3)]) dX7_fogsOf_20 2 rfl rfl (Nat.le_of_ble_eq_true rfl) rfl ?_
        exact z_lv rfl (J8 _ (if_neg c6).symm)
def v_X7_fogsOf (M : mT) (x1 : Int32) : Int32 := v_X7_fogsOf_r M 200 x1 0 0
def p_X7_fogsOf (M : mT) (x1 : Int32) : Prop := p_X7_fogsOf_r M 200 x1 0 0
set_option maxHeartbeats 4000000 in
theorem c_X7_fogsOf {l : Launch} (G : zG) (a : Nat → Nat) (M : mT) (x1 : Int32) (hp : p_X7_fogsOf M x1) : Met l yX7_fogsOf (.code yX7_fogsOf k_X7_fogsOf.1 k_X7_fogsOf.2.1 k_X7_fogsOf.2.2.2.1 :: TS) k_X7_fogsOf.2.2.2.2 (Pz G [.ref (a 0), .int x1] (va_P G.2.1 CL (mW G a M))) (vp_Si (fun r => r = v_X7_fogsOf M x1)) 0 0 (fun _ => False) := by
  refine zmet (by decide +kernel) rfl rfl (fun Γ hl0 hQ hN hF => ?_)
  have hI := rd_P (G := G) hF
  obtain ⟨res, hv⟩ : ∃ res, v_X7_fogsOf M x1 = res := ⟨_, rfl⟩
  rw [hv] at hQ
  unfold v_X7_fogsOf at hv
  unfold p_X7_fogsOf at hp
  show Z k_X7_fogsOf G Γ _ 0 0 [(0, .ref (a 0)), (1, .int x1)] 0 []
  refine z_iconst (v := 0) dX7_fogsOf_0 rfl ?_
  refine z_istore_n (lv' := [(2, .int 0), (0, .ref (a 0)), (1, .int x1)]) dX7_fogsOf_1 (Nat.le_of_ble_eq_true rfl) rfl ?_
  refine z_iconst (v := 0) dX7_fogsOf_2 rfl ?_
  refine z_istore_n (lv' := [(3, .int 0), (2, .int 0), (0, .ref (a 0)), (1, .int x1)]) dX7_fogsOf_3 (Nat.le_of_ble_eq_true rfl) rfl ?_
  exact z_lv rfl ((w_X7_fogsOf M hF hQ 200) x1 0 0 hp hv)
theorem dX7_looks_0 : decode cX7_looks 0 = .ok (.aload_n 0, 1) := by decide +kernel
theorem dX7_looks_1 : decode cX7_looks 1 = .ok (.iload_n 1, 1) := by decide +kernel
theorem dX7_looks_2 : decode cX7_looks 2 = .ok (.invokevirtual 110, 3) := by decide +kernel
theorem dX7_looks_5 : decode cX7_looks 5 = .ok (.ifCond .ne 9, 3) := by decide +kernel
theorem dX7_looks_8 : decode cX7_looks 8 = .ok (.aload_n 0, 1) := by decide +kernel
theorem dX7_looks_9 : decode cX7_looks 9 = .ok (.iconst (-1), 1) := by decide +kernel
theorem dX7_looks_10 : decode cX7_looks 10 = .ok (.invokevirtual 106, 3) := by decide +kernel
theorem dX7_looks_13 : decode cX7_looks 13 = .ok (.ireturn, 1) := by decide +kernel
theorem dX7_looks_14 : decode cX7_looks 14 = .ok (.iload_n 2, 1) := by decide +kernel
theorem dX7_looks_15 : decode cX7_looks 15 = .ok (.tableswitch 58 0 3 #[29, 35, 41, 51], 29) := by decide +kernel
theorem dX7_looks_44 : decode cX7_looks 44 = .ok (.aload_n 0, 1) := by decide +kernel
theorem dX7_looks_45 : decode cX7_looks 45 = .ok (.iload_n 1, 1) := by decide +kernel
theorem dX7_looks_46 : decode cX7_looks 46 = .ok (.invokevirtual 201, 3) := by decide +kernel
theorem dX7_looks_49 : decode cX7_looks 49 = .ok (.ireturn, 1) := by decide +kernel
theorem dX7_looks_50 : decode cX7_looks 50 = .ok (.aload_n 0, 1) := by decide +kernel
theorem dX7_looks_51 : decode cX7_looks 51 = .ok (.iload_n 1, 1) := by decide +kernel
theorem dX7_looks_52 : decode cX7_looks 52 = .ok (.invokevirtual 113, 3) := by decide +kernel
theorem dX7_looks_55 : decode cX7_looks 55 = .ok (.ireturn, 1) := by decide +kernel
theorem dX7_looks_56 : decode cX7_looks 56 = .ok (.aload_n 0, 1) := by decide +kernel
theorem dX7_looks_57 : decode cX7_looks 57 = .ok (.iload_n 1, 1) := by decide +kernel
theorem dX7_looks_58 : decode cX7_looks 58 = .ok (.aload_n 0, 1) := by decide +kernel
theorem dX7_looks_59 : decode cX7_looks 59 = .ok (.getfield 124, 3) := by decide +kernel
theorem dX7_looks_62 : decode cX7_looks 62 = .ok (.invokevirtual 197, 3) := by decide +kernel
theorem dX7_looks_65 : decode cX7_looks 65 = .ok (.ireturn, 1) := by decide +kernel
theorem dX7_looks_66 : decode cX7_looks 66 = .ok (.aload_n 0, 1) := by decide +kernel
theorem dX7_looks_67 : decode cX7_looks 67 = .ok (.getfield 35, 3) := by decide +kernel
theorem dX7_looks_70 : decode cX7_looks 70 = .ok (.iload_n 1, 1) := by decide +kernel
theorem dX7_looks_71 : decode cX7_looks 71 = .ok (.iaload, 1) := by decide +kernel
theorem dX7_looks_72 : decode cX7_looks 72 = .ok (.ireturn, 1) := by decide +kernel
theorem dX7_looks_73 : decode cX7_looks 73 = .ok (.aload_n 0, 1) := by decide +kernel
theorem dX7_looks_74 : decode cX7_looks 74 = .ok (.bipush (-5), 2) := by decide +kernel
theorem dX7_looks_76 : decode cX7_looks 76 = .ok (.invokevirtual 106, 3) := by decide +kernel
theorem dX7_looks_79 : decode cX7_looks 79 = .ok (.ireturn, 1) := by decide +kernel
abbrev k_X7_looks : zK := (cX7_looks, 3, RX7, (some .int), ({ frames := 2, cells := 0, slots := 0, locals := 43 } : Room))
theorem zc_X7_looks : zcal yX7_looks k_X7_looks.1 k_X7_looks.2.1 k_X7_looks.2.2.2.1 2 := ⟨tw_code_yX7_looks, tw_i_TollForHesitatorsModel, ⟨by decide +kernel, by decide +kernel⟩, by decide +kernel⟩
theorem zv_X7_looks : Cond.instanceMethod yX7_looks ∈ TS ∧ Cond.selects RX7 yX7_looks yX7_looks ∈ TS := ⟨tw_inst_yX7_looks, tw_s_yX7_looks⟩
def v_X7_looks (M : mT) (x1 : Int32) (x2 : Int32) : Int32 × mT := if (v_X7_isComer M x1) = 0 then kk (v_X7_no M (-1)) (fun q13 : Int32 × mT => (q13.1, q13.2)) else if x2 = 0 then ((v_X7_looksOf M x1), M) else if x2 = 1 then ((v_X7_step M x1), M) else if x2 = 2 then ((v_X7_burden M x1 (M.1 2)), M) else if x2 = 3 then ((M.2.1 11) x1.toNatClampNeg, M) else kk (v_X7_no M (-5)) (fun q11 : Int32 × mT => (q11.1, q11.2))
def p_X7_looks (M : mT) (x1 : Int32) (x2 : Int32) : Prop := if (v_X7_isComer M x1) = 0 then p_X7_no M (-1) else if x2 = 0 then p_X7_looksOf M x1 else if x2 = 1 then p_X7_step M x1 else if x2 = 2 then p_X7_burden M x1 (M.1 2) else if x2 = 3 then vp_in x1 7 else p_X7_no M (-5)
set_option maxHeartbeats 4000000 in
theorem c_X7_looks {l : Launch} (G : zG) (a : Nat → Nat) {X : zX} (hX : XOK X) (sz : Nat) (M : mT) (x1 : Int32) (x2 : Int32) (hp : p_X7_looks M x1 x2) : Met l yX7_looks (.code yX7_looks k_X7_looks.1 k_X7_looks.2.1 k_X7_looks.2.2.2.1 :: TS) k_X7_looks.2.2.2.2 (Pz G [.ref (a 0), .int x1, .int x2] (Fw G X (mW G a M) sz)) (Qwi G (fun r w => r = (v_X7_looks M x1 x2).1 ∧ w = mW G a (v_X7_looks M x1 x2).2) (va_A (mW G a M) sz)) 0 0 (va_A (mW G a M) sz) := by
  refine zmet (by decide +kernel) rfl rfl (fun Γ hl0 hQ hN hF => ?_)
  refine z_start hX hF (fun hw => ?_)
  generalize va_A (mW G a M) sz = A at hQ hw ⊢
  obtain ⟨res, hv⟩ : ∃ res, v_X7_looks M x1 x2 = res := ⟨_, rfl⟩
  rw [hv] at hQ
  unfold v_X7_looks at hv
  unfold p_X7_looks at hp
  show Z k_X7_looks G Γ _ 0 0 [(0, .ref (a 0)), (1, .int x1), (2, .int x2)] 0 []
  refine z_aload_n dX7_looks_0 rfl ?_
  refine z_iload_n dX7_looks_1 rfl ?_
  refine z_cvi (c_X7_isComer G a M x1 ) zc_X7_isComer zv_X7_isComer tw_m_RX7_110 (mrec wr_P) wr_P (zroom_of rfl) rfl (Nat.le_of_ble_eq_true rfl) dX7_looks_2 ?_
  refine z_if_ne (tgt := 14) dX7_looks_5 (by decide) (fun c1 => ?_) (fun c1 => ?_)
  · have hp := ip_f hp c1; have hv := it_f hv c1
    refine z_iload_n dX7_looks_14 rfl ?_
    by_cases c3 : x2 = 0
    · have hp := ip_t hp c3; have hv := it_t hv c3
      refine z_tableIn (tgt := 44) dX7_looks_15 0 c3 (by decide) (by decide) rfl (by decide) ?_
      refine z_aload_n dX7_looks_44 rfl ?_
      refine z_iload_n dX7_looks_45 rfl ?_
      have q2 := hp
      refine z_cvi (c_X7_looksOf G a M x1 q2) zc_X7_looksOf zv_X7_looksOf tw_m_RX7_201 (mrec wr_P) wr_P (zroom_of rfl) rfl (Nat.le_of_ble_eq_true rfl) dX7_looks_46 ?_
      subst hv; exact z_iret_W hQ rfl rfl rfl ⟨rfl, rfl⟩ dX7_looks_49
    have hp := ip_f hp c3
    have hv := it_f hv c3
    by_cases c5 : x2 = 1
    · have hp := ip_t hp c5; have hv := it_t hv c5
      refine z_tableIn (tgt := 50) dX7_looks_15 1 c5 (by decide) (by decide) rfl (by decide) ?_
      refine z_aload_n dX7_looks_50 rfl ?_
      refine z_iload_n dX7_looks_51 rfl ?_
      have q4 := hp
      refine z_cvi (c_X7_step G a M x1 q4) zc_X7_step zv_X7_step tw_m_RX7_113 (mrec wr_P) wr_P (zroom_of rfl) rfl (Nat.le_of_ble_eq_true rfl) dX7_looks_52 ?_
      subst hv; exact z_iret_W hQ rfl rfl rfl ⟨rfl, rfl⟩ dX7_looks_55
    have hp := ip_f hp c5
    have hv := it_f hv c5
    by_cases c7 : x2 = 2
    · have hp := ip_t hp c7; have hv := it_t hv c7
      refine z_tableIn (tgt := 56) dX7_looks_15 2 c7 (by decide) (by decide) rfl (by decide) ?_
      refine z_aload_n dX7_looks_56 rfl ?_
      refine z_iload_n dX7_looks_57 rfl ?_
      refine z_aload_n dX7_looks_58 rfl ?_
      refine mg_2 (v := M.1 2) wr_P rfl rfl dX7_looks_59 ?_
      have q6 := hp
      refine z_cvi (c_X7_burden G a M x1 (M.1 2) q6) zc_X7_burden zv_X7_burden tw_m_RX7_197 (mrec wr_P) wr_P (zroom_of rfl) rfl (Nat.le_of_ble_eq_true rfl) dX7_looks_62 ?_
      subst hv; exact z_iret_W hQ rfl rfl rfl ⟨rfl, rfl⟩ dX7_looks_65
    have hp := ip_f hp c7
    have hv := it_f hv c7
    by_cases c9 : x2 = 3
    · have hp := ip_t hp c9; have hv := it_t hv c9
      refine z_tableIn (tgt := 66) dX7_looks_15 3 c9 (by decide) (by decide) rfl (by decide) ?_
      refine z_aload_n dX7_looks_66 rfl ?_
      refine mg_11 wr_P rfl dX7_looks_67 ?_
      refine z_iload_n dX7_looks_70 rfl ?_
      have q8 := hp
      refine ml_11 (x := (M.2.1 11) x1.toNatClampNeg) wr_P q8 rfl dX7_looks_71 ?_
      subst hv; exact z_iret_W hQ rfl rfl rfl ⟨rfl, rfl⟩ dX7_looks_72
    have hp := ip_f hp c9
    have hv := it_f hv c9
    refine z_tableOut (tgt := 73) dX7_looks_15 (zout4_0 c3 c5 c7 c9) (by decide) ?_
    refine z_aload_n dX7_looks_73 rfl ?_
    refine z_bipush (v := (-5)) dX7_looks_74 rfl ?_
    have q10 := hp
    refine z_caviD hw (fun sz => c_X7_no G a hw.1 sz M (-5) q10) zc_X7_no zv_X7_no tw_m_RX7_106 (mrec wr_P) (zroom_of rfl) rfl (Nat.le_of_ble_eq_true rfl) dX7_looks_76 ?_
    suffices z14 : ∀ q11 : Int32 × mT, q11 = (v_X7_no M (-5)) → Z k_X7_looks G Γ (wr G A Γ.2.2.1.1.heap (mW G a q11.2)) 0 0 [(0, .ref (a 0)), (1, .int x1), (2, .int x2)] 79 [.int q11.1] from z14 _ rfl
    intro q11 hq11
    have hv := kk_vq hv hq11
    clear hq11
    subst hv; exact z_iret_W hQ rfl rfl rfl ⟨rfl, rfl⟩ dX7_looks_79
  · have hp := ip_t hp c1; have hv := it_t hv c1
    refine z_aload_n dX7_looks_8 rfl ?_
    refine z_iconst (v := (-1)) dX7_looks_9 rfl ?_
    have q12 := hp
    refine z_caviD hw (fun sz => c_X7_no G a hw.1 sz M (-1) q12) zc_X7_no zv_X7_no tw_m_RX7_106 (mrec wr_P) (zroom_of rfl) rfl (Nat.le_of_ble_eq_true rfl) dX7_looks_10 ?_
    suffices z15 : ∀ q13 : Int32 × mT, q13 = (v_X7_no M (-1)) → Z k_X7_looks G Γ (wr G A Γ.2.2.1.1.heap (mW G a q13.2)) 0 0 [(0, .ref (a 0)), (1, .int x1), (2, .int x2)] 13 [.int q13.1] from z15 _ rfl
    intro q13 hq13
    have hv := kk_vq hv hq13
    clear hq13
    subst hv; exact z_iret_W hQ rfl rfl rfl ⟨rfl, rfl⟩ dX7_looks_13
theorem dX7_slow_0 : decode cX7_slow 0 = .ok (.aload_n 0, 1) := by decide +kernel
theorem dX7_slow_1 : decode cX7_slow 1 = .ok (.iload_n 1, 1) := by decide +kernel
theorem dX7_slow_2 : decode cX7_slow 2 = .ok (.invokevirtual 110, 3) := by decide +kernel
theorem dX7_slow_5 : decode cX7_slow 5 = .ok (.ifCond .ne 9, 3) := by decide +kernel
theorem dX7_slow_8 : decode cX7_slow 8 = .ok (.aload_n 0, 1) := by decide +kernel
theorem dX7_slow_9 : decode cX7_slow 9 = .ok (.iconst (-1), 1) := by decide +kernel
theorem dX7_slow_10 : decode cX7_slow 10 = .ok (.invokevirtual 211, 3) := by decide +kernel
theorem dX7_slow_13 : decode cX7_slow 13 = .ok (.ireturn, 1) := by decide +kernel
theorem dX7_slow_14 : decode cX7_slow 14 = .ok (.aload_n 0, 1) := by decide +kernel
theorem dX7_slow_15 : decode cX7_slow 15 = .ok (.iload_n 2, 1) := by decide +kernel
theorem dX7_slow_16 : decode cX7_slow 16 = .ok (.iconst 0, 1) := by decide +kernel
theorem dX7_slow_17 : decode cX7_slow 17 = .ok (.bipush 9, 2) := by decide +kernel
theorem dX7_slow_19 : decode cX7_slow 19 = .ok (.invokevirtual 116, 3) := by decide +kernel
theorem dX7_slow_22 : decode cX7_slow 22 = .ok (.ifCond .eq 12, 3) := by decide +kernel
theorem dX7_slow_25 : decode cX7_slow 25 = .ok (.aload_n 0, 1) := by decide +kernel
theorem dX7_slow_26 : decode cX7_slow 26 = .ok (.iload_n 1, 1) := by decide +kernel
theorem dX7_slow_27 : decode cX7_slow 27 = .ok (.iload_n 2, 1) := by decide +kernel
theorem dX7_slow_28 : decode cX7_slow 28 = .ok (.invokevirtual 208, 3) := by decide +kernel
theorem dX7_slow_31 : decode cX7_slow 31 = .ok (.goto 9, 3) := by decide +kernel
theorem dX7_slow_34 : decode cX7_slow 34 = .ok (.aload_n 0, 1) := by decide +kernel
theorem dX7_slow_35 : decode cX7_slow 35 = .ok (.bipush (-6), 2) := by decide +kernel
theorem dX7_slow_37 : decode cX7_slow 37 = .ok (.invokevirtual 211, 3) := by decide +kernel
theorem dX7_slow_40 : decode cX7_slow 40 = .ok (.ireturn, 1) := by decide +kernel
abbrev k_X7_slow : zK := (cX7_slow, 3, RX7, (some .int), ({ frames := 4, cells := 0, slots := 0, locals := 93 } : Room))
theorem zc_X7_slow : zcal yX7_slow k_X7_slow.1 k_X7_slow.2.1 k_X7_slow.2.2.2.1 2 := ⟨tw_code_yX7_slow, tw_i_TollForHesitatorsModel, ⟨by decide +kernel, by decide +kernel⟩, by decide +kernel⟩
theorem zv_X7_slow : Cond.instanceMethod yX7_slow ∈ TS ∧ Cond.selects RX7 yX7_slow yX7_slow ∈ TS := ⟨tw_inst_yX7_slow, tw_s_yX7_slow⟩
def v_X7_slow (M : mT) (x1 : Int32) (x2 : Int32) : Int32 × mT := if (v_X7_isComer M x1) = 0 then kk (v_X7_noTen M (-1)) (fun q9 : Int32 × mT => (q9.1, q9.2)) else kk (if (v_X7_isFrom M x2 0 9) = 0 then (v_X7_noTen M (-6)).2 else M) (fun M6 : mT => ((if (v_X7_isFrom M x2 0 9) = 0 then (v_X7_noTen M (-6)).1 else (v_X7_aloneIn M x1 x2)), M6))
def p_X7_slow (M : mT) (x1 : Int32) (x2 : Int32) : Prop := if (v_X7_isComer M x1) = 0 then p_X7_noTen M (-1) else if (v_X7_isFrom M x2 0 9) = 0 then p_X7_noTen M (-6) else p_X7_aloneIn M x1 x2
set_option maxHeartbeats 4000000 in
theorem c_X7_slow {l : Launch} (G : zG) (a : Nat → Nat) {X : zX} (hX : XOK X) (sz : Nat) (M : mT) (x1 : Int32) (x2 : Int32) (hp : p_X7_slow M x1 x2) : Met l yX7_slow (.code yX7_slow k_X7_slow.1 k_X7_slow.2.1 k_X7_slow.2.2.2.1 :: TS) k_X7_slow.2.2.2.2 (Pz G [.ref (a 0), .int x1, .int x2] (Fw G X (mW G a M) sz)) (Qwi G (fun r w => r = (v_X7_slow M x1 x2).1 ∧ w = mW G a (v_X7_slow M x1 x2).2) (va_A (mW G a M) sz)) 0 0 (va_A (mW G a M) sz) := by
  refine zmet (by decide +kernel) rfl rfl (fun Γ hl0 hQ hN hF => ?_)
  refine z_start hX hF (fun hw => ?_)
  generalize va_A (mW G a M) sz = A at hQ hw ⊢
  obtain ⟨res, hv⟩ : ∃ res, v_X7_slow M x1 x2 = res := ⟨_, rfl⟩
  rw [hv] at hQ
  unfold v_X7_slow at hv
  unfold p_X7_slow at hp
  show Z k_X7_slow G Γ _ 0 0 [(0, .ref (a 0)), (1, .int x1), (2, .int x2)] 0 []
  refine z_aload_n dX7_slow_0 rfl ?_
  refine z_iload_n dX7_slow_1 rfl ?_
  refine z_cvi (c_X7_isComer G a M x1 ) zc_X7_isComer zv_X7_isComer tw_m_RX7_110 (mrec wr_P) wr_P (zroom_of rfl) rfl (Nat.le_of_ble_eq_true rfl) dX7_slow_2 ?_
  refine z_if_ne (tgt := 14) dX7_slow_5 (by decide) (fun c1 => ?_) (fun c1 => ?_)
  · have hp := ip_f hp c1; have hv := it_f hv c1
    refine z_aload_n dX7_slow_14 rfl ?_
    refine z_iload_n dX7_slow_15 rfl ?_
    refine z_iconst (v := 0) dX7_slow_16 rfl ?_
    refine z_bipush (v := 9) dX7_slow_17 rfl ?_
    refine z_cvi (c_X7_isFrom G a M x2 0 9 ) zc_X7_isFrom zv_X7_isFrom tw_m_RX7_116 (mrec wr_P) wr_P (zroom_of rfl) rfl (Nat.le_of_ble_eq_true rfl) dX7_slow_19 ?_
    have hpm := hp
    have J10 : ∀ M6 : mT, M6 = (if (v_X7_isFrom M x2 0 9) = 0 then (v_X7_noTen M (-6)).2 else M) → ∀ m7 : Int32, m7 = (if (v_X7_isFrom M x2 0 9) = 0 then (v_X7_noTen M (-6)).1 else (v_X7_aloneIn M x1 x2)) → Z k_X7_slow G Γ (wr G A Γ.2.2.1.1.heap (mW G a M6)) 0 0 [(0, .ref (a 0)), (1, .int x1), (2, .int x2)] 40 [.int m7] := by
      intro M6 eM6 m7 em7
      have hv := kk_vq hv eM6
      clear eM6
      rewrite [em7]; clear em7
      subst hv; exact z_iret_W hQ rfl rfl rfl ⟨rfl, rfl⟩ dX7_slow_40
    refine z_if_eq (tgt := 34) dX7_slow_22 (by decide) (fun c2 => ?_) (fun c2 => ?_)
    · have hp := ip_t hpm c2
      refine z_aload_n dX7_slow_34 rfl ?_
      refine z_bipush (v := (-6)) dX7_slow_35 rfl ?_
      have q3 := hp
      refine z_caviD hw (fun sz => c_X7_noTen G a hw.1 sz M (-6) q3) zc_X7_noTen zv_X7_noTen tw_m_RX7_211 (mrec wr_P) (zroom_of rfl) rfl (Nat.le_of_ble_eq_true rfl) dX7_slow_37 ?_
      exact z_lv rfl (J10 _ (if_pos c2).symm _ (if_pos c2).symm)
    · have hp := ip_f hpm c2
      refine z_aload_n dX7_slow_25 rfl ?_
      refine z_iload_n dX7_slow_26 rfl ?_
      refine z_iload_n dX7_slow_27 rfl ?_
      have q5 := hp
      refine z_cvi (c_X7_aloneIn G a M x1 x2 q5) zc_X7_aloneIn zv_X7_aloneIn tw_m_RX7_208 (mrec wr_P) wr_P (zroom_of rfl) rfl (Nat.le_of_ble_eq_true rfl) dX7_slow_28 ?_
      refine z_goto (tgt := 40) dX7_slow_31 (by decide) ?_
      exact z_lv rfl (J10 _ (if_neg c2).symm _ (if_neg c2).symm)
  · have hp := ip_t hp c1; have hv := it_t hv c1
    refine z_aload_n dX7_slow_8 rfl ?_
    refine z_iconst (v := (-1)) dX7_slow_9 rfl ?_
    have q8 := hp
    refine z_caviD hw (fun sz => c_X7_noTen G a hw.1 sz M (-1) q8) zc_X7_noTen zv_X7_noTen tw_m_RX7_211 (mrec wr_P) (zroom_of rfl) rfl (Nat.le_of_ble_eq_true rfl) dX7_slow_10 ?_
    suffices z11 : ∀ q9 : Int32 × mT, q9 = (v_X7_noTen M (-1)) → Z k_X7_slow G Γ (wr G A Γ.2.2.1.1.heap (mW G a q9.2)) 0 0 [(0, .ref (a 0)), (1, .int x1), (2, .int x2)] 13 [.int q9.1] from z11 _ rfl
    intro q9 hq9
    have hv := kk_vq hv hq9
    clear hq9
    subst hv; exact z_iret_W hQ rfl rfl rfl ⟨rfl, rfl⟩ dX7_slow_13
theorem dX7_brave_0 : decode cX7_brave 0 = .ok (.iload_n 1, 1) := by decide +kernel
theorem dX7_brave_1 : decode cX7_brave 1 = .ok (.iconst (-1), 1) := by decide +kernel
theorem dX7_brave_2 : decode cX7_brave 2 = .ok (.if_icmp .eq 25, 3) := by decide +kernel
theorem dX7_brave_5 : decode cX7_brave 5 = .ok (.aload_n 0, 1) := by decide +kernel
theorem dX7_brave_6 : decode cX7_brave 6 = .ok (.iload_n 1, 1) := by decide +kernel
theorem dX7_brave_7 : decode cX7_brave 7 = .ok (.invokevirtual 110, 3) := by decide +kernel
theorem dX7_brave_10 : decode cX7_brave 10 = .ok (.ifCond .eq 11, 3) := by decide +kernel
theorem dX7_brave_13 : decode cX7_brave 13 = .ok (.aload_n 0, 1) := by decide +kernel
theorem dX7_brave_14 : decode cX7_brave 14 = .ok (.iload_n 1, 1) := by decide +kernel
theorem dX7_brave_15 : decode cX7_brave 15 = .ok (.invokevirtual 214, 3) := by decide +kernel
theorem dX7_brave_18 : decode cX7_brave 18 = .ok (.goto 8, 3) := by decide +kernel
theorem dX7_brave_21 : decode cX7_brave 21 = .ok (.aload_n 0, 1) := by decide +kernel
theorem dX7_brave_22 : decode cX7_brave 22 = .ok (.iconst (-1), 1) := by decide +kernel
theorem dX7_brave_23 : decode cX7_brave 23 = .ok (.invokevirtual 106, 3) := by decide +kernel
theorem dX7_brave_26 : decode cX7_brave 26 = .ok (.ireturn, 1) := by decide +kernel
theorem dX7_brave_27 : decode cX7_brave 27 = .ok (.iconst 0, 1) := by decide +kernel
theorem dX7_brave_28 : decode cX7_brave 28 = .ok (.istore_n 2, 1) := by decide +kernel
theorem dX7_brave_29 : decode cX7_brave 29 = .ok (.iconst 0, 1) := by decide +kernel
theorem dX7_brave_30 : decode cX7_brave 30 = .ok (.istore_n 3, 1) := by decide +kernel
theorem dX7_brave_31 : decode cX7_brave 31 = .ok (.iload_n 3, 1) := by decide +kernel
theorem dX7_brave_32 : decode cX7_brave 32 = .ok (.aload_n 0, 1) := by decide +kernel
theorem dX7_brave_33 : decode cX7_brave 33 = .ok (.getfield 99, 3) := by decide +kernel
theorem dX7_brave_36 : decode cX7_brave 36 = .ok (.if_icmp .ge 23, 3) := by decide +kernel
theorem dX7_brave_39 : decode cX7_brave 39 = .ok (.aload_n 0, 1) := by decide +kernel
theorem dX7_brave_40 : decode cX7_brave 40 = .ok (.iload_n 3, 1) := by decide +kernel
theorem dX7_brave_41 : decode cX7_brave 41 = .ok (.invokevirtual 214, 3) := by decide +kernel
theorem dX7_brave_44 : decode cX7_brave 44 = .ok (.ifCond .ne 9, 3) := by decide +kernel
theorem dX7_brave_47 : decode cX7_brave 47 = .ok (.iload_n 2, 1) := by decide +kernel
theorem dX7_brave_48 : decode cX7_brave 48 = .ok (.iconst 1, 1) := by decide +kernel
theorem dX7_brave_49 : decode cX7_brave 49 = .ok (.iload_n 3, 1) := by decide +kernel
theorem dX7_brave_50 : decode cX7_brave 50 = .ok (.ishl, 1) := by decide +kernel
theorem dX7_brave_51 : decode cX7_brave 51 = .ok (.iadd, 1) := by decide +kernel
theorem dX7_brave_52 : decode cX7_brave 52 = .ok (.istore_n 2, 1) := by decide +kernel
theorem dX7_brave_53 : decode cX7_brave 53 = .ok (.iinc 3 1, 3) := by decide +kernel
theorem dX7_brave_56 : decode cX7_brave 56 = .ok (.goto (-25), 3) := by decide +kernel
theorem dX7_brave_59 : decode cX7_brave 59 = .ok (.iload_n 2, 1) := by decide +kernel
theorem dX7_brave_60 : decode cX7_brave 60 = .ok (.ireturn, 1) := by decide +kernel
abbrev k_X7_brave : zK := (cX7_brave, 4, RX7, (some .int), ({ frames := 5, cells := 0, slots := 0, locals := 116 } : Room))
theorem zc_X7_brave : zcal yX7_brave k_X7_brave.1 k_X7_brave.2.1 k_X7_brave.2.2.2.1 1 := ⟨tw_code_yX7_brave, tw_i_TollForHesitatorsModel, ⟨by decide +kernel, by decide +kernel⟩, by decide +kernel⟩
theorem zv_X7_brave : Cond.instanceMethod yX7_brave ∈ TS ∧ Cond.selects RX7 yX7_brave yX7_brave ∈ TS := ⟨tw_inst_yX7_brave, tw_s_yX7_brave⟩
def v_X7_brave_r : Nat → mT → Int32 → Int32 → Int32 × mT
  | 0, M, _, _ => (0, M)
  | n + 1, M, v2, v3 => if (M.1 0) ≤ v3 then (v2, M) else v_X7_brave_r n M (if (v_X7_fogsOf M v3) = 0 then v2 + (1 <<< (v3 &&& 31)) else v2) (v3 + 1)
def p_X7_brave_r : Nat → mT → Int32 → Int32 → Prop
  | 0, _, _, _ => False
  | n + 1, M, v2, v3 => if (M.1 0) ≤ v3 then True else p_X7_fogsOf M v3 ∧ (p_X7_brave_r n M (if (v_X7_fogsOf M v3) = 0 then v2 + (1 <<< (v3 &&& 31)) else v2) (v3 + 1))
set_option maxHeartbeats 4000000 in
theorem w_X7_brave {G : zG} {Γ : zT} {a : Nat → Nat} {A : Nat → Prop} {res : Int32 × mT} {X : zX} (hw : wk X A Γ.2.2.1.1.heap) (hQ : zQ Γ (Qwi G (fun r w => r = res.1 ∧ w = mW G a res.2) A) 0 0 A) : ∀ n : Nat, (∀ (M : mT) (v2 : Int32) (v3 : Int32), p_X7_brave_r n M v2 v3 → v_X7_brave_r n M v2 v3 = res → Z k_X7_brave G Γ (wr G A Γ.2.2.1.1.heap (mW G a M)) 0 0 [(0, .ref (a 0)), (2, .int v2), (3, .int v3)] 31 []) := by
  intro n
  induction n with
  | zero => exact fun M v2 v3 hp => absurd hp (by rw [p_X7_brave_r]; exact not_false)
  | succ n ih =>
    intro M v2 v3 hp hv
    rw [p_X7_brave_r] at hp
    rw [v_X7_brave_r] at hv
    refine z_iload_n dX7_brave_31 rfl ?_
    refine z_aload_n dX7_brave_32 rfl ?_
    refine mg_0 (v := M.1 0) wr_P rfl rfl dX7_brave_33 ?_
    refine z_icmp_ge (tgt := 59) dX7_brave_36 (by decide) (fun c8 => ?_) (fun c8 => ?_)
    · have hp := ip_t hp c8; have hv := it_t hv c8
      refine z_iload_n dX7_brave_59 rfl ?_
      subst hv; exact z_iret_W hQ rfl rfl rfl ⟨rfl, rfl⟩ dX7_brave_60
    · have hp := ip_f hp c8; have hv := it_f hv c8
      refine z_aload_n dX7_brave_39 rfl ?_
      refine z_iload_n dX7_brave_40 rfl ?_
      obtain ⟨q12, hp⟩ := hp
      refine z_cvi (c_X7_fogsOf G a M v3 q12) zc_X7_fogsOf zv_X7_fogsOf tw_m_RX7_214 (mrec wr_P) wr_P (zroom_of rfl) rfl (Nat.le_of_ble_eq_true rfl) dX7_brave_41 ?_
      have J15 : ∀ m14 : Int32, m14 = (if (v_X7_fogsOf M v3) = 0 then v2 + (1 <<< (v3 &&& 31)) else v2) → Z k_X7_brave G Γ (wr G A Γ.2.2.1.1.heap (mW G a M)) 0 0 [(2, .int m14), (0, .ref (a 0)), (3, .int v3)] 53 [] := by
        intro m14 em14
        rewrite [em14]; clear em14
        refine z_iinc (v := v3 + 1) (lv' := [(3, .int (v3 + 1)), (2, .int (if (v_X7_fogsOf M v3) = 0 then v2 + (1 <<< (v3 &&& 31)) else v2)), (0, .ref (a 0))]) dX7_brave_53 2 rfl rfl (Nat.le_of_ble_eq_true rfl) rfl ?_
        refine z_goto (tgt := 31) dX7_brave_56 (by decide) ?_
        exact z_lv rfl ((ih) M (if (v_X7_fogsOf M v3) = 0 then v2 + (1 <<< (v3 &&& 31)) else v2) (v3 + 1) hp hv)
      refine z_if_ne (tgt := 53) dX7_brave_44 (by decide) (fun c13 => ?_) (fun c13 => ?_)
      · skip
        exact z_lv rfl (J15 _ (if_neg c13).symm)
      · skip
        refine z_iload_n dX7_brave_47 rfl ?_
        refine z_iconst (v := 1) dX7_brave_48 rfl ?_
        refine z_iload_n dX7_brave_49 rfl ?_
        refine z_ishl dX7_brave_50 ?_
        refine z_iadd dX7_brave_51 ?_
        refine z_istore_n (lv' := [(2, .int (v2 + (1 <<< (v3 &&& 31)))), (0, .ref (a 0)), (3, .int v3)]) dX7_brave_52 (Nat.le_of_ble_eq_true rfl) rfl ?_
        exact z_lv rfl (J15 _ (if_pos c13).symm)
def v_X7_brave (M : mT) (x1 : Int32) : Int32 × mT := if x1 = (-1) then v_X7_brave_r 200 M 0 0 else kk (if (v_X7_isComer M x1) = 0 then (v_X7_no M (-1)).2 else M) (fun M6 : mT => ((if (v_X7_isComer M x1) = 0 then (v_X7_no M (-1)).1 else (v_X7_fogsOf M x1)), M6))
def p_X7_brave (M : mT) (x1 : Int32) : Prop := if x1 = (-1) then p_X7_brave_r 200 M 0 0 else if (v_X7_isComer M x1) = 0 then p_X7_no M (-1) else p_X7_fogsOf M x1
set_option maxHeartbeats 4000000 in
theorem c_X7_brave {l : Launch} (G : zG) (a : Nat → Nat) {X : zX} (hX : XOK X) (sz : Nat) (M : mT) (x1 : Int32) (hp : p_X7_brave M x1) : Met l yX7_brave (.code yX7_brave k_X7_brave.1 k_X7_brave.2.1 k_X7_brave.2.2.2.1 :: TS) k_X7_brave.2.2.2.2 (Pz G [.ref (a 0), .int x1] (Fw G X (mW G a M) sz)) (Qwi G (fun r w => r = (v_X7_brave M x1).1 ∧ w = mW G a (v_X7_brave M x1).2) (va_A (mW G a M) sz)) 0 0 (va_A (mW G a M) sz) := by
  refine zmet (by decide +kernel) rfl rfl (fun Γ hl0 hQ hN hF => ?_)
  refine z_start hX hF (fun hw => ?_)
  generalize va_A (mW G a M) sz = A at hQ hw ⊢
  obtain ⟨res, hv⟩ : ∃ res, v_X7_brave M x1 = res := ⟨_, rfl⟩
  rw [hv] at hQ
  unfold v_X7_brave at hv
  unfold p_X7_brave at hp
  show Z k_X7_brave G Γ _ 0 0 [(0, .ref (a 0)), (1, .int x1)] 0 []
  refine z_iload_n dX7_brave_0 rfl ?_
  refine z_iconst (v := (-1)) dX7_brave_1 rfl ?_
  refine z_icmp_eq (tgt := 27) dX7_brave_2 (by decide) (fun c1 => ?_) (fun c1 => ?_)
  · have hp := ip_t hp c1; have hv := it_t hv c1
    refine z_iconst (v := 0) dX7_brave_27 rfl ?_
    refine z_istore_n (lv' := [(2, .int 0), (0, .ref (a 0)), (1, .int x1)]) dX7_brave_28 (Nat.le_of_ble_eq_true rfl) rfl ?_
    refine z_iconst (v := 0) dX7_brave_29 rfl ?_
    refine z_istore_n (lv' := [(3, .int 0), (2, .int 0), (0, .ref (a 0)), (1, .int x1)]) dX7_brave_30 (Nat.le_of_ble_eq_true rfl) rfl ?_
    exact z_lv rfl ((w_X7_brave hw hQ 200) M 0 0 hp hv)
  · have hp := ip_f hp c1; have hv := it_f hv c1
    refine z_aload_n dX7_brave_5 rfl ?_
    refine z_iload_n dX7_brave_6 rfl ?_
    refine z_cvi (c_X7_isComer G a M x1 ) zc_X7_isComer zv_X7_isComer tw_m_RX7_110 (mrec wr_P) wr_P (zroom_of rfl) rfl (Nat.le_of_ble_eq_true rfl) dX7_brave_7 ?_
    have hpm := hp
    have J16 : ∀ M6 : mT, M6 = (if (v_X7_isComer M x1) = 0 then (v_X7_no M (-1)).2 else M) → ∀ m7 : Int32, m7 = (if (v_X7_isComer M x1) = 0 then (v_X7_no M (-1)).1 else (v_X7_fogsOf M x1)) → Z k_X7_brave G Γ (wr G A Γ.2.2.1.1.heap (mW G a M6)) 0 0 [(0, .ref (a 0)), (1, .int x1)] 26 [.int m7] := by
      intro M6 eM6 m7 em7
      have hv := kk_vq hv eM6
      clear eM6
      rewrite [em7]; clear em7
      subst hv; exact z_iret_W hQ rfl rfl rfl ⟨rfl, rfl⟩ dX7_brave_26
    refine z_if_eq (tgt := 21) dX7_brave_10 (by decide) (fun c2 => ?_) (fun c2 => ?_)
    · have hp := ip_t hpm c2
      refine z_aload_n dX7_brave_21 rfl ?_
      refine z_iconst (v := (-1)) dX7_brave_22 rfl ?_
      have q3 := hp
      refine z_caviD hw (fun sz => c_X7_no G a hw.1 sz M (-1) q3) zc_X7_no zv_X7_no tw_m_RX7_106 (mrec wr_P) (zroom_of rfl) rfl (Nat.le_of_ble_eq_true rfl) dX7_brave_23 ?_
      exact z_lv rfl (J16 _ (if_pos c2).symm _ (if_pos c2).symm)
    · have hp := ip_f hpm c2
      refine z_aload_n dX7_brave_13 rfl ?_
      refine z_iload_n dX7_brave_14 rfl ?_
      have q5 := hp
      refine z_cvi (c_X7_fogsOf G a M x1 q5) zc_X7_fogsOf zv_X7_fogsOf tw_m_RX7_214 (mrec wr_P) wr_P (zroom_of rfl) rfl (Nat.le_of_ble_eq_true rfl) dX7_brave_15 ?_
      refine z_goto (tgt := 26) dX7_brave_18 (by decide) ?_
      exact z_lv rfl (J16 _ (if_neg c2).symm _ (if_neg c2).symm)
theorem dX7_goes_0 : decode cX7_goes 0 = .ok (.aload_n 0, 1) := by decide +kernel
theorem dX7_goes_1 : decode cX7_goes 1 = .ok (.getfield 217, 3) := by decide +kernel
theorem dX7_goes_4 : decode cX7_goes 4 = .ok (.iload_n 1, 1) := by decide +kernel
theorem dX7_goes_5 : decode cX7_goes 5 = .ok (.ishr, 1) := by decide +kernel
theorem dX7_goes_6 : decode cX7_goes 6 = .ok (.iconst 1, 1) := by decide +kernel
theorem dX7_goes_7 : decode cX7_goes 7 = .ok (.iand, 1) := by decide +kernel
theorem dX7_goes_8 : decode cX7_goes 8 = .ok (.iconst 1, 1) := by decide +kernel
theorem dX7_goes_9 : decode cX7_goes 9 = .ok (.if_icmp .eq 20, 3) := by decide +kernel
theorem dX7_goes_12 : decode cX7_goes 12 = .ok (.aload_n 0, 1) := by decide +kernel
theorem dX7_goes_13 : decode cX7_goes 13 = .ok (.iload_n 1, 1) := by decide +kernel
theorem dX7_goes_14 : decode cX7_goes 14 = .ok (.iload_n 2, 1) := by decide +kernel
theorem dX7_goes_15 : decode cX7_goes 15 = .ok (.iload_n 3, 1) := by decide +kernel
theorem dX7_goes_16 : decode cX7_goes 16 = .ok (.iload 4, 2) := by decide +kernel
theorem dX7_goes_18 : decode cX7_goes 18 = .ok (.aload_n 0, 1) := by decide +kernel
theorem dX7_goes_19 : decode cX7_goes 19 = .ok (.getfield 124, 3) := by decide +kernel
theorem dX7_goes_22 : decode cX7_goes 22 = .ok (.invokevirtual 204, 3) := by decide +kernel
theorem dX7_goes_25 : decode cX7_goes 25 = .ok (.iconst (-1), 1) := by decide +kernel
theorem dX7_goes_26 : decode cX7_goes 26 = .ok (.if_icmp .ne 5, 3) := by decide +kernel
theorem dX7_goes_29 : decode cX7_goes 29 = .ok (.iconst 0, 1) := by decide +kernel
theorem dX7_goes_30 : decode cX7_goes 30 = .ok (.ireturn, 1) := by decide +kernel
theorem dX7_goes_31 : decode cX7_goes 31 = .ok (.aload_n 0, 1) := by decide +kernel
theorem dX7_goes_32 : decode cX7_goes 32 = .ok (.getfield 44, 3) := by decide +kernel
theorem dX7_goes_35 : decode cX7_goes 35 = .ok (.iload_n 1, 1) := by decide +kernel
theorem dX7_goes_36 : decode cX7_goes 36 = .ok (.iaload, 1) := by decide +kernel
theorem dX7_goes_37 : decode cX7_goes 37 = .ok (.aload_n 0, 1) := by decide +kernel
theorem dX7_goes_38 : decode cX7_goes 38 = .ok (.getfield 13, 3) := by decide +kernel
theorem dX7_goes_41 : decode cX7_goes 41 = .ok (.if_icmp .lt 7, 3) := by decide +kernel
theorem dX7_goes_44 : decode cX7_goes 44 = .ok (.iconst 1, 1) := by decide +kernel
theorem dX7_goes_45 : decode cX7_goes 45 = .ok (.goto 4, 3) := by decide +kernel
theorem dX7_goes_48 : decode cX7_goes 48 = .ok (.iconst 2, 1) := by decide +kernel
theorem dX7_goes_49 : decode cX7_goes 49 = .ok (.ireturn, 1) := by decide +kernel
abbrev k_X7_goes : zK := (cX7_goes, 5, RX7, (some .int), ({ frames := 3, cells := 0, slots := 0, locals := 71 } : Room))
theorem zc_X7_goes : zcal yX7_goes k_X7_goes.1 k_X7_goes.2.1 k_X7_goes.2.2.2.1 4 := ⟨tw_code_yX7_goes, tw_i_TollForHesitatorsModel, ⟨by decide +kernel, by decide +kernel⟩, by decide +kernel⟩
theorem zv_X7_goes : Cond.instanceMethod yX7_goes ∈ TS ∧ Cond.selects RX7 yX7_goes yX7_goes ∈ TS := ⟨tw_inst_yX7_goes, tw_s_yX7_goes⟩
def v_X7_goes (M : mT) (x1 : Int32) (x2 : Int32) (x3 : Int32) (x4 : Int32) : Int32 := if (((M.1 36) >>> (x1 &&& 31)) &&& 1) = 1 then 0 else if (v_X7_slowsAt M x1 x2 x3 x4 (M.1 2)) = (-1) then 0 else (if ((M.2.1 14) x1.toNatClampNeg) < (M.1 3) then 2 else 1)
def p_X7_goes (M : mT) (x1 : Int32) (x2 : Int32) (x3 : Int32) (x4 : Int32) : Prop := if (((M.1 36) >>> (x1 &&& 31)) &&& 1) = 1 then True else (p_X7_slowsAt M x1 x2 x3 x4 (M.1 2)) ∧ (if (v_X7_slowsAt M x1 x2 x3 x4 (M.1 2)) = (-1) then True else vp_in x1 7)
set_option maxHeartbeats 4000000 in
theorem c_X7_goes {l : Launch} (G : zG) (a : Nat → Nat) (M : mT) (x1 : Int32) (x2 : Int32) (x3 : Int32) (x4 : Int32) (hp : p_X7_goes M x1 x2 x3 x4) : Met l yX7_goes (.code yX7_goes k_X7_goes.1 k_X7_goes.2.1 k_X7_goes.2.2.2.1 :: TS) k_X7_goes.2.2.2.2 (Pz G [.ref (a 0), .int x1, .int x2, .int x3, .int x4] (va_P G.2.1 CL (mW G a M))) (vp_Si (fun r => r = v_X7_goes M x1 x2 x3 x4)) 0 0 (fun _ => False) := by
  refine zmet (by decide +kernel) rfl rfl (fun Γ hl0 hQ hN hF => ?_)
  have hI := rd_P (G := G) hF
  obtain ⟨res, hv⟩ : ∃ res, v_X7_goes M x1 x2 x3 x4 = res := ⟨_, rfl⟩
  rw [hv] at hQ
  unfold v_X7_goes at hv
  unfold p_X7_goes at hp
  show Z k_X7_goes G Γ _ 0 0 [(0, .ref (a 0)), (1, .int x1), (2, .int x2), (3, .int x3), (4, .int x4)] 0 []
  refine z_aload_n dX7_goes_0 rfl ?_
  refine mg_36 (v := M.1 36) hI rfl rfl dX7_goes_1 ?_
  refine z_iload_n dX7_goes_4 rfl ?_
  refine z_ishr dX7_goes_5 ?_
  refine z_iconst (v := 1) dX7_goes_6 rfl ?_
  refine z_iand dX7_goes_7 ?_
  refine z_iconst (v := 1) dX7_goes_8 rfl ?_
  refine z_icmp_eq (tgt := 29) dX7_goes_9 (by decide) (fun c1 => ?_) (fun c1 => ?_)
  · have hp := ip_t hp c1; have hv := it_t hv c1
    refine z_iconst (v := 0) dX7_goes_29 rfl ?_
    exact z_iret_S hQ rfl hv dX7_goes_30
  · have hp := ip_f hp c1; have hv := it_f hv c1
    refine z_aload_n dX7_goes_12 rfl ?_
    refine z_iload_n dX7_goes_13 rfl ?_
    refine z_iload_n dX7_goes_14 rfl ?_
    refine z_iload_n dX7_goes_15 rfl ?_
    refine z_iload dX7_goes_16 rfl ?_
    refine z_aload_n dX7_goes_18 rfl ?_
    refine mg_2 (v := M.1 2) hI rfl rfl dX7_goes_19 ?_
    obtain ⟨q2, hp⟩ := hp
    refine z_cvi (c_X7_slowsAt G a M x1 x2 x3 x4 (M.1 2) q2) zc_X7_slowsAt zv_X7_slowsAt tw_m_RX7_204 (mrec hI) hI (zroom_of rfl) rfl (Nat.le_of_ble_eq_true rfl) dX7_goes_22 ?_
    refine z_iconst (v := (-1)) dX7_goes_25 rfl ?_
    refine z_icmp_ne (tgt := 31) dX7_goes_26 (by decide) (fun c3 => ?_) (fun c3 => ?_)
    · have hp := ip_f hp c3; have hv := it_f hv c3
      refine z_aload_n dX7_goes_31 rfl ?_
      refine mg_14 hI rfl dX7_goes_32 ?_
      refine z_iload_n dX7_goes_35 rfl ?_
      have q4 := hp
      refine ml_14 (x := (M.2.1 14) x1.toNatClampNeg) hI q4 rfl dX7_goes_36 ?_
      refine z_aload_n dX7_goes_37 rfl ?_
      refine mg_3 (v := M.1 3) hI rfl rfl dX7_goes_38 ?_
      have J7 : ∀ m6 : Int32, m6 = (if ((M.2.1 14) x1.toNatClampNeg) < (M.1 3) then 2 else 1) → Z k_X7_goes G Γ (rd Γ.2.2.1.1.heap) 0 0 [(0, .ref (a 0)), (1, .int x1), (2, .int x2), (3, .int x3), (4, .int x4)] 49 [.int m6] := by
        intro m6 em6
        rewrite [em6]; clear em6
        exact z_iret_S hQ rfl hv dX7_goes_49
      refine z_icmp_lt (tgt := 48) dX7_goes_41 (by decide) (fun c5 => ?_) (fun c5 => ?_)
      · skip
        refine z_iconst (v := 2) dX7_goes_48 rfl ?_
        exact z_lv rfl (J7 _ (if_pos c5).symm)
      · skip
        refine z_iconst (v := 1) dX7_goes_44 rfl ?_
        refine z_goto (tgt := 49) dX7_goes_45 (by decide) ?_
        exact z_lv rfl (J7 _ (if_neg c5).symm)
    · have hp := ip_t hp c3; have hv := it_t hv c3
      refine z_iconst (v := 0) dX7_goes_29 rfl ?_
      exact z_iret_S hQ rfl hv dX7_goes_30
theorem dX7_comes_0 : decode cX7_comes 0 = .ok (.aload_n 0, 1) := by decide +kernel
theorem dX7_comes_1 : decode cX7_comes 1 = .ok (.iconst 0, 1) := by decide +kernel
theorem dX7_comes_2 : decode cX7_comes 2 = .ok (.putfield 220, 3) := by decide +kernel
theorem dX7_comes_5 : decode cX7_comes 5 = .ok (.aload_n 0, 1) := by decide +kernel
theorem dX7_comes_6 : decode cX7_comes 6 = .ok (.iconst 0, 1) := by decide +kernel
theorem dX7_comes_7 : decode cX7_comes 7 = .ok (.putfield 223, 3) := by decide +kernel
theorem dX7_comes_10 : decode cX7_comes 10 = .ok (.aload_n 0, 1) := by decide +kernel
theorem dX7_comes_11 : decode cX7_comes 11 = .ok (.iconst 0, 1) := by decide +kernel
theorem dX7_comes_12 : decode cX7_comes 12 = .ok (.putfield 226, 3) := by decide +kernel
theorem dX7_comes_15 : decode cX7_comes 15 = .ok (.iconst 0, 1) := by decide +kernel
theorem dX7_comes_16 : decode cX7_comes 16 = .ok (.istore_n 2, 1) := by decide +kernel
theorem dX7_comes_17 : decode cX7_comes 17 = .ok (.iload_n 2, 1) := by decide +kernel
theorem dX7_comes_18 : decode cX7_comes 18 = .ok (.iload_n 1, 1) := by decide +kernel
theorem dX7_comes_19 : decode cX7_comes 19 = .ok (.if_icmp .ge 143, 3) := by decide +kernel
theorem dX7_comes_22 : decode cX7_comes 22 = .ok (.iload_n 2, 1) := by decide +kernel
theorem dX7_comes_23 : decode cX7_comes 23 = .ok (.ifCond .ne 7, 3) := by decide +kernel
theorem dX7_comes_26 : decode cX7_comes 26 = .ok (.iconst (-1), 1) := by decide +kernel
theorem dX7_comes_27 : decode cX7_comes 27 = .ok (.goto 11, 3) := by decide +kernel
theorem dX7_comes_30 : decode cX7_comes 30 = .ok (.aload_n 0, 1) := by decide +kernel
theorem dX7_comes_31 : decode cX7_comes 31 = .ok (.getfield 87, 3) := by decide +kernel
theorem dX7_comes_34 : decode cX7_comes 34 = .ok (.iload_n 2, 1) := by decide +kernel
theorem dX7_comes_35 : decode cX7_comes 35 = .ok (.iconst 1, 1) := by decide +kernel
theorem dX7_comes_36 : decode cX7_comes 36 = .ok (.isub, 1) := by decide +kernel
theorem dX7_comes_37 : decode cX7_comes 37 = .ok (.iaload, 1) := by decide +kernel
theorem dX7_comes_38 : decode cX7_comes 38 = .ok (.istore_n 3, 1) := by decide +kernel
theorem dX7_comes_39 : decode cX7_comes 39 = .ok (.iload_n 2, 1) := by decide +kernel
theorem dX7_comes_40 : decode cX7_comes 40 = .ok (.iload_n 1, 1) := by decide +kernel
theorem dX7_comes_41 : decode cX7_comes 41 = .ok (.iconst 1, 1) := by decide +kernel
theorem dX7_comes_42 : decode cX7_comes 42 = .ok (.isub, 1) := by decide +kernel
theorem dX7_comes_43 : decode cX7_comes 43 = .ok (.if_icmp .ne 7, 3) := by decide +kernel
theorem dX7_comes_46 : decode cX7_comes 46 = .ok (.iconst (-1), 1) := by decide +kernel
theorem dX7_comes_47 : decode cX7_comes 47 = .ok (.goto 11, 3) := by decide +kernel
theorem dX7_comes_50 : decode cX7_comes 50 = .ok (.aload_n 0, 1) := by decide +kernel
theorem dX7_comes_51 : decode cX7_comes 51 = .ok (.getfield 87, 3) := by decide +kernel
theorem dX7_comes_54 : decode cX7_comes 54 = .ok (.iload_n 2, 1) := by decide +kernel
theorem dX7_comes_55 : decode cX7_comes 55 = .ok (.iconst 1, 1) := by decide +kernel
theorem dX7_comes_56 : decode cX7_comes 56 = .ok (.iadd, 1) := by decide +kernel
theorem dX7_comes_57 : decode cX7_comes 57 = .ok (.iaload, 1) := by decide +kernel
theorem dX7_comes_58 : decode cX7_comes 58 = .ok (.istore 4, 2) := by decide +kernel
theorem dX7_comes_60 : decode cX7_comes 60 = .ok (.aload_n 0, 1) := by decide +kernel
theorem dX7_comes_61 : decode cX7_comes 61 = .ok (.getfield 223, 3) := by decide +kernel
theorem dX7_comes_64 : decode cX7_comes 64 = .ok (.aload_n 0, 1) := by decide +kernel
theorem dX7_comes_65 : decode cX7_comes 65 = .ok (.getfield 220, 3) := by decide +kernel
theorem dX7_comes_68 : decode cX7_comes 68 = .ok (.isub, 1) := by decide +kernel
theorem dX7_comes_69 : decode cX7_comes 69 = .ok (.istore 5, 2) := by decide +kernel
theorem dX7_comes_71 : decode cX7_comes 71 = .ok (.aload_n 0, 1) := by decide +kernel
theorem dX7_comes_72 : decode cX7_comes 72 = .ok (.getfield 90, 3) := by decide +kernel
theorem dX7_comes_75 : decode cX7_comes 75 = .ok (.iload_n 2, 1) := by decide +kernel
theorem dX7_comes_76 : decode cX7_comes 76 = .ok (.aload_n 0, 1) := by decide +kernel
theorem dX7_comes_77 : decode cX7_comes 77 = .ok (.aload_n 0, 1) := by decide +kernel
theorem dX7_comes_78 : decode cX7_comes 78 = .ok (.getfield 87, 3) := by decide +kernel
theorem dX7_comes_81 : decode cX7_comes 81 = .ok (.iload_n 2, 1) := by decide +kernel
theorem dX7_comes_82 : decode cX7_comes 82 = .ok (.iaload, 1) := by decide +kernel
theorem dX7_comes_83 : decode cX7_comes 83 = .ok (.iload_n 3, 1) := by decide +kernel
theorem dX7_comes_84 : decode cX7_comes 84 = .ok (.iload 4, 2) := by decide +kernel
theorem dX7_comes_86 : decode cX7_comes 86 = .ok (.iload 5, 2) := by decide +kernel
theorem dX7_comes_88 : decode cX7_comes 88 = .ok (.ifCond .ge 7, 3) := by decide +kernel
theorem dX7_comes_91 : decode cX7_comes 91 = .ok (.iconst 0, 1) := by decide +kernel
theorem dX7_comes_92 : decode cX7_comes 92 = .ok (.goto 5, 3) := by decide +kernel
theorem dX7_comes_95 : decode cX7_comes 95 = .ok (.iload 5, 2) := by decide +kernel
theorem dX7_comes_97 : decode cX7_comes 97 = .ok (.invokevirtual 229, 3) := by decide +kernel
theorem dX7_comes_100 : decode cX7_comes 100 = .ok (.iastore, 1) := by decide +kernel
theorem dX7_comes_101 : decode cX7_comes 101 = .ok (.aload_n 0, 1) := by decide +kernel
theorem dX7_comes_102 : decode cX7_comes 102 = .ok (.getfield 90, 3) := by decide +kernel
theorem dX7_comes_105 : decode cX7_comes 105 = .ok (.iload_n 2, 1) := by decide +kernel
theorem dX7_comes_106 : decode cX7_comes 106 = .ok (.iaload, 1) := by decide +kernel
theorem dX7_comes_107 : decode cX7_comes 107 = .ok (.ifCond .ne 16, 3) := by decide +kernel
theorem dX7_comes_110 : decode cX7_comes 110 = .ok (.aload_n 0, 1) := by decide +kernel
theorem dX7_comes_111 : decode cX7_comes 111 = .ok (.dup, 1) := by decide +kernel
theorem dX7_comes_112 : decode cX7_comes 112 = .ok (.getfield 220, 3) := by decide +kernel
theorem dX7_comes_115 : decode cX7_comes 115 = .ok (.iconst 1, 1) := by decide +kernel
theorem dX7_comes_116 : decode cX7_comes 116 = .ok (.iadd, 1) := by decide +kernel
theorem dX7_comes_117 : decode cX7_comes 117 = .ok (.putfield 220, 3) := by decide +kernel
theorem dX7_comes_120 : decode cX7_comes 120 = .ok (.goto 36, 3) := by decide +kernel
theorem dX7_comes_123 : decode cX7_comes 123 = .ok (.aload_n 0, 1) := by decide +kernel
theorem dX7_comes_124 : decode cX7_comes 124 = .ok (.getfield 90, 3) := by decide +kernel
theorem dX7_comes_127 : decode cX7_comes 127 = .ok (.iload_n 2, 1) := by decide +kernel
theorem dX7_comes_128 : decode cX7_comes 128 = .ok (.iaload, 1) := by decide +kernel
theorem dX7_comes_129 : decode cX7_comes 129 = .ok (.iconst 1, 1) := by decide +kernel
theorem dX7_comes_130 : decode cX7_comes 130 = .ok (.if_icmp .ne 16, 3) := by decide +kernel
theorem dX7_comes_133 : decode cX7_comes 133 = .ok (.aload_n 0, 1) := by decide +kernel
theorem dX7_comes_134 : decode cX7_comes 134 = .ok (.dup, 1) := by decide +kernel
theorem dX7_comes_135 : decode cX7_comes 135 = .ok (.getfield 223, 3) := by decide +kernel
theorem dX7_comes_138 : decode cX7_comes 138 = .ok (.iconst 1, 1) := by decide +kernel
theorem dX7_comes_139 : decode cX7_comes 139 = .ok (.iadd, 1) := by decide +kernel
theorem dX7_comes_140 : decode cX7_comes 140 = .ok (.putfield 223, 3) := by decide +kernel
theorem dX7_comes_143 : decode cX7_comes 143 = .ok (.goto 13, 3) := by decide +kernel
theorem dX7_comes_146 : decode cX7_comes 146 = .ok (.aload_n 0, 1) := by decide +kernel
theorem dX7_comes_147 : decode cX7_comes 147 = .ok (.dup, 1) := by decide +kernel
theorem dX7_comes_148 : decode cX7_comes 148 = .ok (.getfield 226, 3) := by decide +kernel
theorem dX7_comes_151 : decode cX7_comes 151 = .ok (.iconst 1, 1) := by decide +kernel
theorem dX7_comes_152 : decode cX7_comes 152 = .ok (.iadd, 1) := by decide +kernel
theorem dX7_comes_153 : decode cX7_comes 153 = .ok (.putfield 226, 3) := by decide +kernel
theorem dX7_comes_156 : decode cX7_comes 156 = .ok (.iinc 2 1, 3) := by decide +kernel
theorem dX7_comes_159 : decode cX7_comes 159 = .ok (.goto (-142), 3) := by decide +kernel
theorem dX7_comes_162 : decode cX7_comes 162 = .ok (.return_, 1) := by decide +kernel
abbrev k_X7_comes : zK := (cX7_comes, 6, RX7, none, ({ frames := 4, cells := 0, slots := 0, locals := 95 } : Room))
theorem zc_X7_comes : zcal yX7_comes k_X7_comes.1 k_X7_comes.2.1 k_X7_comes.2.2.2.1 1 := ⟨tw_code_yX7_comes, tw_i_TollForHesitatorsModel, ⟨by decide +kernel, by decide +kernel⟩, by decide +kernel⟩
theorem zv_X7_comes : Cond.instanceMethod yX7_comes ∈ TS ∧ Cond.selects RX7 yX7_comes yX7_comes ∈ TS := ⟨tw_inst_yX7_comes, tw_s_yX7_comes⟩
def v_X7_comes_r : Nat → mT → Int32 → Int32 → mT
  | 0, M, _, _ => M
  | n + 1, M, v1, v2 => if v1 ≤ v2 then M else kk ((v_X7_goes M ((M.2.1 33) v2.toNatClampNeg) (if v2 = 0 then (-1) else (M.2.1 33) (v2 - 1).toNatClampNeg) (if v2 = (v1 - 1) then (-1) else (M.2.1 33) (v2 + 1).toNatClampNeg) (if 0 ≤ ((M.1 38) - (M.1 37)) then (M.1 38) - (M.1 37) else 0))) (fun y29 : Int32 => kk (if ((upd (M.2.1 34) v2.toNatClampNeg y29) v2.toNatClampNeg) = 0 then msf (msa M 34 (upd (M.2.1 34) v2.toNatClampNeg y29)) 37 ((M.1 37) + 1) else (if ((upd (M.2.1 34) v2.toNatClampNeg y29) v2.toNatClampNeg) = 1 then msf (msa M 34 (upd (M.2.1 34) v2.toNatClampNeg y29)) 38 ((M.1 38) + 1) else msf (msa M 34 (upd (M.2.1 34) v2.toNatClampNeg y29)) 39 ((M.1 39) + 1))) (fun M36 : mT => v_X7_comes_r n M36 v1 (v2 + 1)))
def p_X7_comes_r : Nat → mT → Int32 → Int32 → Prop
  | 0, _, _, _ => False
  | n + 1, M, v1, v2 => if v1 ≤ v2 then True else (if v2 = 0 then True else vp_in (v2 - 1) 7) ∧ ((if v2 = (v1 - 1) then True else vp_in (v2 + 1) 7) ∧ (vp_in v2 7 ∧ ((p_X7_goes M ((M.2.1 33) v2.toNatClampNeg) (if v2 = 0 then (-1) else (M.2.1 33) (v2 - 1).toNatClampNeg) (if v2 = (v1 - 1) then (-1) else (M.2.1 33) (v2 + 1).toNatClampNeg) (if 0 ≤ ((M.1 38) - (M.1 37)) then (M.1 38) - (M.1 37) else 0)) ∧ (kk ((v_X7_goes M ((M.2.1 33) v2.toNatClampNeg) (if v2 = 0 then (-1) else (M.2.1 33) (v2 - 1).toNatClampNeg) (if v2 = (v1 - 1) then (-1) else (M.2.1 33) (v2 + 1).toNatClampNeg) (if 0 ≤ ((M.1 38) - (M.1 37)) then (M.1 38) - (M.1 37) else 0))) (fun y29 : Int32 => vp_in v2 7 ∧ (vp_in v2 7 ∧ ((if ((upd (M.2.1 34) v2.toNatClampNeg y29) v2.toNatClampNeg) = 0 then True else vp_in v2 7) ∧ (kk (if ((upd (M.2.1 34) v2.toNatClampNeg y29) v2.toNatClampNeg) = 0 then msf (msa M 34 (upd (M.2.1 34) v2.toNatClampNeg y29)) 37 ((M.1 37) + 1) else (if ((upd (M.2.1 34) v2.toNatClampNeg y29) v2.toNatClampNeg) = 1 then msf (msa M 34 (upd (M.2.1 34) v2.toNatClampNeg y29)) 38 ((M.1 38) + 1) else msf (msa M 34 (upd (M.2.1 34) v2.toNatClampNeg y29)) 39 ((M.1 39) + 1))) (fun M36 : mT => p_X7_comes_r n M36 v1 (v2 + 1))))))))))
set_option maxHeartbeats 4000000 in
theorem w_X7_comes {G : zG} {Γ : zT} {a : Nat → Nat} {A : Nat → Prop} {res : mT} {X : zX} (hw : wk X A Γ.2.2.1.1.heap) (hQ : zQ Γ (Qwv G (fun w => w = mW G a res) A) 0 0 A) : ∀ n : Nat, (∀ (M : mT) (v1 : Int32) (v2 : Int32), p_X7_comes_r n M v1 v2 → v_X7_comes_r n M v1 v2 = res → Z k_X7_comes G Γ (wr G A Γ.2.2.1.1.heap (mW G a M)) 0 0 [(0, .ref (a 0)), (1, .int v1), (2, .int v2)] 17 []) := by
  intro n
  induction n with
  | zero => exact fun M v1 v2 hp => absurd hp (by rw [p_X7_comes_r]; exact not_false)
  | succ n ih =>
    intro M v1 v2 hp hv
    rw [p_X7_comes_r] at hp
    rw [v_X7_comes_r] at hv
    refine z_iload_n dX7_comes_17 rfl ?_
    refine z_iload_n dX7_comes_18 rfl ?_
    refine z_icmp_ge (tgt := 162) dX7_comes_19 (by decide) (fun c1 => ?_) (fun c1 => ?_)
    · have hp := ip_t hp c1; have hv := it_t hv c1
      subst hv; exact z_vret_W hQ rfl rfl rfl rfl dX7_comes_162
    · have hp := ip_f hp c1; have hv := it_f hv c1
      refine z_iload_n dX7_comes_22 rfl ?_
      obtain ⟨hpm, hp⟩ := hp
      have J37 : ∀ m21 : Int32, m21 = (if v2 = 0 then (-1) else (M.2.1 33) (v2 - 1).toNatClampNeg) → Z k_X7_comes G Γ (wr G A Γ.2.2.1.1.heap (mW G a M)) 0 0 [(0, .ref (a 0)), (1, .int v1), (2, .int v2)] 38 [.int m21] := by
        intro m21 em21
        rewrite [em21]; clear em21
        refine z_istore_n (lv' := [(3, .int (if v2 = 0 then (-1) else (M.2.1 33) (v2 - 1).toNatClampNeg)), (0, .ref (a 0)), (1, .int v1), (2, .int v2)]) dX7_comes_38 (Nat.le_of_ble_eq_true rfl) rfl ?_
        refine z_iload_n dX7_comes_39 rfl ?_
        refine z_iload_n dX7_comes_40 rfl ?_
        refine z_iconst (v := 1) dX7_comes_41 rfl ?_
        refine z_isub dX7_comes_42 ?_
        obtain ⟨hpm, hp⟩ := hp
        have J38 : ∀ m24 : Int32, m24 = (if v2 = (v1 - 1) then (-1) else (M.2.1 33) (v2 + 1).toNatClampNeg) → Z k_X7_comes G Γ (wr G A Γ.2.2.1.1.heap (mW G a M)) 0 0 [(3, .int (if v2 = 0 then (-1) else (M.2.1 33) (v2 - 1).toNatClampNeg)), (0, .ref (a 0)), (1, .int v1), (2, .int v2)] 58 [.int m24] := by
          intro m24 em24
          rewrite [em24]; clear em24
          refine z_istore (lv' := [(4, .int (if v2 = (v1 - 1) then (-1) else (M.2.1 33) (v2 + 1).toNatClampNeg)), (3, .int (if v2 = 0 then (-1) else (M.2.1 33) (v2 - 1).toNatClampNeg)), (0, .ref (a 0)), (1, .int v1), (2, .int v2)]) dX7_comes_58 (Nat.le_of_ble_eq_true rfl) rfl ?_
          refine z_aload_n dX7_comes_60 rfl ?_
          refine mg_38 (v := M.1 38) wr_P rfl rfl dX7_comes_61 ?_
          refine z_aload_n dX7_comes_64 rfl ?_
          refine mg_37 (v := M.1 37) wr_P rfl rfl dX7_comes_65 ?_
          refine z_isub dX7_comes_68 ?_
          refine z_istore (lv' := [(5, .int ((M.1 38) - (M.1 37))), (4, .int (if v2 = (v1 - 1) then (-1) else (M.2.1 33) (v2 + 1).toNatClampNeg)), (3, .int (if v2 = 0 then (-1) else (M.2.1 33) (v2 - 1).toNatClampNeg)), (0, .ref (a 0)), (1, .int v1), (2, .int v2)]) dX7_comes_69 (Nat.le_of_ble_eq_true rfl) rfl ?_
          refine z_aload_n dX7_comes_71 rfl ?_
          refine mg_34 wr_P rfl dX7_comes_72 ?_
          refine z_iload_n dX7_comes_75 rfl ?_
          refine z_aload_n dX7_comes_76 rfl ?_
          refine z_aload_n dX7_comes_77 rfl ?_
          refine mg_33 wr_P rfl dX7_comes_78 ?_
          refine z_iload_n dX7_comes_81 rfl ?_
          obtain ⟨q25, hp⟩ := hp
          refine ml_33 (x := (M.2.1 33) v2.toNatClampNeg) wr_P q25 rfl dX7_comes_82 ?_
          refine z_iload_n dX7_comes_83 rfl ?_
          refine z_iload dX7_comes_84 rfl ?_
          refine z_iload dX7_comes_86 rfl ?_
          have J39 : ∀ m27 : Int32, m27 = (if 0 ≤ ((M.1 38) - (M.1 37)) then (M.1 38) - (M.1 37) else 0) → Z k_X7_comes G Γ (wr G A Γ.2.2.1.1.heap (mW G a M)) 0 0 [(5, .int ((M.1 38) - (M.1 37))), (4, .int (if v2 = (v1 - 1) then (-1) else (M.2.1 33) (v2 + 1).toNatClampNeg)), (3, .int (if v2 = 0 then (-1) else (M.2.1 33) (v2 - 1).toNatClampNeg)), (0, .ref (a 0)), (1, .int v1), (2, .int v2)] 97 [.int m27, .int (if v2 = (v1 - 1) then (-1) else (M.2.1 33) (v2 + 1).toNatClampNeg), .int (if v2 = 0 then (-1) else (M.2.1 33) (v2 - 1).toNatClampNeg), .int ((M.2.1 33) v2.toNatClampNeg), .ref (a 0), .int v2, .ref (a 34)] := by
            intro m27 em27
            rewrite [em27]; clear em27
            obtain ⟨q28, hp⟩ := hp
            refine z_cvi (c_X7_goes G a M ((M.2.1 33) v2.toNatClampNeg) (if v2 = 0 then (-1) else (M.2.1 33) (v2 - 1).toNatClampNeg) (if v2 = (v1 - 1) then (-1) else (M.2.1 33) (v2 + 1).toNatClampNeg) (if 0 ≤ ((M.1 38) - (M.1 37)) then (M.1 38) - (M.1 37) else 0) q28) zc_X7_goes zv_X7_goes tw_m_RX7_229 (mrec wr_P) wr_P (zroom_of rfl) rfl (Nat.le_of_ble_eq_true rfl) dX7_comes_97 ?_
            suffices z40 : ∀ y29 : Int32, y29 = ((v_X7_goes M ((M.2.1 33) v2.toNatClampNeg) (if v2 = 0 then (-1) else (M.2.1 33) (v2 - 1).toNatClampNeg) (if v2 = (v1 - 1) then (-1) else (M.2.1 33) (v2 + 1).toNatClampNeg) (if 0 ≤ ((M.1 38) - (M.1 37)) then (M.1 38) - (M.1 37) else 0))) → Z k_X7_comes G Γ (wr G A Γ.2.2.1.1.heap (mW G a M)) 0 0 [(5, .int ((M.1 38) - (M.1 37))), (4, .int (if v2 = (v1 - 1) then (-1) else (M.2.1 33) (v2 + 1).toNatClampNeg)), (3, .int (if v2 = 0 then (-1) else (M.2.1 33) (v2 - 1).toNatClampNeg)), (0, .ref (a 0)), (1, .int v1), (2, .int v2)] 100 [.int y29, .int v2, .ref (a 34)] from z40 _ rfl
            intro y29 hy29
            have hp := kk_pq hp hy29
            have hv := kk_vq hv hy29
            clear hy29
            obtain ⟨q30, hp⟩ := hp
            refine ms_34 (F := upd (M.2.1 34) v2.toNatClampNeg y29) q30 rfl dX7_comes_100 ?_
            refine z_aload_n dX7_comes_101 rfl ?_
            refine mg_34 wr_P rfl dX7_comes_102 ?_
            refine z_iload_n dX7_comes_105 rfl ?_
            obtain ⟨q31, hp⟩ := hp
            refine ml_34 (x := (upd (M.2.1 34) v2.toNatClampNeg y29) v2.toNatClampNeg) wr_P q31 rfl dX7_comes_106 ?_
            obtain ⟨hpm, hp⟩ := hp
            have J41 : ∀ M36 : mT, M36 = (if ((upd (M.2.1 34) v2.toNatClampNeg y29) v2.toNatClampNeg) = 0 then msf (msa M 34 (upd (M.2.1 34) v2.toNatClampNeg y29)) 37 ((M.1 37) + 1) else (if ((upd (M.2.1 34) v2.toNatClampNeg y29) v2.toNatClampNeg) = 1 then msf (msa M 34 (upd (M.2.1 34) v2.toNatClampNeg y29)) 38 ((M.1 38) + 1) else msf (msa M 34 (upd (M.2.1 34) v2.toNatClampNeg y29)) 39 ((M.1 39) + 1))) → Z k_X7_comes G Γ (wr G A Γ.2.2.1.1.heap (mW G a M36)) 0 0 [(5, .int ((M.1 38) - (M.1 37))), (4, .int (if v2 = (v1 - 1) then (-1) else (M.2.1 33) (v2 + 1).toNatClampNeg)), (3, .int (if v2 = 0 then (-1) else (M.2.1 33) (v2 - 1).toNatClampNeg)), (0, .ref (a 0)), (1, .int v1), (2, .int v2)] 156 [] := by
              intro M36 eM36
              have hp := kk_pq hp eM36
              have hv := kk_vq hv eM36
              clear eM36
              refine z_iinc (v := v2 + 1) (lv' := [(2, .int (v2 + 1)), (5, .int ((M.1 38) - (M.1 37))), (4, .int (if v2 = (v1 - 1) then (-1) else (M.2.1 33) (v2 + 1).toNatClampNeg)), (3, .int (if v2 = 0 then (-1) else (M.2.1 33) (v2 - 1).toNatClampNeg)), (0, .ref (a 0)), (1, .int v1)]) dX7_comes_156 5 rfl rfl (Nat.le_of_ble_eq_true rfl) rfl ?_
              refine z_goto (tgt := 17) dX7_comes_159 (by decide) ?_
              exact z_lv rfl ((ih) M36 v1 (v2 + 1) hp hv)
            refine z_if_ne (tgt := 123) dX7_comes_107 (by decide) (fun c32 => ?_) (fun c32 => ?_)
            · have hp := ip_f hpm c32
              refine z_aload_n dX7_comes_123 rfl ?_
              refine mg_34 wr_P rfl dX7_comes_124 ?_
              refine z_iload_n dX7_comes_127 rfl ?_
              have q33 := hp
              refine ml_34 (x := (upd (M.2.1 34) v2.toNatClampNeg y29) v2.toNatClampNeg) wr_P q33 rfl dX7_comes_128 ?_
              refine z_iconst (v := 1) dX7_comes_129 rfl ?_
              have J42 : ∀ M35 : mT, M35 = (if ((upd (M.2.1 34) v2.toNatClampNeg y29) v2.toNatClampNeg) = 1 then msf (msa M 34 (upd (M.2.1 34) v2.toNatClampNeg y29)) 38 ((M.1 38) + 1) else msf (msa M 34 (upd (M.2.1 34) v2.toNatClampNeg y29)) 39 ((M.1 39) + 1)) → Z k_X7_comes G Γ (wr G A Γ.2.2.1.1.heap (mW G a M35)) 0 0 [(5, .int ((M.1 38) - (M.1 37))), (4, .int (if v2 = (v1 - 1) then (-1) else (M.2.1 33) (v2 + 1).toNatClampNeg)), (3, .int (if v2 = 0 then (-1) else (M.2.1 33) (v2 - 1).toNatClampNeg)), (0, .ref (a 0)), (1, .int v1), (2, .int v2)] 156 [] := by
                intro M35 eM35
                rewrite [eM35]; clear eM35
                exact z_lv rfl (J41 _ (if_neg c32).symm)
              refine z_icmp_ne (tgt := 146) dX7_comes_130 (by decide) (fun c34 => ?_) (fun c34 => ?_)
              · skip
                refine z_aload_n dX7_comes_146 rfl ?_
                refine z_dup dX7_comes_147 rfl ?_
                refine mg_39 (v := M.1 39) wr_P rfl rfl dX7_comes_148 ?_
                refine z_iconst (v := 1) dX7_comes_151 rfl ?_
                refine z_iadd dX7_comes_152 ?_
                refine mp_39 (v := (M.1 39) + 1) rfl dX7_comes_153 ?_
                exact z_lv rfl (J42 _ (if_neg c34).symm)
              · skip
                refine z_aload_n dX7_comes_133 rfl ?_
                refine z_dup dX7_comes_134 rfl ?_
                refine mg_38 (v := M.1 38) wr_P rfl rfl dX7_comes_135 ?_
                refine z_iconst (v := 1) dX7_comes_138 rfl ?_
                refine z_iadd dX7_comes_139 ?_
                refine mp_38 (v := (M.1 38) + 1) rfl dX7_comes_140 ?_
                refine z_goto (tgt := 156) dX7_comes_143 (by decide) ?_
                exact z_lv rfl (J42 _ (if_pos c34).symm)
            · have hp := ip_t hpm c32
              refine z_aload_n dX7_comes_110 rfl ?_
              refine z_dup dX7_comes_111 rfl ?_
              refine mg_37 (v := M.1 37) wr_P rfl rfl dX7_comes_112 ?_
              refine z_iconst (v := 1) dX7_comes_115 rfl ?_
              refine z_iadd dX7_comes_116 ?_
              refine mp_37 (v := (M.1 37) + 1) rfl dX7_comes_117 ?_
              refine z_goto (tgt := 156) dX7_comes_120 (by decide) ?_
              exact z_lv rfl (J41 _ (if_pos c32).symm)
          refine z_if_ge (tgt := 95) dX7_comes_88 (by decide) (fun c26 => ?_) (fun c26 => ?_)
          · skip
            refine z_iload dX7_comes_95 rfl ?_
            exact z_lv rfl (J39 _ (if_pos c26).symm)
          · skip
            refine z_iconst (v := 0) dX7_comes_91 rfl ?_
            refine z_goto (tgt := 97) dX7_comes_92 (by decide) ?_
            exact z_lv rfl (J39 _ (if_neg c26).symm)
        refine z_icmp_ne (tgt := 50) dX7_comes_43 (by decide) (fun c22 => ?_) (fun c22 => ?_)
        · have hp := ip_f hpm c22
          refine z_aload_n dX7_comes_50 rfl ?_
          refine mg_33 wr_P rfl dX7_comes_51 ?_
          refine z_iload_n dX7_comes_54 rfl ?_
          refine z_iconst (v := 1) dX7_comes_55 rfl ?_
          refine z_iadd dX7_comes_56 ?_
          have q23 := hp
          refine ml_33 (x := (M.2.1 33) (v2 + 1).toNatClampNeg) wr_P q23 rfl dX7_comes_57 ?_
          exact z_lv rfl (J38 _ (if_neg c22).symm)
        · have hp := ip_t hpm c22
          refine z_iconst (v := (-1)) dX7_comes_46 rfl ?_
          refine z_goto (tgt := 58) dX7_comes_47 (by decide) ?_
          exact z_lv rfl (J38 _ (if_pos c22).symm)
      refine z_if_ne (tgt := 30) dX7_comes_23 (by decide) (fun c19 => ?_) (fun c19 => ?_)
      · have hp := ip_f hpm c19
        refine z_aload_n dX7_comes_30 rfl ?_
        refine mg_33 wr_P rfl dX7_comes_31 ?_
        refine z_iload_n dX7_comes_34 rfl ?_
        refine z_iconst (v := 1) dX7_comes_35 rfl ?_
        refine z_isub dX7_comes_36 ?_
        have q20 := hp
        refine ml_33 (x := (M.2.1 33) (v2 - 1).toNatClampNeg) wr_P q20 rfl dX7_comes_37 ?_
        exact z_lv rfl (J37 _ (if_neg c19).symm)
      · have hp := ip_t hpm c19
        refine z_iconst (v := (-1)) dX7_comes_26 rfl ?_
        refine z_goto (tgt := 38) dX7_comes_27 (by decide) ?_
        exact z_lv rfl (J37 _ (if_pos c19).symm)
def v_X7_comes (M : mT) (x1 : Int32) : mT := v_X7_comes_r 200 (msf (msf (msf M 37 0) 38 0) 39 0) x1 0
def p_X7_comes (M : mT) (x1 : Int32) : Prop := p_X7_comes_r 200 (msf (msf (msf M 37 0) 38 0) 39 0) x1 0
set_option maxHeartbeats 4000000 in
theorem c_X7_comes {l : Launch} (G : zG) (a : Nat → Nat) {X : zX} (hX : XOK X) (sz : Nat) (M : mT) (x1 : Int32) (hp : p_X7_comes M x1) : Met l yX7_comes (.code yX7_comes k_X7_comes.1 k_X7_comes.2.1 k_X7_comes.2.2.2.1 :: TS) k_X7_comes.2.2.2.2 (Pz G [.ref (a 0), .int x1] (Fw G X (mW G a M) sz)) (Qwv G (fun w => w = mW G a (v_X7_comes M x1)) (va_A (mW G a M) sz)) 0 0 (va_A (mW G a M) sz) := by
  refine zmet (by decide +kernel) rfl rfl (fun Γ hl0 hQ hN hF => ?_)
  refine z_start hX hF (fun hw => ?_)
  generalize va_A (mW G a M) sz = A at hQ hw ⊢
  obtain ⟨res, hv⟩ : ∃ res, v_X7_comes M x1 = res := ⟨_, rfl⟩
  rw [hv] at hQ
  unfold v_X7_comes at hv
  unfold p_X7_comes at hp
  show Z k_X7_comes G Γ _ 0 0 [(0, .ref (a 0)), (1, .int x1)] 0 []
  refine z_aload_n dX7_comes_0 rfl ?_
  refine z_iconst (v := 0) dX7_comes_1 rfl ?_
  refine mp_37 (v := 0) rfl dX7_comes_2 ?_
  refine z_aload_n dX7_comes_5 rfl ?_
  refine z_iconst (v := 0) dX7_comes_6 rfl ?_
  refine mp_38 (v := 0) rfl dX7_comes_7 ?_
  refine z_aload_n dX7_comes_10 rfl ?_
  refine z_iconst (v := 0) dX7_comes_11 rfl ?_
  refine mp_39 (v := 0) rfl dX7_comes_12 ?_
  refine z_iconst (v := 0) dX7_comes_15 rfl ?_
  refine z_istore_n (lv' := [(2, .int 0), (0, .ref (a 0)), (1, .int x1)]) dX7_comes_16 (Nat.le_of_ble_eq_true rfl) rfl ?_
  exact z_lv rfl ((w_X7_comes hw hQ 200) (msf (msf (msf M 37 0) 38 0) 39 0) x1 0 hp hv)
theorem dX7_setOf_0 : decode cX7_setOf 0 = .ok (.iconst 0, 1) := by decide +kernel
theorem dX7_setOf_1 : decode cX7_setOf 1 = .ok (.istore_n 3, 1) := by decide +kernel
theorem dX7_setOf_2 : decode cX7_setOf 2 = .ok (.iconst 0, 1) := by decide +kernel
theorem dX7_setOf_3 : decode cX7_setOf 3 = .ok (.istore 4, 2) := by decide +kernel
theorem dX7_setOf_5 : decode cX7_setOf 5 = .ok (.iload 4, 2) := by decide +kernel
theorem dX7_setOf_7 : decode cX7_setOf 7 = .ok (.iload_n 1, 1) := by decide +kernel
theorem dX7_setOf_8 : decode cX7_setOf 8 = .ok (.if_icmp .ge 32, 3) := by decide +kernel
theorem dX7_setOf_11 : decode cX7_setOf 11 = .ok (.aload_n 0, 1) := by decide +kernel
theorem dX7_setOf_12 : decode cX7_setOf 12 = .ok (.getfield 90, 3) := by decide +kernel
theorem dX7_setOf_15 : decode cX7_setOf 15 = .ok (.iload 4, 2) := by decide +kernel
theorem dX7_setOf_17 : decode cX7_setOf 17 = .ok (.iaload, 1) := by decide +kernel
theorem dX7_setOf_18 : decode cX7_setOf 18 = .ok (.iload_n 2, 1) := by decide +kernel
theorem dX7_setOf_19 : decode cX7_setOf 19 = .ok (.if_icmp .ne 15, 3) := by decide +kernel
theorem dX7_setOf_22 : decode cX7_setOf 22 = .ok (.iload_n 3, 1) := by decide +kernel
theorem dX7_setOf_23 : decode cX7_setOf 23 = .ok (.iconst 1, 1) := by decide +kernel
theorem dX7_setOf_24 : decode cX7_setOf 24 = .ok (.aload_n 0, 1) := by decide +kernel
theorem dX7_setOf_25 : decode cX7_setOf 25 = .ok (.getfield 87, 3) := by decide +kernel
theorem dX7_setOf_28 : decode cX7_setOf 28 = .ok (.iload 4, 2) := by decide +kernel
theorem dX7_setOf_30 : decode cX7_setOf 30 = .ok (.iaload, 1) := by decide +kernel
theorem dX7_setOf_31 : decode cX7_setOf 31 = .ok (.ishl, 1) := by decide +kernel
theorem dX7_setOf_32 : decode cX7_setOf 32 = .ok (.iadd, 1) := by decide +kernel
theorem dX7_setOf_33 : decode cX7_setOf 33 = .ok (.istore_n 3, 1) := by decide +kernel
theorem dX7_setOf_34 : decode cX7_setOf 34 = .ok (.iinc 4 1, 3) := by decide +kernel
theorem dX7_setOf_37 : decode cX7_setOf 37 = .ok (.goto (-32), 3) := by decide +kernel
theorem dX7_setOf_40 : decode cX7_setOf 40 = .ok (.iload_n 3, 1) := by decide +kernel
theorem dX7_setOf_41 : decode cX7_setOf 41 = .ok (.ireturn, 1) := by decide +kernel
abbrev k_X7_setOf : zK := (cX7_setOf, 5, RX7, (some .int), ({ frames := 0, cells := 0, slots := 0, locals := 0 } : Room))
theorem zc_X7_setOf : zcal yX7_setOf k_X7_setOf.1 k_X7_setOf.2.1 k_X7_setOf.2.2.2.1 2 := ⟨tw_code_yX7_setOf, tw_i_TollForHesitatorsModel, ⟨by decide +kernel, by decide +kernel⟩, by decide +kernel⟩
theorem zv_X7_setOf : Cond.instanceMethod yX7_setOf ∈ TS ∧ Cond.selects RX7 yX7_setOf yX7_setOf ∈ TS := ⟨tw_inst_yX7_setOf, tw_s_yX7_setOf⟩
def v_X7_setOf_r (M : mT) : Nat → Int32 → Int32 → Int32 → Int32 → Int32
  | 0, _, _, _, _ => 0
  | n + 1, v1, v2, v3, v4 => if v1 ≤ v4 then v3 else kk (if ((M.2.1 34) v4.toNatClampNeg) = v2 then v3 + (1 <<< (((M.2.1 33) v4.toNatClampNeg) &&& 31)) else v3) (fun m9 : Int32 => v_X7_setOf_r M n v1 v2 m9 (v4 + 1))
def p_X7_setOf_r (M : mT) : Nat → Int32 → Int32 → Int32 → Int32 → Prop
  | 0, _, _, _, _ => False
  | n + 1, v1, v2, v3, v4 => if v1 ≤ v4 then True else vp_in v4 7 ∧ ((if ((M.2.1 34) v4.toNatClampNeg) = v2 then vp_in v4 7 else True) ∧ (kk (if ((M.2.1 34) v4.toNatClampNeg) = v2 then v3 + (1 <<< (((M.2.1 33) v4.toNatClampNeg) &&& 31)) else v3) (fun m9 : Int32 => p_X7_setOf_r M n v1 v2 m9 (v4 + 1))))
set_option maxHeartbeats 4000000 in
theorem w_X7_setOf {G : zG} {Γ : zT} {a : Nat → Nat} {res : Int32} (M : mT) (hF : va_P G.2.1 CL (mW G a M) Γ.2.2.1.1.heap) (hQ : zQ Γ (vp_Si (fun r => r = res)) 0 0 (fun _ => False)) : ∀ n : Nat, (∀ (v1 : Int32) (v2 : Int32) (v3 : Int32) (v4 : Int32), p_X7_setOf_r M n v1 v2 v3 v4 → v_X7_setOf_r M n v1 v2 v3 v4 = res → Z k_X7_setOf G Γ (rd Γ.2.2.1.1.heap) 0 0 [(0, .ref (a 0)), (1, .int v1), (2, .int v2), (3, .int v3), (4, .int v4)] 5 []) := by
  have hI := rd_P (G := G) hF
  intro n
  induction n with
  | zero => exact fun v1 v2 v3 v4 hp => absurd hp (by rw [p_X7_setOf_r]; exact not_false)
  | succ n ih =>
    intro v1 v2 v3 v4 hp hv
    rw [p_X7_setOf_r] at hp
    rw [v_X7_setOf_r] at hv
    refine z_iload dX7_setOf_5 rfl ?_
    refine z_iload_n dX7_setOf_7 rfl ?_
    refine z_icmp_ge (tgt := 40) dX7_setOf_8 (by decide) (fun c1 => ?_) (fun c1 => ?_)
    · have hp := ip_t hp c1; have hv := it_t hv c1
      refine z_iload_n dX7_setOf_40 rfl ?_
      exact z_iret_S hQ rfl hv dX7_setOf_41
    · have hp := ip_f hp c1; have hv := it_f hv c1
      refine z_aload_n dX7_setOf_11 rfl ?_
      refine mg_34 hI rfl dX7_setOf_12 ?_
      refine z_iload dX7_setOf_15 rfl ?_
      obtain ⟨q6, hp⟩ := hp
      refine ml_34 (x := (M.2.1 34) v4.toNatClampNeg) hI q6 rfl dX7_setOf_17 ?_
      refine z_iload_n dX7_setOf_18 rfl ?_
      obtain ⟨hpm, hp⟩ := hp
      have J10 : ∀ m9 : Int32, m9 = (if ((M.2.1 34) v4.toNatClampNeg) = v2 then v3 + (1 <<< (((M.2.1 33) v4.toNatClampNeg) &&& 31)) else v3) → Z k_X7_setOf G Γ (rd Γ.2.2.1.1.heap) 0 0 [(3, .int m9), (0, .ref (a 0)), (1, .int v1), (2, .int v2), (4, .int v4)] 34 [] := by
        intro m9 em9
        have hp := kk_pq hp em9
        have hv := kk_vq hv em9
        clear em9
        refine z_iinc (v := v4 + 1) (lv' := [(4, .int (v4 + 1)), (3, .int m9), (0, .ref (a 0)), (1, .int v1), (2, .int v2)]) dX7_setOf_34 4 rfl rfl (Nat.le_of_ble_eq_true rfl) rfl ?_
        refine z_goto (tgt := 5) dX7_setOf_37 (by decide) ?_
        exact z_lv rfl ((ih) v1 v2 m9 (v4 + 1) hp hv)
      refine z_icmp_ne (tgt := 34) dX7_setOf_19 (by decide) (fun c7 => ?_) (fun c7 => ?_)
      · have hp := ip_f hpm c7
        exact z_lv rfl (J10 _ (if_neg c7).symm)
      · have hp := ip_t hpm c7
        refine z_iload_n dX7_setOf_22 rfl ?_
        refine z_iconst (v := 1) dX7_setOf_23 rfl ?_
        refine z_aload_n dX7_setOf_24 rfl ?_
        refine mg_33 hI rfl dX7_setOf_25 ?_
        refine z_iload dX7_setOf_28 rfl ?_
        have q8 := hp
        refine ml_33 (x := (M.2.1 33) v4.toNatClampNeg) hI q8 rfl dX7_setOf_30 ?_
        refine z_ishl dX7_setOf_31 ?_
        refine z_iadd dX7_setOf_32 ?_
        refine z_istore_n (lv' := [(3, .int (v3 + (1 <<< (((M.2.1 33) v4.toNatClampNeg) &&& 31)))), (0, .ref (a 0)), (1, .int v1), (2, .int v2), (4, .int v4)]) dX7_setOf_33 (Nat.le_of_ble_eq_true rfl) rfl ?_
        exact z_lv rfl (J10 _ (if_pos c7).symm)
def v_X7_setOf (M : mT) (x1 : Int32) (x2 : Int32) : Int32 := v_X7_setOf_r M 200 x1 x2 0 0
def p_X7_setOf (M : mT) (x1 : Int32) (x2 : Int32) : Prop := p_X7_setOf_r M 200 x1 x2 0 0
set_option maxHeartbeats 4000000 in
theorem c_X7_setOf {l : Launch} (G : zG) (a : Nat → Nat) (M : mT) (x1 : Int32) (x2 : Int32) (hp : p_X7_setOf M x1 x2) : Met l yX7_setOf (.code yX7_setOf k_X7_setOf.1 k_X7_setOf.2.1 k_X7_setOf.2.2.2.1 :: TS) k_X7_setOf.2.2.2.2 (Pz G [.ref (a 0), .int x1, .int x2] (va_P G.2.1 CL (mW G a M))) (vp_Si (fun r => r = v_X7_setOf M x1 x2)) 0 0 (fun _ => False) := by
  refine zmet (by decide +kernel) rfl rfl (fun Γ hl0 hQ hN hF => ?_)
  have hI := rd_P (G := G) hF
  obtain ⟨res, hv⟩ : ∃ res, v_X7_setOf M x1 x2 = res := ⟨_, rfl⟩
  rw [hv] at hQ
  unfold v_X7_setOf at hv
  unfold p_X7_setOf at hp
  show Z k_X7_setOf G Γ _ 0 0 [(0, .ref (a 0)), (1, .int x1), (2, .int x2)] 0 []
  refine z_iconst (v := 0) dX7_setOf_0 rfl ?_
  refine z_istore_n (lv' := [(3, .int 0), (0, .ref (a 0)), (1, .int x1), (2, .int x2)]) dX7_setOf_1 (Nat.le_of_ble_eq_true rfl) rfl ?_
  refine z_iconst (v := 0) dX7_setOf_2 rfl ?_
  refine z_istore (lv' := [(4, .int 0), (3, .int 0), (0, .ref (a 0)), (1, .int x1), (2, .int x2)]) dX7_setOf_3 (Nat.le_of_ble_eq_true rfl) rfl ?_
  exact z_lv rfl ((w_X7_setOf M hF hQ 200) x1 x2 0 0 hp hv)
theorem dX7_order_0 : decode cX7_order 0 = .ok (.aload_n 0, 1) := by decide +kernel
theorem dX7_order_1 : decode cX7_order 1 = .ok (.iload_n 1, 1) := by decide +kernel
theorem dX7_order_2 : decode cX7_order 2 = .ok (.invokevirtual 180, 3) := by decide +kernel
theorem dX7_order_5 : decode cX7_order 5 = .ok (.istore 4, 2) := by decide +kernel
theorem dX7_order_7 : decode cX7_order 7 = .ok (.iload 4, 2) := by decide +kernel
theorem dX7_order_9 : decode cX7_order 9 = .ok (.ifCond .ne 50, 3) := by decide +kernel
theorem dX7_order_12 : decode cX7_order 12 = .ok (.iload_n 2, 1) := by decide +kernel
theorem dX7_order_13 : decode cX7_order 13 = .ok (.ifCond .ge 8, 3) := by decide +kernel
theorem dX7_order_16 : decode cX7_order 16 = .ok (.bipush (-4), 2) := by decide +kernel
theorem dX7_order_18 : decode cX7_order 18 = .ok (.goto 39, 3) := by decide +kernel
theorem dX7_order_21 : decode cX7_order 21 = .ok (.iload_n 2, 1) := by decide +kernel
theorem dX7_order_22 : decode cX7_order 22 = .ok (.aload_n 0, 1) := by decide +kernel
theorem dX7_order_23 : decode cX7_order 23 = .ok (.getfield 56, 3) := by decide +kernel
theorem dX7_order_26 : decode cX7_order 26 = .ok (.iload_n 1, 1) := by decide +kernel
theorem dX7_order_27 : decode cX7_order 27 = .ok (.iaload, 1) := by decide +kernel
theorem dX7_order_28 : decode cX7_order 28 = .ok (.if_icmp .gt 12, 3) := by decide +kernel
theorem dX7_order_31 : decode cX7_order 31 = .ok (.iload_n 3, 1) := by decide +kernel
theorem dX7_order_32 : decode cX7_order 32 = .ok (.ifCond .lt 8, 3) := by decide +kernel
theorem dX7_order_35 : decode cX7_order 35 = .ok (.iload_n 3, 1) := by decide +kernel
theorem dX7_order_36 : decode cX7_order 36 = .ok (.iconst 5, 1) := by decide +kernel
theorem dX7_order_37 : decode cX7_order 37 = .ok (.if_icmp .le 8, 3) := by decide +kernel
theorem dX7_order_40 : decode cX7_order 40 = .ok (.bipush (-5), 2) := by decide +kernel
theorem dX7_order_42 : decode cX7_order 42 = .ok (.goto 15, 3) := by decide +kernel
theorem dX7_order_45 : decode cX7_order 45 = .ok (.iload_n 2, 1) := by decide +kernel
theorem dX7_order_46 : decode cX7_order 46 = .ok (.bipush 7, 2) := by decide +kernel
theorem dX7_order_48 : decode cX7_order 48 = .ok (.if_icmp .le 8, 3) := by decide +kernel
theorem dX7_order_51 : decode cX7_order 51 = .ok (.bipush (-6), 2) := by decide +kernel
theorem dX7_order_53 : decode cX7_order 53 = .ok (.goto 4, 3) := by decide +kernel
theorem dX7_order_56 : decode cX7_order 56 = .ok (.iconst 0, 1) := by decide +kernel
theorem dX7_order_57 : decode cX7_order 57 = .ok (.istore 4, 2) := by decide +kernel
theorem dX7_order_59 : decode cX7_order 59 = .ok (.iconst 0, 1) := by decide +kernel
theorem dX7_order_60 : decode cX7_order 60 = .ok (.istore 5, 2) := by decide +kernel
theorem dX7_order_62 : decode cX7_order 62 = .ok (.iconst 0, 1) := by decide +kernel
theorem dX7_order_63 : decode cX7_order 63 = .ok (.istore 6, 2) := by decide +kernel
theorem dX7_order_65 : decode cX7_order 65 = .ok (.iload 6, 2) := by decide +kernel
theorem dX7_order_67 : decode cX7_order 67 = .ok (.iload_n 2, 1) := by decide +kernel
theorem dX7_order_68 : decode cX7_order 68 = .ok (.if_icmp .ge 68, 3) := by decide +kernel
theorem dX7_order_71 : decode cX7_order 71 = .ok (.iload 4, 2) := by decide +kernel
theorem dX7_order_73 : decode cX7_order 73 = .ok (.ifCond .ne 63, 3) := by decide +kernel
theorem dX7_order_76 : decode cX7_order 76 = .ok (.aload_n 0, 1) := by decide +kernel
theorem dX7_order_77 : decode cX7_order 77 = .ok (.iload_n 1, 1) := by decide +kernel
theorem dX7_order_78 : decode cX7_order 78 = .ok (.iload 6, 2) := by decide +kernel
theorem dX7_order_80 : decode cX7_order 80 = .ok (.invokevirtual 233, 3) := by decide +kernel
theorem dX7_order_83 : decode cX7_order 83 = .ok (.istore 7, 2) := by decide +kernel
theorem dX7_order_85 : decode cX7_order 85 = .ok (.aload_n 0, 1) := by decide +kernel
theorem dX7_order_86 : decode cX7_order 86 = .ok (.iload 7, 2) := by decide +kernel
theorem dX7_order_88 : decode cX7_order 88 = .ok (.invokevirtual 110, 3) := by decide +kernel
theorem dX7_order_91 : decode cX7_order 91 = .ok (.ifCond .eq 14, 3) := by decide +kernel
theorem dX7_order_94 : decode cX7_order 94 = .ok (.iload 5, 2) := by decide +kernel
theorem dX7_order_96 : decode cX7_order 96 = .ok (.iload 7, 2) := by decide +kernel
theorem dX7_order_98 : decode cX7_order 98 = .ok (.ishr, 1) := by decide +kernel
theorem dX7_order_99 : decode cX7_order 99 = .ok (.iconst 1, 1) := by decide +kernel
theorem dX7_order_100 : decode cX7_order 100 = .ok (.iand, 1) := by decide +kernel
theorem dX7_order_101 : decode cX7_order 101 = .ok (.iconst 1, 1) := by decide +kernel
theorem dX7_order_102 : decode cX7_order 102 = .ok (.if_icmp .ne 10, 3) := by decide +kernel
theorem dX7_order_105 : decode cX7_order 105 = .ok (.bipush (-6), 2) := by decide +kernel
theorem dX7_order_107 : decode cX7_order 107 = .ok (.istore 4, 2) := by decide +kernel
theorem dX7_order_109 : decode cX7_order 109 = .ok (.goto 21, 3) := by decide +kernel
theorem dX7_order_112 : decode cX7_order 112 = .ok (.aload_n 0, 1) := by decide +kernel
theorem dX7_order_113 : decode cX7_order 113 = .ok (.getfield 87, 3) := by decide +kernel
theorem dX7_order_116 : decode cX7_order 116 = .ok (.iload 6, 2) := by decide +kernel
theorem dX7_order_118 : decode cX7_order 118 = .ok (.iload 7, 2) := by decide +kernel
theorem dX7_order_120 : decode cX7_order 120 = .ok (.iastore, 1) := by decide +kernel
theorem dX7_order_121 : decode cX7_order 121 = .ok (.iload 5, 2) := by decide +kernel
theorem dX7_order_123 : decode cX7_order 123 = .ok (.iconst 1, 1) := by decide +kernel
theorem dX7_order_124 : decode cX7_order 124 = .ok (.iload 7, 2) := by decide +kernel
theorem dX7_order_126 : decode cX7_order 126 = .ok (.ishl, 1) := by decide +kernel
theorem dX7_order_127 : decode cX7_order 127 = .ok (.iadd, 1) := by decide +kernel
theorem dX7_order_128 : decode cX7_order 128 = .ok (.istore 5, 2) := by decide +kernel
theorem dX7_order_130 : decode cX7_order 130 = .ok (.iinc 6 1, 3) := by decide +kernel
theorem dX7_order_133 : decode cX7_order 133 = .ok (.goto (-68), 3) := by decide +kernel
theorem dX7_order_136 : decode cX7_order 136 = .ok (.iload 4, 2) := by decide +kernel
theorem dX7_order_138 : decode cX7_order 138 = .ok (.ifCond .eq 10, 3) := by decide +kernel
theorem dX7_order_141 : decode cX7_order 141 = .ok (.aload_n 0, 1) := by decide +kernel
theorem dX7_order_142 : decode cX7_order 142 = .ok (.iload 4, 2) := by decide +kernel
theorem dX7_order_144 : decode cX7_order 144 = .ok (.invokevirtual 106, 3) := by decide +kernel
theorem dX7_order_147 : decode cX7_order 147 = .ok (.ireturn, 1) := by decide +kernel
theorem dX7_order_148 : decode cX7_order 148 = .ok (.aload_n 0, 1) := by decide +kernel
theorem dX7_order_149 : decode cX7_order 149 = .ok (.iload_n 2, 1) := by decide +kernel
theorem dX7_order_150 : decode cX7_order 150 = .ok (.invokevirtual 236, 3) := by decide +kernel
theorem dX7_order_153 : decode cX7_order 153 = .ok (.iload_n 3, 1) := by decide +kernel
theorem dX7_order_154 : decode cX7_order 154 = .ok (.tableswitch 55 0 3 #[30, 35, 40, 45], 30) := by decide +kernel
theorem dX7_order_184 : decode cX7_order 184 = .ok (.aload_n 0, 1) := by decide +kernel
theorem dX7_order_185 : decode cX7_order 185 = .ok (.getfield 220, 3) := by decide +kernel
theorem dX7_order_188 : decode cX7_order 188 = .ok (.ireturn, 1) := by decide +kernel
theorem dX7_order_189 : decode cX7_order 189 = .ok (.aload_n 0, 1) := by decide +kernel
theorem dX7_order_190 : decode cX7_order 190 = .ok (.getfield 223, 3) := by decide +kernel
theorem dX7_order_193 : decode cX7_order 193 = .ok (.ireturn, 1) := by decide +kernel
theorem dX7_order_194 : decode cX7_order 194 = .ok (.aload_n 0, 1) := by decide +kernel
theorem dX7_order_195 : decode cX7_order 195 = .ok (.getfield 226, 3) := by decide +kernel
theorem dX7_order_198 : decode cX7_order 198 = .ok (.ireturn, 1) := by decide +kernel
theorem dX7_order_199 : decode cX7_order 199 = .ok (.aload_n 0, 1) := by decide +kernel
theorem dX7_order_200 : decode cX7_order 200 = .ok (.getfield 223, 3) := by decide +kernel
theorem dX7_order_203 : decode cX7_order 203 = .ok (.aload_n 0, 1) := by decide +kernel
theorem dX7_order_204 : decode cX7_order 204 = .ok (.getfield 13, 3) := by decide +kernel
theorem dX7_order_207 : decode cX7_order 207 = .ok (.imul, 1) := by decide +kernel
theorem dX7_order_208 : decode cX7_order 208 = .ok (.ireturn, 1) := by decide +kernel
theorem dX7_order_209 : decode cX7_order 209 = .ok (.aload_n 0, 1) := by decide +kernel
theorem dX7_order_210 : decode cX7_order 210 = .ok (.iload_n 2, 1) := by decide +kernel
theorem dX7_order_211 : decode cX7_order 211 = .ok (.iload_n 3, 1) := by decide +kernel
theorem dX7_order_212 : decode cX7_order 212 = .ok (.iconst 3, 1) := by decide +kernel
theorem dX7_order_213 : decode cX7_order 213 = .ok (.isub, 1) := by decide +kernel
theorem dX7_order_214 : decode cX7_order 214 = .ok (.invokevirtual 240, 3) := by decide +kernel
theorem dX7_order_217 : decode cX7_order 217 = .ok (.ireturn, 1) := by decide +kernel
abbrev k_X7_order : zK := (cX7_order, 8, RX7, (some .int), ({ frames := 5, cells := 0, slots := 0, locals := 120 } : Room))
theorem zc_X7_order : zcal yX7_order k_X7_order.1 k_X7_order.2.1 k_X7_order.2.2.2.1 3 := ⟨tw_code_yX7_order, tw_i_TollForHesitatorsModel, ⟨by decide +kernel, by decide +kernel⟩, by decide +kernel⟩
theorem zv_X7_order : Cond.instanceMethod yX7_order ∈ TS ∧ Cond.selects RX7 yX7_order yX7_order ∈ TS := ⟨tw_inst_yX7_order, tw_s_yX7_order⟩
def v_X7_order_r : Nat → mT → Int32 → Int32 → Int32 → Int32 → Int32 → Int32 → Int32 × mT
  | 0, M, _, _, _, _, _, _ => (0, M)
  | n + 1, M, v1, v2, v3, v4, v5, v6 => if v2 ≤ v6 then if v4 = 0 then kk (v_X7_comes M v2) (fun q29 : mT => if v3 = 0 then (q29.1 37, q29) else if v3 = 1 then (q29.1 38, q29) else if v3 = 2 then (q29.1 39, q29) else if v3 = 3 then ((q29.1 38) * (q29.1 3), q29) else ((v_X7_setOf q29 v2 (v3 - 3)), q29)) else kk (v_X7_no M v4) (fun q36 : Int32 × mT => (q36.1, q36.2)) else if v4 = 0 then kk (if (v_X7_isComer M (v_X7_intAt M v1 v6)) = 0 then M else (if ((v5 >>> ((v_X7_intAt M v1 v6) &&& 31)) &&& 1) = 1 then M else msa M 33 (upd (M.2.1 33) v6.toNatClampNeg (v_X7_intAt M v1 v6)))) (fun M65 : mT => kk (if (v_X7_isComer M (v_X7_intAt M v1 v6)) = 0 then (-6) else (if ((v5 >>> ((v_X7_intAt M v1 v6) &&& 31)) &&& 1) = 1 then (-6) else v4)) (fun m66 : Int32 => kk (if (v_X7_isComer M (v_X7_intAt M v1 v6)) = 0 then v5 else (if ((v5 >>> ((v_X7_intAt M v1 v6) &&& 31)) &&& 1) = 1 then v5 else v5 + (1 <<< ((v_X7_intAt M v1 v6) &&& 31)))) (fun m67 : Int32 => v_X7_order_r n M65 v1 v2 v3 m66 m67 (v6 + 1)))) else if v4 = 0 then kk (v_X7_comes M v2) (fun q50 : mT => if v3 = 0 then (q50.1 37, q50) else if v3 = 1 then (q50.1 38, q50) else if v3 = 2 then (q50.1 39, q50) else if v3 = 3 then ((q50.1 38) * (q50.1 3), q50) else ((v_X7_setOf q50 v2 (v3 - 3)), q50)) else kk (v_X7_no M v4) (fun q57 : Int32 × mT => (q57.1, q57.2))
def p_X7_order_r : Nat → mT → Int32 → Int32 → Int32 → Int32 → Int32 → Int32 → Prop
  | 0, _, _, _, _, _, _, _ => False
  | n + 1, M, v1, v2, v3, v4, v5, v6 => if v2 ≤ v6 then if v4 = 0 then p_X7_comes M v2 ∧ (kk (v_X7_comes M v2) (fun q29 : mT => if v3 = 0 then True else if v3 = 1 then True else if v3 = 2 then True else if v3 = 3 then True else p_X7_setOf q29 v2 (v3 - 3))) else p_X7_no M v4 else if v4 = 0 then p_X7_intAt M v1 v6 ∧ ((if (v_X7_isComer M (v_X7_intAt M v1 v6)) = 0 then True else if ((v5 >>> ((v_X7_intAt M v1 v6) &&& 31)) &&& 1) = 1 then True else vp_in v6 7) ∧ (kk (if (v_X7_isComer M (v_X7_intAt M v1 v6)) = 0 then M else (if ((v5 >>> ((v_X7_intAt M v1 v6) &&& 31)) &&& 1) = 1 then M else msa M 33 (upd (M.2.1 33) v6.toNatClampNeg (v_X7_intAt M v1 v6)))) (fun M65 : mT => kk (if (v_X7_isComer M (v_X7_intAt M v1 v6)) = 0 then (-6) else (if ((v5 >>> ((v_X7_intAt M v1 v6) &&& 31)) &&& 1) = 1 then (-6) else v4)) (fun m66 : Int32 => kk (if (v_X7_isComer M (v_X7_intAt M v1 v6)) = 0 then v5 else (if ((v5 >>> ((v_X7_intAt M v1 v6) &&& 31)) &&& 1) = 1 then v5 else v5 + (1 <<< ((v_X7_intAt M v1 v6) &&& 31)))) (fun m67 : Int32 => p_X7_order_r n M65 v1 v2 v3 m66 m67 (v6 + 1)))))) else if v4 = 0 then p_X7_comes M v2 ∧ (kk (v_X7_comes M v2) (fun q50 : mT => if v3 = 0 then True else if v3 = 1 then True else if v3 = 2 then True else if v3 = 3 then True else p_X7_setOf q50 v2 (v3 - 3))) else p_X7_no M v4
set_option maxHeartbeats 4000000 in
theorem w_X7_order {G : zG} {Γ : zT} {a : Nat → Nat} {A : Nat → Prop} {res : Int32 × mT} {X : zX} (hw : wk X A Γ.2.2.1.1.heap) (hQ : zQ Γ (Qwi G (fun r w => r = res.1 ∧ w = mW G a res.2) A) 0 0 A) : ∀ n : Nat, (∀ (M : mT) (v1 : Int32) (v2 : Int32) (v3 : Int32) (v4 : Int32) (v5 : Int32) (v6 : Int32), p_X7_order_r n M v1 v2 v3 v4 v5 v6 → v_X7_order_r n M v1 v2 v3 v4 v5 v6 = res → Z k_X7_order G Γ (wr G A Γ.2.2.1.1.heap (mW G a M)) 0 0 [(0, .ref (a 0)), (1, .int v1), (2, .int v2), (3, .int v3), (4, .int v4), (5, .int v5), (6, .int v6)] 65 []) := by
  intro n
  induction n with
  | zero => exact fun M v1 v2 v3 v4 v5 v6 hp => absurd hp (by rw [p_X7_order_r]; exact not_false)
  | succ n ih =>
    intro M v1 v2 v3 v4 v5 v6 hp hv
    rw [p_X7_order_r] at hp
    rw [v_X7_order_r] at hv
    refine z_iload dX7_order_65 rfl ?_
    refine z_iload_n dX7_order_67 rfl ?_
    refine z_icmp_ge (tgt := 136) dX7_order_68 (by decide) (fun c15 => ?_) (fun c15 => ?_)
    · have hp := ip_t hp c15; have hv := it_t hv c15
      refine z_iload dX7_order_136 rfl ?_
      refine z_if_eq (tgt := 148) dX7_order_138 (by decide) (fun c27 => ?_) (fun c27 => ?_)
      · have hp := ip_t hp c27; have hv := it_t hv c27
        refine z_aload_n dX7_order_148 rfl ?_
        refine z_iload_n dX7_order_149 rfl ?_
        obtain ⟨q28, hp⟩ := hp
        refine z_cavvD hw (fun sz => c_X7_comes G a hw.1 sz M v2 q28) zc_X7_comes zv_X7_comes tw_m_RX7_236 (mrec wr_P) (zroom_of rfl) rfl (Nat.le_of_ble_eq_true rfl) dX7_order_150 ?_
        suffices z68 : ∀ q29 : mT, q29 = (v_X7_comes M v2) → Z k_X7_order G Γ (wr G A Γ.2.2.1.1.heap (mW G a q29)) 0 0 [(0, .ref (a 0)), (1, .int v1), (2, .int v2), (3, .int v3), (4, .int v4), (5, .int v5), (6, .int v6)] 153 [] from z68 _ rfl
        intro q29 hq29
        have hp := kk_pq hp hq29
        have hv := kk_vq hv hq29
        clear hq29
        refine z_iload_n dX7_order_153 rfl ?_
        by_cases c30 : v3 = 0
        · have hp := ip_t hp c30; have hv := it_t hv c30
          refine z_tableIn (tgt := 184) dX7_order_154 0 c30 (by decide) (by decide) rfl (by decide) ?_
          refine z_aload_n dX7_order_184 rfl ?_
          refine mg_37 (v := q29.1 37) wr_P rfl rfl dX7_order_185 ?_
          subst hv; exact z_iret_W hQ rfl rfl rfl ⟨rfl, rfl⟩ dX7_order_188
        have hp := ip_f hp c30
        have hv := it_f hv c30
        by_cases c31 : v3 = 1
        · have hp := ip_t hp c31; have hv := it_t hv c31
          refine z_tableIn (tgt := 189) dX7_order_154 1 c31 (by decide) (by decide) rfl (by decide) ?_
          refine z_aload_n dX7_order_189 rfl ?_
          refine mg_38 (v := q29.1 38) wr_P rfl rfl dX7_order_190 ?_
          subst hv; exact z_iret_W hQ rfl rfl rfl ⟨rfl, rfl⟩ dX7_order_193
        have hp := ip_f hp c31
        have hv := it_f hv c31
        by_cases c32 : v3 = 2
        · have hp := ip_t hp c32; have hv := it_t hv c32
          refine z_tableIn (tgt := 194) dX7_order_154 2 c32 (by decide) (by decide) rfl (by decide) ?_
          refine z_aload_n dX7_order_194 rfl ?_
          refine mg_39 (v := q29.1 39) wr_P rfl rfl dX7_order_195 ?_
          subst hv; exact z_iret_W hQ rfl rfl rfl ⟨rfl, rfl⟩ dX7_order_198
        have hp := ip_f hp c32
        have hv := it_f hv c32
        by_cases c33 : v3 = 3
        · have hp := ip_t hp c33; have hv := it_t hv c33
          refine z_tableIn (tgt := 199) dX7_order_154 3 c33 (by decide) (by decide) rfl (by decide) ?_
          refine z_aload_n dX7_order_199 rfl ?_
          refine mg_38 (v := q29.1 38) wr_P rfl rfl dX7_order_200 ?_
          refine z_aload_n dX7_order_203 rfl ?_
          refine mg_3 (v := q29.1 3) wr_P rfl rfl dX7_order_204 ?_
          refine z_imul dX7_order_207 ?_
          subst hv; exact z_iret_W hQ rfl rfl rfl ⟨rfl, rfl⟩ dX7_order_208
        have hp := ip_f hp c33
        have hv := it_f hv c33
        refine z_tableOut (tgt := 209) dX7_order_154 (zout4_0 c30 c31 c32 c33) (by decide) ?_
        refine z_aload_n dX7_order_209 rfl ?_
        refine z_iload_n dX7_order_210 rfl ?_
        refine z_iload_n dX7_order_211 rfl ?_
        refine z_iconst (v := 3) dX7_order_212 rfl ?_
        refine z_isub dX7_order_213 ?_
        have q34 := hp
        refine z_cvi (c_X7_setOf G a q29 v2 (v3 - 3) q34) zc_X7_setOf zv_X7_setOf tw_m_RX7_240 (mrec wr_P) wr_P (zroom_of rfl) rfl (Nat.le_of_ble_eq_true rfl) dX7_order_214 ?_
        subst hv; exact z_iret_W hQ rfl rfl rfl ⟨rfl, rfl⟩ dX7_order_217
      · have hp := ip_f hp c27; have hv := it_f hv c27
        refine z_aload_n dX7_order_141 rfl ?_
        refine z_iload dX7_order_142 rfl ?_
        have q35 := hp
        refine z_caviD hw (fun sz => c_X7_no G a hw.1 sz M v4 q35) zc_X7_no zv_X7_no tw_m_RX7_106 (mrec wr_P) (zroom_of rfl) rfl (Nat.le_of_ble_eq_true rfl) dX7_order_144 ?_
        suffices z69 : ∀ q36 : Int32 × mT, q36 = (v_X7_no M v4) → Z k_X7_order G Γ (wr G A Γ.2.2.1.1.heap (mW G a q36.2)) 0 0 [(0, .ref (a 0)), (1, .int v1), (2, .int v2), (3, .int v3), (4, .int v4), (5, .int v5), (6, .int v6)] 147 [.int q36.1] from z69 _ rfl
        intro q36 hq36
        have hv := kk_vq hv hq36
        clear hq36
        subst hv; exact z_iret_W hQ rfl rfl rfl ⟨rfl, rfl⟩ dX7_order_147
    · have hp := ip_f hp c15; have hv := it_f hv c15
      refine z_iload dX7_order_71 rfl ?_
      refine z_if_ne (tgt := 136) dX7_order_73 (by decide) (fun c37 => ?_) (fun c37 => ?_)
      · have hp := ip_f hp c37; have hv := it_f hv c37
        refine z_iload dX7_order_136 rfl ?_
        refine z_if_eq (tgt := 148) dX7_order_138 (by decide) (fun c48 => ?_) (fun c48 => ?_)
        · have hp := ip_t hp c48; have hv := it_t hv c48
          refine z_aload_n dX7_order_148 rfl ?_
          refine z_iload_n dX7_order_149 rfl ?_
          obtain ⟨q49, hp⟩ := hp
          refine z_cavvD hw (fun sz => c_X7_comes G a hw.1 sz M v2 q49) zc_X7_comes zv_X7_comes tw_m_RX7_236 (mrec wr_P) (zroom_of rfl) rfl (Nat.le_of_ble_eq_true rfl) dX7_order_150 ?_
          suffices z70 : ∀ q50 : mT, q50 = (v_X7_comes M v2) → Z k_X7_order G Γ (wr G A Γ.2.2.1.1.heap (mW G a q50)) 0 0 [(0, .ref (a 0)), (1, .int v1), (2, .int v2), (3, .int v3), (4, .int v4), (5, .int v5), (6, .int v6)] 153 [] from z70 _ rfl
          intro q50 hq50
          have hp := kk_pq hp hq50
          have hv := kk_vq hv hq50
          clear hq50
          refine z_iload_n dX7_order_153 rfl ?_
          by_cases c51 : v3 = 0
          · have hp := ip_t hp c51; have hv := it_t hv c51
            refine z_tableIn (tgt := 184) dX7_order_154 0 c51 (by decide) (by decide) rfl (by decide) ?_
            refine z_aload_n dX7_order_184 rfl ?_
            refine mg_37 (v := q50.1 37) wr_P rfl rfl dX7_order_185 ?_
            subst hv; exact z_iret_W hQ rfl rfl rfl ⟨rfl, rfl⟩ dX7_order_188
          have hp := ip_f hp c51
          have hv := it_f hv c51
          by_cases c52 : v3 = 1
          · have hp := ip_t hp c52; have hv := it_t hv c52
            refine z_tableIn (tgt := 189) dX7_order_154 1 c52 (by decide) (by decide) rfl (by decide) ?_
            refine z_aload_n dX7_order_189 rfl ?_
            refine mg_38 (v := q50.1 38) wr_P rfl rfl dX7_order_190 ?_
            subst hv; exact z_iret_W hQ rfl rfl rfl ⟨rfl, rfl⟩ dX7_order_193
          have hp := ip_f hp c52
          have hv := it_f hv c52
          by_cases c53 : v3 = 2
          · have hp := ip_t hp c53; have hv := it_t hv c53
            refine z_tableIn (tgt := 194) dX7_order_154 2 c53 (by decide) (by decide) rfl (by decide) ?_
            refine z_aload_n dX7_order_194 rfl ?_
            refine mg_39 (v := q50.1 39) wr_P rfl rfl dX7_order_195 ?_
            subst hv; exact z_iret_W hQ rfl rfl rfl ⟨rfl, rfl⟩ dX7_order_198
          have hp := ip_f hp c53
          have hv := it_f hv c53
          by_cases c54 : v3 = 3
          · have hp := ip_t hp c54; have hv := it_t hv c54
            refine z_tableIn (tgt := 199) dX7_order_154 3 c54 (by decide) (by decide) rfl (by decide) ?_
            refine z_aload_n dX7_order_199 rfl ?_
            refine mg_38 (v := q50.1 38) wr_P rfl rfl dX7_order_200 ?_
            refine z_aload_n dX7_order_203 rfl ?_
            refine mg_3 (v := q50.1 3) wr_P rfl rfl dX7_order_204 ?_
            refine z_imul dX7_order_207 ?_
            subst hv; exact z_iret_W hQ rfl rfl rfl ⟨rfl, rfl⟩ dX7_order_208
          have hp := ip_f hp c54
          have hv := it_f hv c54
          refine z_tableOut (tgt := 209) dX7_order_154 (zout4_0 c51 c52 c53 c54) (by decide) ?_
          refine z_aload_n dX7_order_209 rfl ?_
          refine z_iload_n dX7_order_210 rfl ?_
          refine z_iload_n dX7_order_211 rfl ?_
          refine z_iconst (v := 3) dX7_order_212 rfl ?_
          refine z_isub dX7_order_213 ?_
          have q55 := hp
          refine z_cvi (c_X7_setOf G a q50 v2 (v3 - 3) q55) zc_X7_setOf zv_X7_setOf tw_m_RX7_240 (mrec wr_P) wr_P (zroom_of rfl) rfl (Nat.le_of_ble_eq_true rfl) dX7_order_214 ?_
          subst hv; exact z_iret_W hQ rfl rfl rfl ⟨rfl, rfl⟩ dX7_order_217
        · have hp := ip_f hp c48; have hv := it_f hv c48
          refine z_aload_n dX7_order_141 rfl ?_
          refine z_iload dX7_order_142 rfl ?_
          have q56 := hp
          refine z_caviD hw (fun sz => c_X7_no G a hw.1 sz M v4 q56) zc_X7_no zv_X7_no tw_m_RX7_106 (mrec wr_P) (zroom_of rfl) rfl (Nat.le_of_ble_eq_true rfl) dX7_order_144 ?_
          suffices z71 : ∀ q57 : Int32 × mT, q57 = (v_X7_no M v4) → Z k_X7_order G Γ (wr G A Γ.2.2.1.1.heap (mW G a q57.2)) 0 0 [(0, .ref (a 0)), (1, .int v1), (2, .int v2), (3, .int v3), (4, .int v4), (5, .int v5), (6, .int v6)] 147 [.int q57.1] from z71 _ rfl
          intro q57 hq57
          have hv := kk_vq hv hq57
          clear hq57
          subst hv; exact z_iret_W hQ rfl rfl rfl ⟨rfl, rfl⟩ dX7_order_147
      · have hp := ip_t hp c37; have hv := it_t hv c37
        refine z_aload_n dX7_order_76 rfl ?_
        refine z_iload_n dX7_order_77 rfl ?_
        refine z_iload dX7_order_78 rfl ?_
        obtain ⟨q58, hp⟩ := hp
        refine z_cvi (c_X7_intAt G a M v1 v6 q58) zc_X7_intAt zv_X7_intAt tw_m_RX7_233 (mrec wr_P) wr_P (zroom_of rfl) rfl (Nat.le_of_ble_eq_true rfl) dX7_order_80 ?_
        refine z_istore (lv' := [(7, .int (v_X7_intAt M v1 v6)), (0, .ref (a 0)), (1, .int v1), (2, .int v2), (3, .int v3), (4, .int v4), (5, .int v5), (6, .int v6)]) dX7_order_83 (Nat.le_of_ble_eq_true rfl) rfl ?_
        refine z_aload_n dX7_order_85 rfl ?_
        refine z_iload dX7_order_86 rfl ?_
        refine z_cvi (c_X7_isComer G a M (v_X7_intAt M v1 v6) ) zc_X7_isComer zv_X7_isComer tw_m_RX7_110 (mrec wr_P) wr_P (zroom_of rfl) rfl (Nat.le_of_ble_eq_true rfl) dX7_order_88 ?_
        obtain ⟨hpm, hp⟩ := hp
        have J72 : ∀ M65 : mT, M65 = (if (v_X7_isComer M (v_X7_intAt M v1 v6)) = 0 then M else (if ((v5 >>> ((v_X7_intAt M v1 v6) &&& 31)) &&& 1) = 1 then M else msa M 33 (upd (M.2.1 33) v6.toNatClampNeg (v_X7_intAt M v1 v6)))) → ∀ m66 : Int32, m66 = (if (v_X7_isComer M (v_X7_intAt M v1 v6)) = 0 then (-6) else (if ((v5 >>> ((v_X7_intAt M v1 v6) &&& 31)) &&& 1) = 1 then (-6) else v4)) → ∀ m67 : Int32, m67 = (if (v_X7_isComer M (v_X7_intAt M v1 v6)) = 0 then v5 else (if ((v5 >>> ((v_X7_intAt M v1 v6) &&& 31)) &&& 1) = 1 then v5 else v5 + (1 <<< ((v_X7_intAt M v1 v6) &&& 31)))) → Z k_X7_order G Γ (wr G A Γ.2.2.1.1.heap (mW G a M65)) 0 0 [(4, .int m66), (7, .int (v_X7_intAt M v1 v6)), (0, .ref (a 0)), (1, .int v1), (2, .int v2), (3, .int v3), (5, .int m67), (6, .int v6)] 130 [] := by
          intro M65 eM65 m66 em66 m67 em67
          have hp := kk_pq hp eM65
          have hv := kk_vq hv eM65
          clear eM65
          have hp := kk_pq hp em66
          have hv := kk_vq hv em66
          clear em66
          have hp := kk_pq hp em67
          have hv := kk_vq hv em67
          clear em67
          refine z_iinc (v := v6 + 1) (lv' := [(6, .int (v6 + 1)), (4, .int m66), (7, .int (v_X7_intAt M v1 v6)), (0, .ref (a 0)), (1, .int v1), (2, .int v2), (3, .int v3), (5, .int m67)]) dX7_order_130 7 rfl rfl (Nat.le_of_ble_eq_true rfl) rfl ?_
          refine z_goto (tgt := 65) dX7_order_133 (by decide) ?_
          exact z_lv rfl ((ih) M65 v1 v2 v3 m66 m67 (v6 + 1) hp hv)
        refine z_if_eq (tgt := 105) dX7_order_91 (by decide) (fun c59 => ?_) (fun c59 => ?_)
        · have hp := ip_t hpm c59
          refine z_bipush (v := (-6)) dX7_order_105 rfl ?_
          refine z_istore (lv' := [(4, .int (-6)), (7, .int (v_X7_intAt M v1 v6)), (0, .ref (a 0)), (1, .int v1), (2, .int v2), (3, .int v3), (5, .int v5), (6, .int v6)]) dX7_order_107 (Nat.le_of_ble_eq_true rfl) rfl ?_
          refine z_goto (tgt := 130) dX7_order_109 (by decide) ?_
          exact z_lv rfl (J72 _ (if_pos c59).symm _ (if_pos c59).symm _ (if_pos c59).symm)
        · have hp := ip_f hpm c59
          refine z_iload dX7_order_94 rfl ?_
          refine z_iload dX7_order_96 rfl ?_
          refine z_ishr dX7_order_98 ?_
          refine z_iconst (v := 1) dX7_order_99 rfl ?_
          refine z_iand dX7_order_100 ?_
          refine z_iconst (v := 1) dX7_order_101 rfl ?_
          have hpm := hp
          have J73 : ∀ M62 : mT, M62 = (if ((v5 >>> ((v_X7_intAt M v1 v6) &&& 31)) &&& 1) = 1 then M else msa M 33 (upd (M.2.1 33) v6.toNatClampNeg (v_X7_intAt M v1 v6))) → ∀ m63 : Int32, m63 = (if ((v5 >>> ((v_X7_intAt M v1 v6) &&& 31)) &&& 1) = 1 then (-6) else v4) → ∀ m64 : Int32, m64 = (if ((v5 >>> ((v_X7_intAt M v1 v6) &&& 31)) &&& 1) = 1 then v5 else v5 + (1 <<< ((v_X7_intAt M v1 v6) &&& 31))) → Z k_X7_order G Γ (wr G A Γ.2.2.1.1.heap (mW G a M62)) 0 0 [(4, .int m63), (7, .int (v_X7_intAt M v1 v6)), (0, .ref (a 0)), (1, .int v1), (2, .int v2), (3, .int v3), (5, .int m64), (6, .int v6)] 130 [] := by
            intro M62 eM62 m63 em63 m64 em64
            rewrite [eM62]; clear eM62
            rewrite [em63]; clear em63
            rewrite [em64]; clear em64
            exact z_lv rfl (J72 _ (if_neg c59).symm _ (if_neg c59).symm _ (if_neg c59).symm)
          refine z_icmp_ne (tgt := 112) dX7_order_102 (by decide) (fun c60 => ?_) (fun c60 => ?_)
          · have hp := ip_f hpm c60
            refine z_aload_n dX7_order_112 rfl ?_
            refine mg_33 wr_P rfl dX7_order_113 ?_
            refine z_iload dX7_order_116 rfl ?_
            refine z_iload dX7_order_118 rfl ?_
            have q61 := hp
            refine ms_33 (F := upd (M.2.1 33) v6.toNatClampNeg (v_X7_intAt M v1 v6)) q61 rfl dX7_order_120 ?_
            refine z_iload dX7_order_121 rfl ?_
            refine z_iconst (v := 1) dX7_order_123 rfl ?_
            refine z_iload dX7_order_124 rfl ?_
            refine z_ishl dX7_order_126 ?_
            refine z_iadd dX7_order_127 ?_
            refine z_istore (lv' := [(5, .int (v5 + (1 <<< ((v_X7_intAt M v1 v6) &&& 31)))), (7, .int (v_X7_intAt M v1 v6)), (0, .ref (a 0)), (1, .int v1), (2, .int v2), (3, .int v3), (4, .int v4), (6, .int v6)]) dX7_order_128 (Nat.le_of_ble_eq_true rfl) rfl ?_
            exact z_lv rfl (J73 _ (if_neg c60).symm _ (if_neg c60).symm _ (if_neg c60).symm)
          · have hp := ip_t hpm c60
            refine z_bipush (v := (-6)) dX7_order_105 rfl ?_
            refine z_istore (lv' := [(4, .int (-6)), (7, .int (v_X7_intAt M v1 v6)), (0, .ref (a 0)), (1, .int v1), (2, .int v2), (3, .int v3), (5, .int v5), (6, .int v6)]) dX7_order_107 (Nat.le_of_ble_eq_true rfl) rfl ?_
            refine z_goto (tgt := 130) dX7_order_109 (by decide) ?_
            exact z_lv rfl (J73 _ (if_pos c60).symm _ (if_pos c60).symm _ (if_pos c60).symm)
def v_X7_order (M : mT) (x1 : Int32) (x2 : Int32) (x3 : Int32) : Int32 × mT := kk (if (v_X7_wanted M x1) = 0 then (if 0 ≤ x2 then (if ((M.2.1 18) x1.toNatClampNeg) < x2 then (-5) else (if x3 < 0 then (-5) else (if x3 ≤ 5 then (if x2 ≤ 7 then 0 else (-6)) else (-5)))) else (-4)) else (v_X7_wanted M x1)) (fun m14 : Int32 => v_X7_order_r 200 M x1 x2 x3 m14 0 0)
def p_X7_order (M : mT) (x1 : Int32) (x2 : Int32) (x3 : Int32) : Prop := p_X7_wanted M x1 ∧ ((if (v_X7_wanted M x1) = 0 then if 0 ≤ x2 then vp_in x1 8 else True else True) ∧ (kk (if (v_X7_wanted M x1) = 0 then (if 0 ≤ x2 then (if ((M.2.1 18) x1.toNatClampNeg) < x2 then (-5) else (if x3 < 0 then (-5) else (if x3 ≤ 5 then (if x2 ≤ 7 then 0 else (-6)) else (-5)))) else (-4)) else (v_X7_wanted M x1)) (fun m14 : Int32 => p_X7_order_r 200 M x1 x2 x3 m14 0 0)))
set_option maxHeartbeats 4000000 in
theorem c_X7_order {l : Launch} (G : zG) (a : Nat → Nat) {X : zX} (hX : XOK X) (sz : Nat) (M : mT) (x1 : Int32) (x2 : Int32) (x3 : Int32) (hp : p_X7_order M x1 x2 x3) : Met l yX7_order (.code yX7_order k_X7_order.1 k_X7_order.2.1 k_X7_order.2.2.2.1 :: TS) k_X7_order.2.2.2.2 (Pz G [.ref (a 0), .int x1, .int x2, .int x3] (Fw G X (mW G a M) sz)) (Qwi G (fun r w => r = (v_X7_order M x1 x2 x3).1 ∧ w = mW G a (v_X7_order M x1 x2 x3).2) (va_A (mW G a M) sz)) 0 0 (va_A (mW G a M) sz) := by
  refine zmet (by decide +kernel) rfl rfl (fun Γ hl0 hQ hN hF => ?_)
  refine z_start hX hF (fun hw => ?_)
  generalize va_A (mW G a M) sz = A at hQ hw ⊢
  obtain ⟨res, hv⟩ : ∃ res, v_X7_order M x1 x2 x3 = res := ⟨_, rfl⟩
  rw [hv] at hQ
  unfold v_X7_order at hv
  unfold p_X7_order at hp
  show Z k_X7_order G Γ _ 0 0 [(0, .ref (a 0)), (1, .int x1), (2, .int x2), (3, .int x3)] 0 []
  refine z_aload_n dX7_order_0 rfl ?_
  refine z_iload_n dX7_order_1 rfl ?_
  obtain ⟨q1, hp⟩ := hp
  refine z_cvi (c_X7_wanted G a M x1 q1) zc_X7_wanted zv_X7_wanted tw_m_RX7_180 (mrec wr_P) wr_P (zroom_of rfl) rfl (Nat.le_of_ble_eq_true rfl) dX7_order_2 ?_
  refine z_istore (lv' := [(4, .int (v_X7_wanted M x1)), (0, .ref (a 0)), (1, .int x1), (2, .int x2), (3, .int x3)]) dX7_order_5 (Nat.le_of_ble_eq_true rfl) rfl ?_
  refine z_iload dX7_order_7 rfl ?_
  obtain ⟨hpm, hp⟩ := hp
  have J74 : ∀ m14 : Int32, m14 = (if (v_X7_wanted M x1) = 0 then (if 0 ≤ x2 then (if ((M.2.1 18) x1.toNatClampNeg) < x2 then (-5) else (if x3 < 0 then (-5) else (if x3 ≤ 5 then (if x2 ≤ 7 then 0 else (-6)) else (-5)))) else (-4)) else (v_X7_wanted M x1)) → Z k_X7_order G Γ (wr G A Γ.2.2.1.1.heap (mW G a M)) 0 0 [(4, .int m14), (0, .ref (a 0)), (1, .int x1), (2, .int x2), (3, .int x3)] 59 [] := by
    intro m14 em14
    have hp := kk_pq hp em14
    have hv := kk_vq hv em14
    clear em14
    refine z_iconst (v := 0) dX7_order_59 rfl ?_
    refine z_istore (lv' := [(5, .int 0), (4, .int m14), (0, .ref (a 0)), (1, .int x1), (2, .int x2), (3, .int x3)]) dX7_order_60 (Nat.le_of_ble_eq_true rfl) rfl ?_
    refine z_iconst (v := 0) dX7_order_62 rfl ?_
    refine z_istore (lv' := [(6, .int 0), (5, .int 0), (4, .int m14), (0, .ref (a 0)), (1, .int x1), (2, .int x2), (3, .int x3)]) dX7_order_63 (Nat.le_of_ble_eq_true rfl) rfl ?_
    exact z_lv rfl ((w_X7_order hw hQ 200) M x1 x2 x3 m14 0 0 hp hv)
  refine z_if_ne (tgt := 59) dX7_order_9 (by decide) (fun c2 => ?_) (fun c2 => ?_)
  · have hp := ip_f hpm c2
    exact z_lv rfl (J74 _ (if_neg c2).symm)
  · have hp := ip_t hpm c2
    refine z_iload_n dX7_order_12 rfl ?_
    have hpm := hp
    have J75 : ∀ m13 : Int32, m13 = (if 0 ≤ x2 then (if ((M.2.1 18) x1.toNatClampNeg) < x2 then (-5) else (if x3 < 0 then (-5) else (if x3 ≤ 5 then (if x2 ≤ 7 then 0 else (-6)) else (-5)))) else (-4)) → Z k_X7_order G Γ (wr G A Γ.2.2.1.1.heap (mW G a M)) 0 0 [(4, .int (v_X7_wanted M x1)), (0, .ref (a 0)), (1, .int x1), (2, .int x2), (3, .int x3)] 57 [.int m13] := by
      intro m13 em13
      rewrite [em13]; clear em13
      refine z_istore (lv' := [(4, .int (if 0 ≤ x2 then (if ((M.2.1 18) x1.toNatClampNeg) < x2 then (-5) else (if x3 < 0 then (-5) else (if x3 ≤ 5 then (if x2 ≤ 7 then 0 else (-6)) else (-5)))) else (-4))), (0, .ref (a 0)), (1, .int x1), (2, .int x2), (3, .int x3)]) dX7_order_57 (Nat.le_of_ble_eq_true rfl) rfl ?_
      exact z_lv rfl (J74 _ (if_pos c2).symm)
    refine z_if_ge (tgt := 21) dX7_order_13 (by decide) (fun c3 => ?_) (fun c3 => ?_)
    · have hp := ip_t hpm c3
      refine z_iload_n dX7_order_21 rfl ?_
      refine z_aload_n dX7_order_22 rfl ?_
      refine mg_18 wr_P rfl dX7_order_23 ?_
      refine z_iload_n dX7_order_26 rfl ?_
      have q4 := hp
      refine ml_18 (x := (M.2.1 18) x1.toNatClampNeg) wr_P q4 rfl dX7_order_27 ?_
      have J76 : ∀ m12 : Int32, m12 = (if ((M.2.1 18) x1.toNatClampNeg) < x2 then (-5) else (if x3 < 0 then (-5) else (if x3 ≤ 5 then (if x2 ≤ 7 then 0 else (-6)) else (-5)))) → Z k_X7_order G Γ (wr G A Γ.2.2.1.1.heap (mW G a M)) 0 0 [(4, .int (v_X7_wanted M x1)), (0, .ref (a 0)), (1, .int x1), (2, .int x2), (3, .int x3)] 57 [.int m12] := by
        intro m12 em12
        rewrite [em12]; clear em12
        exact z_lv rfl (J75 _ (if_pos c3).symm)
      refine z_icmp_gt (tgt := 40) dX7_order_28 (by decide) (fun c5 => ?_) (fun c5 => ?_)
      · skip
        refine z_bipush (v := (-5)) dX7_order_40 rfl ?_
        refine z_goto (tgt := 57) dX7_order_42 (by decide) ?_
        exact z_lv rfl (J76 _ (if_pos c5).symm)
      · skip
        refine z_iload_n dX7_order_31 rfl ?_
        have J77 : ∀ m11 : Int32, m11 = (if x3 < 0 then (-5) else (if x3 ≤ 5 then (if x2 ≤ 7 then 0 else (-6)) else (-5))) → Z k_X7_order G Γ (wr G A Γ.2.2.1.1.heap (mW G a M)) 0 0 [(4, .int (v_X7_wanted M x1)), (0, .ref (a 0)), (1, .int x1), (2, .int x2), (3, .int x3)] 57 [.int m11] := by
          intro m11 em11
          rewrite [em11]; clear em11
          exact z_lv rfl (J76 _ (if_neg c5).symm)
        refine z_if_lt (tgt := 40) dX7_order_32 (by decide) (fun c6 => ?_) (fun c6 => ?_)
        · skip
          refine z_bipush (v := (-5)) dX7_order_40 rfl ?_
          refine z_goto (tgt := 57) dX7_order_42 (by decide) ?_
          exact z_lv rfl (J77 _ (if_pos c6).symm)
        · skip
          refine z_iload_n dX7_order_35 rfl ?_
          refine z_iconst (v := 5) dX7_order_36 rfl ?_
          have J78 : ∀ m10 : Int32, m10 = (if x3 ≤ 5 then (if x2 ≤ 7 then 0 else (-6)) else (-5)) → Z k_X7_order G Γ (wr G A Γ.2.2.1.1.heap (mW G a M)) 0 0 [(4, .int (v_X7_wanted M x1)), (0, .ref (a 0)), (1, .int x1), (2, .int x2), (3, .int x3)] 57 [.int m10] := by
            intro m10 em10
            rewrite [em10]; clear em10
            exact z_lv rfl (J77 _ (if_neg c6).symm)
          refine z_icmp_le (tgt := 45) dX7_order_37 (by decide) (fun c7 => ?_) (fun c7 => ?_)
          · skip
            refine z_iload_n dX7_order_45 rfl ?_
            refine z_bipush (v := 7) dX7_order_46 rfl ?_
            have J79 : ∀ m9 : Int32, m9 = (if x2 ≤ 7 then 0 else (-6)) → Z k_X7_order G Γ (wr G A Γ.2.2.1.1.heap (mW G a M)) 0 0 [(4, .int (v_X7_wanted M x1)), (0, .ref (a 0)), (1, .int x1), (2, .int x2), (3, .int x3)] 57 [.int m9] := by
              intro m9 em9
              rewrite [em9]; clear em9
              exact z_lv rfl (J78 _ (if_pos c7).symm)
            refine z_icmp_le (tgt := 56) dX7_order_48 (by decide) (fun c8 => ?_) (fun c8 => ?_)
            · skip
              refine z_iconst (v := 0) dX7_order_56 rfl ?_
              exact z_lv rfl (J79 _ (if_pos c8).symm)
            · skip
              refine z_bipush (v := (-6)) dX7_order_51 rfl ?_
              refine z_goto (tgt := 57) dX7_order_53 (by decide) ?_
              exact z_lv rfl (J79 _ (if_neg c8).symm)
          · skip
            refine z_bipush (v := (-5)) dX7_order_40 rfl ?_
            refine z_goto (tgt := 57) dX7_order_42 (by decide) ?_
            exact z_lv rfl (J78 _ (if_neg c7).symm)
    · have hp := ip_f hpm c3
      refine z_bipush (v := (-4)) dX7_order_16 rfl ?_
      refine z_goto (tgt := 57) dX7_order_18 (by decide) ?_
      exact z_lv rfl (J75 _ (if_neg c3).symm)
