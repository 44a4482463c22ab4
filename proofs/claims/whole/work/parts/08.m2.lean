theorem dX7_isAsked_0 : decode cX7_isAsked 0 = .ok (.iload_n 1, 1) := by decide +kernel
theorem dX7_isAsked_1 : decode cX7_isAsked 1 = .ok (.ifCond .ne 14, 3) := by decide +kernel
theorem dX7_isAsked_4 : decode cX7_isAsked 4 = .ok (.aload_n 0, 1) := by decide +kernel
theorem dX7_isAsked_5 : decode cX7_isAsked 5 = .ok (.iload_n 2, 1) := by decide +kernel
theorem dX7_isAsked_6 : decode cX7_isAsked 6 = .ok (.iconst 1, 1) := by decide +kernel
theorem dX7_isAsked_7 : decode cX7_isAsked 7 = .ok (.bipush 20, 2) := by decide +kernel
theorem dX7_isAsked_9 : decode cX7_isAsked 9 = .ok (.invokevirtual 116, 3) := by decide +kernel
theorem dX7_isAsked_12 : decode cX7_isAsked 12 = .ok (.goto 27, 3) := by decide +kernel
theorem dX7_isAsked_15 : decode cX7_isAsked 15 = .ok (.iload_n 1, 1) := by decide +kernel
theorem dX7_isAsked_16 : decode cX7_isAsked 16 = .ok (.iconst 1, 1) := by decide +kernel
theorem dX7_isAsked_17 : decode cX7_isAsked 17 = .ok (.if_icmp .ne 14, 3) := by decide +kernel
theorem dX7_isAsked_20 : decode cX7_isAsked 20 = .ok (.aload_n 0, 1) := by decide +kernel
theorem dX7_isAsked_21 : decode cX7_isAsked 21 = .ok (.iload_n 2, 1) := by decide +kernel
theorem dX7_isAsked_22 : decode cX7_isAsked 22 = .ok (.iconst 0, 1) := by decide +kernel
theorem dX7_isAsked_23 : decode cX7_isAsked 23 = .ok (.bipush 9, 2) := by decide +kernel
theorem dX7_isAsked_25 : decode cX7_isAsked 25 = .ok (.invokevirtual 116, 3) := by decide +kernel
theorem dX7_isAsked_28 : decode cX7_isAsked 28 = .ok (.goto 11, 3) := by decide +kernel
theorem dX7_isAsked_31 : decode cX7_isAsked 31 = .ok (.aload_n 0, 1) := by decide +kernel
theorem dX7_isAsked_32 : decode cX7_isAsked 32 = .ok (.iload_n 2, 1) := by decide +kernel
theorem dX7_isAsked_33 : decode cX7_isAsked 33 = .ok (.iconst 1, 1) := by decide +kernel
theorem dX7_isAsked_34 : decode cX7_isAsked 34 = .ok (.bipush 99, 2) := by decide +kernel
theorem dX7_isAsked_36 : decode cX7_isAsked 36 = .ok (.invokevirtual 116, 3) := by decide +kernel
theorem dX7_isAsked_39 : decode cX7_isAsked 39 = .ok (.ireturn, 1) := by decide +kernel
abbrev k_X7_isAsked : zK := (cX7_isAsked, 3, RX7, (some .boolean), ({ frames := 1, cells := 0, slots := 0, locals := 23 } : Room))
theorem zc_X7_isAsked : zcal yX7_isAsked k_X7_isAsked.1 k_X7_isAsked.2.1 k_X7_isAsked.2.2.2.1 2 := ⟨tw_code_yX7_isAsked, tw_i_TollForHesitatorsModel, ⟨by decide +kernel, by decide +kernel⟩, by decide +kernel⟩
theorem zv_X7_isAsked : Cond.instanceMethod yX7_isAsked ∈ TS ∧ Cond.selects RX7 yX7_isAsked yX7_isAsked ∈ TS := ⟨tw_inst_yX7_isAsked, tw_s_yX7_isAsked⟩
def v_X7_isAsked (M : mT) (x1 : Int32) (x2 : Int32) : Int32 := (if x1 = 0 then (v_X7_isFrom M x2 1 20) else (if x1 = 1 then (v_X7_isFrom M x2 0 9) else (v_X7_isFrom M x2 1 99)))
theorem nb_X7_isAsked (M : mT) (x1 : Int32) (x2 : Int32) : narrow .boolean (.int (v_X7_isAsked M x1 x2)) = .int (v_X7_isAsked M x1 x2) := by
  unfold v_X7_isAsked
  skip
  (repeat' (first | with_reducible exact nz0 | with_reducible exact nz1 | with_reducible assumption | with_reducible exact nb_X7_isFrom .. | split))
set_option maxHeartbeats 4000000 in
theorem c_X7_isAsked {l : Launch} (G : zG) (a : Nat → Nat) (M : mT) (x1 : Int32) (x2 : Int32) : Met l yX7_isAsked (.code yX7_isAsked k_X7_isAsked.1 k_X7_isAsked.2.1 k_X7_isAsked.2.2.2.1 :: TS) k_X7_isAsked.2.2.2.2 (Pz G [.ref (a 0), .int x1, .int x2] (va_P G.2.1 CL (mW G a M))) (vp_Si (fun r => r = v_X7_isAsked M x1 x2)) 0 0 (fun _ => False) := by
  refine zmet (by decide +kernel) rfl rfl (fun Γ hl0 hQ hN hF => ?_)
  have hI := rd_P (G := G) hF
  obtain ⟨res, hv⟩ : ∃ res, v_X7_isAsked M x1 x2 = res := ⟨_, rfl⟩
  rw [hv] at hQ
  unfold v_X7_isAsked at hv
  show Z k_X7_isAsked G Γ _ 0 0 [(0, .ref (a 0)), (1, .int x1), (2, .int x2)] 0 []
  refine z_iload_n dX7_isAsked_0 rfl ?_
  have J5 : ∀ m4 : Int32, m4 = (if x1 = 0 then (v_X7_isFrom M x2 1 20) else (if x1 = 1 then (v_X7_isFrom M x2 0 9) else (v_X7_isFrom M x2 1 99))) → Z k_X7_isAsked G Γ (rd Γ.2.2.1.1.heap) 0 0 [(0, .ref (a 0)), (1, .int x1), (2, .int x2)] 39 [.int m4] := by
    intro m4 em4
    rewrite [em4]; clear em4
    exact z_zret_S hQ rfl (by (repeat' (first | with_reducible exact nz0 | with_reducible exact nz1 | with_reducible assumption | with_reducible exact nb_X7_isFrom .. | split))) hv dX7_isAsked_39
  refine z_if_ne (tgt := 15) dX7_isAsked_1 (by decide) (fun c1 => ?_) (fun c1 => ?_)
  · skip
    refine z_iload_n dX7_isAsked_15 rfl ?_
    refine z_iconst (v := 1) dX7_isAsked_16 rfl ?_
    have J6 : ∀ m3 : Int32, m3 = (if x1 = 1 then (v_X7_isFrom M x2 0 9) else (v_X7_isFrom M x2 1 99)) → Z k_X7_isAsked G Γ (rd Γ.2.2.1.1.heap) 0 0 [(0, .ref (a 0)), (1, .int x1), (2, .int x2)] 39 [.int m3] := by
      intro m3 em3
      rewrite [em3]; clear em3
      exact z_lv rfl (J5 _ (if_neg c1).symm)
    refine z_icmp_ne (tgt := 31) dX7_isAsked_17 (by decide) (fun c2 => ?_) (fun c2 => ?_)
    · skip
      refine z_aload_n dX7_isAsked_31 rfl ?_
      refine z_iload_n dX7_isAsked_32 rfl ?_
      refine z_iconst (v := 1) dX7_isAsked_33 rfl ?_
      refine z_bipush (v := 99) dX7_isAsked_34 rfl ?_
      refine z_cvi (c_X7_isFrom G a M x2 1 99 ) zc_X7_isFrom zv_X7_isFrom tw_m_RX7_116 (mrec hI) hI (zroom_of rfl) rfl (Nat.le_of_ble_eq_true rfl) dX7_isAsked_36 ?_
      exact z_lv rfl (J6 _ (if_neg c2).symm)
    · skip
      refine z_aload_n dX7_isAsked_20 rfl ?_
      refine z_iload_n dX7_isAsked_21 rfl ?_
      refine z_iconst (v := 0) dX7_isAsked_22 rfl ?_
      refine z_bipush (v := 9) dX7_isAsked_23 rfl ?_
      refine z_cvi (c_X7_isFrom G a M x2 0 9 ) zc_X7_isFrom zv_X7_isFrom tw_m_RX7_116 (mrec hI) hI (zroom_of rfl) rfl (Nat.le_of_ble_eq_true rfl) dX7_isAsked_25 ?_
      refine z_goto (tgt := 39) dX7_isAsked_28 (by decide) ?_
      exact z_lv rfl (J6 _ (if_pos c2).symm)
  · skip
    refine z_aload_n dX7_isAsked_4 rfl ?_
    refine z_iload_n dX7_isAsked_5 rfl ?_
    refine z_iconst (v := 1) dX7_isAsked_6 rfl ?_
    refine z_bipush (v := 20) dX7_isAsked_7 rfl ?_
    refine z_cvi (c_X7_isFrom G a M x2 1 20 ) zc_X7_isFrom zv_X7_isFrom tw_m_RX7_116 (mrec hI) hI (zroom_of rfl) rfl (Nat.le_of_ble_eq_true rfl) dX7_isAsked_9 ?_
    refine z_goto (tgt := 39) dX7_isAsked_12 (by decide) ?_
    exact z_lv rfl (J5 _ (if_pos c1).symm)
theorem dX7_asked_0 : decode cX7_asked 0 = .ok (.iload_n 1, 1) := by decide +kernel
theorem dX7_asked_1 : decode cX7_asked 1 = .ok (.ifCond .ne 10, 3) := by decide +kernel
theorem dX7_asked_4 : decode cX7_asked 4 = .ok (.aload_n 0, 1) := by decide +kernel
theorem dX7_asked_5 : decode cX7_asked 5 = .ok (.getfield 7, 3) := by decide +kernel
theorem dX7_asked_8 : decode cX7_asked 8 = .ok (.goto 31, 3) := by decide +kernel
theorem dX7_asked_11 : decode cX7_asked 11 = .ok (.iload_n 1, 1) := by decide +kernel
theorem dX7_asked_12 : decode cX7_asked 12 = .ok (.iconst 1, 1) := by decide +kernel
theorem dX7_asked_13 : decode cX7_asked 13 = .ok (.if_icmp .ne 10, 3) := by decide +kernel
theorem dX7_asked_16 : decode cX7_asked 16 = .ok (.aload_n 0, 1) := by decide +kernel
theorem dX7_asked_17 : decode cX7_asked 17 = .ok (.getfield 124, 3) := by decide +kernel
theorem dX7_asked_20 : decode cX7_asked 20 = .ok (.goto 19, 3) := by decide +kernel
theorem dX7_asked_23 : decode cX7_asked 23 = .ok (.iload_n 1, 1) := by decide +kernel
theorem dX7_asked_24 : decode cX7_asked 24 = .ok (.iconst 2, 1) := by decide +kernel
theorem dX7_asked_25 : decode cX7_asked 25 = .ok (.if_icmp .ne 10, 3) := by decide +kernel
theorem dX7_asked_28 : decode cX7_asked 28 = .ok (.aload_n 0, 1) := by decide +kernel
theorem dX7_asked_29 : decode cX7_asked 29 = .ok (.getfield 13, 3) := by decide +kernel
theorem dX7_asked_32 : decode cX7_asked 32 = .ok (.goto 7, 3) := by decide +kernel
theorem dX7_asked_35 : decode cX7_asked 35 = .ok (.aload_n 0, 1) := by decide +kernel
theorem dX7_asked_36 : decode cX7_asked 36 = .ok (.getfield 16, 3) := by decide +kernel
theorem dX7_asked_39 : decode cX7_asked 39 = .ok (.ireturn, 1) := by decide +kernel
abbrev k_X7_asked : zK := (cX7_asked, 2, RX7, (some .int), ({ frames := 0, cells := 0, slots := 0, locals := 0 } : Room))
theorem zc_X7_asked : zcal yX7_asked k_X7_asked.1 k_X7_asked.2.1 k_X7_asked.2.2.2.1 1 := ⟨tw_code_yX7_asked, tw_i_TollForHesitatorsModel, ⟨by decide +kernel, by decide +kernel⟩, by decide +kernel⟩
theorem zv_X7_asked : Cond.instanceMethod yX7_asked ∈ TS ∧ Cond.selects RX7 yX7_asked yX7_asked ∈ TS := ⟨tw_inst_yX7_asked, tw_s_yX7_asked⟩
def v_X7_asked (M : mT) (x1 : Int32) : Int32 := (if x1 = 0 then M.1 1 else (if x1 = 1 then M.1 2 else (if x1 = 2 then M.1 3 else M.1 4)))
set_option maxHeartbeats 4000000 in
theorem c_X7_asked {l : Launch} (G : zG) (a : Nat → Nat) (M : mT) (x1 : Int32) : Met l yX7_asked (.code yX7_asked k_X7_asked.1 k_X7_asked.2.1 k_X7_asked.2.2.2.1 :: TS) k_X7_asked.2.2.2.2 (Pz G [.ref (a 0), .int x1] (va_P G.2.1 CL (mW G a M))) (vp_Si (fun r => r = v_X7_asked M x1)) 0 0 (fun _ => False) := by
  refine zmet (by decide +kernel) rfl rfl (fun Γ hl0 hQ hN hF => ?_)
  have hI := rd_P (G := G) hF
  obtain ⟨res, hv⟩ : ∃ res, v_X7_asked M x1 = res := ⟨_, rfl⟩
  rw [hv] at hQ
  unfold v_X7_asked at hv
  show Z k_X7_asked G Γ _ 0 0 [(0, .ref (a 0)), (1, .int x1)] 0 []
  refine z_iload_n dX7_asked_0 rfl ?_
  have J7 : ∀ m6 : Int32, m6 = (if x1 = 0 then M.1 1 else (if x1 = 1 then M.1 2 else (if x1 = 2 then M.1 3 else M.1 4))) → Z k_X7_asked G Γ (rd Γ.2.2.1.1.heap) 0 0 [(0, .ref (a 0)), (1, .int x1)] 39 [.int m6] := by
    intro m6 em6
    rewrite [em6]; clear em6
    exact z_iret_S hQ rfl hv dX7_asked_39
  refine z_if_ne (tgt := 11) dX7_asked_1 (by decide) (fun c1 => ?_) (fun c1 => ?_)
  · skip
    refine z_iload_n dX7_asked_11 rfl ?_
    refine z_iconst (v := 1) dX7_asked_12 rfl ?_
    have J8 : ∀ m5 : Int32, m5 = (if x1 = 1 then M.1 2 else (if x1 = 2 then M.1 3 else M.1 4)) → Z k_X7_asked G Γ (rd Γ.2.2.1.1.heap) 0 0 [(0, .ref (a 0)), (1, .int x1)] 39 [.int m5] := by
      intro m5 em5
      rewrite [em5]; clear em5
      exact z_lv rfl (J7 _ (if_neg c1).symm)
    refine z_icmp_ne (tgt := 23) dX7_asked_13 (by decide) (fun c2 => ?_) (fun c2 => ?_)
    · skip
      refine z_iload_n dX7_asked_23 rfl ?_
      refine z_iconst (v := 2) dX7_asked_24 rfl ?_
      have J9 : ∀ m4 : Int32, m4 = (if x1 = 2 then M.1 3 else M.1 4) → Z k_X7_asked G Γ (rd Γ.2.2.1.1.heap) 0 0 [(0, .ref (a 0)), (1, .int x1)] 39 [.int m4] := by
        intro m4 em4
        rewrite [em4]; clear em4
        exact z_lv rfl (J8 _ (if_neg c2).symm)
      refine z_icmp_ne (tgt := 35) dX7_asked_25 (by decide) (fun c3 => ?_) (fun c3 => ?_)
      · skip
        refine z_aload_n dX7_asked_35 rfl ?_
        refine mg_4 (v := M.1 4) hI rfl rfl dX7_asked_36 ?_
        exact z_lv rfl (J9 _ (if_neg c3).symm)
      · skip
        refine z_aload_n dX7_asked_28 rfl ?_
        refine mg_3 (v := M.1 3) hI rfl rfl dX7_asked_29 ?_
        refine z_goto (tgt := 39) dX7_asked_32 (by decide) ?_
        exact z_lv rfl (J9 _ (if_pos c3).symm)
    · skip
      refine z_aload_n dX7_asked_16 rfl ?_
      refine mg_2 (v := M.1 2) hI rfl rfl dX7_asked_17 ?_
      refine z_goto (tgt := 39) dX7_asked_20 (by decide) ?_
      exact z_lv rfl (J8 _ (if_pos c2).symm)
  · skip
    refine z_aload_n dX7_asked_4 rfl ?_
    refine mg_1 (v := M.1 1) hI rfl rfl dX7_asked_5 ?_
    refine z_goto (tgt := 39) dX7_asked_8 (by decide) ?_
    exact z_lv rfl (J7 _ (if_pos c1).symm)
theorem dX7_asks_0 : decode cX7_asks 0 = .ok (.iload_n 1, 1) := by decide +kernel
theorem dX7_asks_1 : decode cX7_asks 1 = .ok (.ifCond .ne 11, 3) := by decide +kernel
theorem dX7_asks_4 : decode cX7_asks 4 = .ok (.aload_n 0, 1) := by decide +kernel
theorem dX7_asks_5 : decode cX7_asks 5 = .ok (.iload_n 2, 1) := by decide +kernel
theorem dX7_asks_6 : decode cX7_asks 6 = .ok (.putfield 7, 3) := by decide +kernel
theorem dX7_asks_9 : decode cX7_asks 9 = .ok (.goto 34, 3) := by decide +kernel
theorem dX7_asks_12 : decode cX7_asks 12 = .ok (.iload_n 1, 1) := by decide +kernel
theorem dX7_asks_13 : decode cX7_asks 13 = .ok (.iconst 1, 1) := by decide +kernel
theorem dX7_asks_14 : decode cX7_asks 14 = .ok (.if_icmp .ne 11, 3) := by decide +kernel
theorem dX7_asks_17 : decode cX7_asks 17 = .ok (.aload_n 0, 1) := by decide +kernel
theorem dX7_asks_18 : decode cX7_asks 18 = .ok (.iload_n 2, 1) := by decide +kernel
theorem dX7_asks_19 : decode cX7_asks 19 = .ok (.putfield 124, 3) := by decide +kernel
theorem dX7_asks_22 : decode cX7_asks 22 = .ok (.goto 21, 3) := by decide +kernel
theorem dX7_asks_25 : decode cX7_asks 25 = .ok (.iload_n 1, 1) := by decide +kernel
theorem dX7_asks_26 : decode cX7_asks 26 = .ok (.iconst 2, 1) := by decide +kernel
theorem dX7_asks_27 : decode cX7_asks 27 = .ok (.if_icmp .ne 11, 3) := by decide +kernel
theorem dX7_asks_30 : decode cX7_asks 30 = .ok (.aload_n 0, 1) := by decide +kernel
theorem dX7_asks_31 : decode cX7_asks 31 = .ok (.iload_n 2, 1) := by decide +kernel
theorem dX7_asks_32 : decode cX7_asks 32 = .ok (.putfield 13, 3) := by decide +kernel
theorem dX7_asks_35 : decode cX7_asks 35 = .ok (.goto 8, 3) := by decide +kernel
theorem dX7_asks_38 : decode cX7_asks 38 = .ok (.aload_n 0, 1) := by decide +kernel
theorem dX7_asks_39 : decode cX7_asks 39 = .ok (.iload_n 2, 1) := by decide +kernel
theorem dX7_asks_40 : decode cX7_asks 40 = .ok (.putfield 16, 3) := by decide +kernel
theorem dX7_asks_43 : decode cX7_asks 43 = .ok (.return_, 1) := by decide +kernel
abbrev k_X7_asks : zK := (cX7_asks, 3, RX7, none, ({ frames := 0, cells := 0, slots := 0, locals := 0 } : Room))
theorem zc_X7_asks : zcal yX7_asks k_X7_asks.1 k_X7_asks.2.1 k_X7_asks.2.2.2.1 2 := ⟨tw_code_yX7_asks, tw_i_TollForHesitatorsModel, ⟨by decide +kernel, by decide +kernel⟩, by decide +kernel⟩
theorem zv_X7_asks : Cond.instanceMethod yX7_asks ∈ TS ∧ Cond.selects RX7 yX7_asks yX7_asks ∈ TS := ⟨tw_inst_yX7_asks, tw_s_yX7_asks⟩
def v_X7_asks (M : mT) (x1 : Int32) (x2 : Int32) : mT := kk (if x1 = 0 then msf M 1 x2 else (if x1 = 1 then msf M 2 x2 else (if x1 = 2 then msf M 3 x2 else msf M 4 x2))) (fun M6 : mT => M6)
set_option maxHeartbeats 4000000 in
theorem c_X7_asks {l : Launch} (G : zG) (a : Nat → Nat) {X : zX} (hX : XOK X) (sz : Nat) (M : mT) (x1 : Int32) (x2 : Int32) : Met l yX7_asks (.code yX7_asks k_X7_asks.1 k_X7_asks.2.1 k_X7_asks.2.2.2.1 :: TS) k_X7_asks.2.2.2.2 (Pz G [.ref (a 0), .int x1, .int x2] (Fw G X (mW G a M) sz)) (Qwv G (fun w => w = mW G a (v_X7_asks M x1 x2)) (va_A (mW G a M) sz)) 0 0 (va_A (mW G a M) sz) := by
  refine zmet (by decide +kernel) rfl rfl (fun Γ hl0 hQ hN hF => ?_)
  refine z_start hX hF (fun hw => ?_)
  generalize va_A (mW G a M) sz = A at hQ hw ⊢
  obtain ⟨res, hv⟩ : ∃ res, v_X7_asks M x1 x2 = res := ⟨_, rfl⟩
  rw [hv] at hQ
  unfold v_X7_asks at hv
  show Z k_X7_asks G Γ _ 0 0 [(0, .ref (a 0)), (1, .int x1), (2, .int x2)] 0 []
  refine z_iload_n dX7_asks_0 rfl ?_
  have J7 : ∀ M6 : mT, M6 = (if x1 = 0 then msf M 1 x2 else (if x1 = 1 then msf M 2 x2 else (if x1 = 2 then msf M 3 x2 else msf M 4 x2))) → Z k_X7_asks G Γ (wr G A Γ.2.2.1.1.heap (mW G a M6)) 0 0 [(0, .ref (a 0)), (1, .int x1), (2, .int x2)] 43 [] := by
    intro M6 eM6
    have hv := kk_vq hv eM6
    clear eM6
    subst hv; exact z_vret_W hQ rfl rfl rfl rfl dX7_asks_43
  refine z_if_ne (tgt := 12) dX7_asks_1 (by decide) (fun c1 => ?_) (fun c1 => ?_)
  · skip
    refine z_iload_n dX7_asks_12 rfl ?_
    refine z_iconst (v := 1) dX7_asks_13 rfl ?_
    have J8 : ∀ M5 : mT, M5 = (if x1 = 1 then msf M 2 x2 else (if x1 = 2 then msf M 3 x2 else msf M 4 x2)) → Z k_X7_asks G Γ (wr G A Γ.2.2.1.1.heap (mW G a M5)) 0 0 [(0, .ref (a 0)), (1, .int x1), (2, .int x2)] 43 [] := by
      intro M5 eM5
      rewrite [eM5]; clear eM5
      exact z_lv rfl (J7 _ (if_neg c1).symm)
    refine z_icmp_ne (tgt := 25) dX7_asks_14 (by decide) (fun c2 => ?_) (fun c2 => ?_)
    · skip
      refine z_iload_n dX7_asks_25 rfl ?_
      refine z_iconst (v := 2) dX7_asks_26 rfl ?_
      have J9 : ∀ M4 : mT, M4 = (if x1 = 2 then msf M 3 x2 else msf M 4 x2) → Z k_X7_asks G Γ (wr G A Γ.2.2.1.1.heap (mW G a M4)) 0 0 [(0, .ref (a 0)), (1, .int x1), (2, .int x2)] 43 [] := by
        intro M4 eM4
        rewrite [eM4]; clear eM4
        exact z_lv rfl (J8 _ (if_neg c2).symm)
      refine z_icmp_ne (tgt := 38) dX7_asks_27 (by decide) (fun c3 => ?_) (fun c3 => ?_)
      · skip
        refine z_aload_n dX7_asks_38 rfl ?_
        refine z_iload_n dX7_asks_39 rfl ?_
        refine mp_4 (v := x2) rfl dX7_asks_40 ?_
        exact z_lv rfl (J9 _ (if_neg c3).symm)
      · skip
        refine z_aload_n dX7_asks_30 rfl ?_
        refine z_iload_n dX7_asks_31 rfl ?_
        refine mp_3 (v := x2) rfl dX7_asks_32 ?_
        refine z_goto (tgt := 43) dX7_asks_35 (by decide) ?_
        exact z_lv rfl (J9 _ (if_pos c3).symm)
    · skip
      refine z_aload_n dX7_asks_17 rfl ?_
      refine z_iload_n dX7_asks_18 rfl ?_
      refine mp_2 (v := x2) rfl dX7_asks_19 ?_
      refine z_goto (tgt := 43) dX7_asks_22 (by decide) ?_
      exact z_lv rfl (J8 _ (if_pos c2).symm)
  · skip
    refine z_aload_n dX7_asks_4 rfl ?_
    refine z_iload_n dX7_asks_5 rfl ?_
    refine mp_1 (v := x2) rfl dX7_asks_6 ?_
    refine z_goto (tgt := 43) dX7_asks_9 (by decide) ?_
    exact z_lv rfl (J7 _ (if_pos c1).symm)
theorem dX7_ask_0 : decode cX7_ask 0 = .ok (.iload_n 1, 1) := by decide +kernel
theorem dX7_ask_1 : decode cX7_ask 1 = .ok (.ifCond .lt 17, 3) := by decide +kernel
theorem dX7_ask_4 : decode cX7_ask 4 = .ok (.iload_n 1, 1) := by decide +kernel
theorem dX7_ask_5 : decode cX7_ask 5 = .ok (.iconst 3, 1) := by decide +kernel
theorem dX7_ask_6 : decode cX7_ask 6 = .ok (.if_icmp .gt 12, 3) := by decide +kernel
theorem dX7_ask_9 : decode cX7_ask 9 = .ok (.aload_n 0, 1) := by decide +kernel
theorem dX7_ask_10 : decode cX7_ask 10 = .ok (.iload_n 1, 1) := by decide +kernel
theorem dX7_ask_11 : decode cX7_ask 11 = .ok (.iload_n 2, 1) := by decide +kernel
theorem dX7_ask_12 : decode cX7_ask 12 = .ok (.invokevirtual 127, 3) := by decide +kernel
theorem dX7_ask_15 : decode cX7_ask 15 = .ok (.ifCond .ne 10, 3) := by decide +kernel
theorem dX7_ask_18 : decode cX7_ask 18 = .ok (.aload_n 0, 1) := by decide +kernel
theorem dX7_ask_19 : decode cX7_ask 19 = .ok (.bipush (-6), 2) := by decide +kernel
theorem dX7_ask_21 : decode cX7_ask 21 = .ok (.invokevirtual 106, 3) := by decide +kernel
theorem dX7_ask_24 : decode cX7_ask 24 = .ok (.ireturn, 1) := by decide +kernel
theorem dX7_ask_25 : decode cX7_ask 25 = .ok (.aload_n 0, 1) := by decide +kernel
theorem dX7_ask_26 : decode cX7_ask 26 = .ok (.iload_n 1, 1) := by decide +kernel
theorem dX7_ask_27 : decode cX7_ask 27 = .ok (.invokevirtual 131, 3) := by decide +kernel
theorem dX7_ask_30 : decode cX7_ask 30 = .ok (.istore_n 3, 1) := by decide +kernel
theorem dX7_ask_31 : decode cX7_ask 31 = .ok (.aload_n 0, 1) := by decide +kernel
theorem dX7_ask_32 : decode cX7_ask 32 = .ok (.iload_n 1, 1) := by decide +kernel
theorem dX7_ask_33 : decode cX7_ask 33 = .ok (.iload_n 2, 1) := by decide +kernel
theorem dX7_ask_34 : decode cX7_ask 34 = .ok (.invokevirtual 134, 3) := by decide +kernel
theorem dX7_ask_37 : decode cX7_ask 37 = .ok (.iload_n 3, 1) := by decide +kernel
theorem dX7_ask_38 : decode cX7_ask 38 = .ok (.ireturn, 1) := by decide +kernel
abbrev k_X7_ask : zK := (cX7_ask, 4, RX7, (some .int), ({ frames := 2, cells := 0, slots := 0, locals := 45 } : Room))
theorem zc_X7_ask : zcal yX7_ask k_X7_ask.1 k_X7_ask.2.1 k_X7_ask.2.2.2.1 2 := ⟨tw_code_yX7_ask, tw_i_TollForHesitatorsModel, ⟨by decide +kernel, by decide +kernel⟩, by decide +kernel⟩
theorem zv_X7_ask : Cond.instanceMethod yX7_ask ∈ TS ∧ Cond.selects RX7 yX7_ask yX7_ask ∈ TS := ⟨tw_inst_yX7_ask, tw_s_yX7_ask⟩
def v_X7_ask (M : mT) (x1 : Int32) (x2 : Int32) : Int32 × mT := if x1 < 0 then kk (v_X7_no M (-6)) (fun q3 : Int32 × mT => (q3.1, q3.2)) else if 3 < x1 then kk (v_X7_no M (-6)) (fun q6 : Int32 × mT => (q6.1, q6.2)) else if (v_X7_isAsked M x1 x2) = 0 then kk (v_X7_no M (-6)) (fun q10 : Int32 × mT => (q10.1, q10.2)) else kk (v_X7_asks M x1 x2) (fun q8 : mT => ((v_X7_asked M x1), q8))
def p_X7_ask (M : mT) (x1 : Int32) (x2 : Int32) : Prop := if x1 < 0 then p_X7_no M (-6) else if 3 < x1 then p_X7_no M (-6) else if (v_X7_isAsked M x1 x2) = 0 then p_X7_no M (-6) else True
set_option maxHeartbeats 4000000 in
theorem c_X7_ask {l : Launch} (G : zG) (a : Nat → Nat) {X : zX} (hX : XOK X) (sz : Nat) (M : mT) (x1 : Int32) (x2 : Int32) (hp : p_X7_ask M x1 x2) : Met l yX7_ask (.code yX7_ask k_X7_ask.1 k_X7_ask.2.1 k_X7_ask.2.2.2.1 :: TS) k_X7_ask.2.2.2.2 (Pz G [.ref (a 0), .int x1, .int x2] (Fw G X (mW G a M) sz)) (Qwi G (fun r w => r = (v_X7_ask M x1 x2).1 ∧ w = mW G a (v_X7_ask M x1 x2).2) (va_A (mW G a M) sz)) 0 0 (va_A (mW G a M) sz) := by
  refine zmet (by decide +kernel) rfl rfl (fun Γ hl0 hQ hN hF => ?_)
  refine z_start hX hF (fun hw => ?_)
  generalize va_A (mW G a M) sz = A at hQ hw ⊢
  obtain ⟨res, hv⟩ : ∃ res, v_X7_ask M x1 x2 = res := ⟨_, rfl⟩
  rw [hv] at hQ
  unfold v_X7_ask at hv
  unfold p_X7_ask at hp
  show Z k_X7_ask G Γ _ 0 0 [(0, .ref (a 0)), (1, .int x1), (2, .int x2)] 0 []
  refine z_iload_n dX7_ask_0 rfl ?_
  refine z_if_lt (tgt := 18) dX7_ask_1 (by decide) (fun c1 => ?_) (fun c1 => ?_)
  · have hp := ip_t hp c1; have hv := it_t hv c1
    refine z_aload_n dX7_ask_18 rfl ?_
    refine z_bipush (v := (-6)) dX7_ask_19 rfl ?_
    have q2 := hp
    refine z_caviD hw (fun sz => c_X7_no G a hw.1 sz M (-6) q2) zc_X7_no zv_X7_no tw_m_RX7_106 (mrec wr_P) (zroom_of rfl) rfl (Nat.le_of_ble_eq_true rfl) dX7_ask_21 ?_
    suffices z11 : ∀ q3 : Int32 × mT, q3 = (v_X7_no M (-6)) → Z k_X7_ask G Γ (wr G A Γ.2.2.1.1.heap (mW G a q3.2)) 0 0 [(0, .ref (a 0)), (1, .int x1), (2, .int x2)] 24 [.int q3.1] from z11 _ rfl
    intro q3 hq3
    have hv := kk_vq hv hq3
    clear hq3
    subst hv; exact z_iret_W hQ rfl rfl rfl ⟨rfl, rfl⟩ dX7_ask_24
  · have hp := ip_f hp c1; have hv := it_f hv c1
    refine z_iload_n dX7_ask_4 rfl ?_
    refine z_iconst (v := 3) dX7_ask_5 rfl ?_
    refine z_icmp_gt (tgt := 18) dX7_ask_6 (by decide) (fun c4 => ?_) (fun c4 => ?_)
    · have hp := ip_t hp c4; have hv := it_t hv c4
      refine z_aload_n dX7_ask_18 rfl ?_
      refine z_bipush (v := (-6)) dX7_ask_19 rfl ?_
      have q5 := hp
      refine z_caviD hw (fun sz => c_X7_no G a hw.1 sz M (-6) q5) zc_X7_no zv_X7_no tw_m_RX7_106 (mrec wr_P) (zroom_of rfl) rfl (Nat.le_of_ble_eq_true rfl) dX7_ask_21 ?_
      suffices z12 : ∀ q6 : Int32 × mT, q6 = (v_X7_no M (-6)) → Z k_X7_ask G Γ (wr G A Γ.2.2.1.1.heap (mW G a q6.2)) 0 0 [(0, .ref (a 0)), (1, .int x1), (2, .int x2)] 24 [.int q6.1] from z12 _ rfl
      intro q6 hq6
      have hv := kk_vq hv hq6
      clear hq6
      subst hv; exact z_iret_W hQ rfl rfl rfl ⟨rfl, rfl⟩ dX7_ask_24
    · have hp := ip_f hp c4; have hv := it_f hv c4
      refine z_aload_n dX7_ask_9 rfl ?_
      refine z_iload_n dX7_ask_10 rfl ?_
      refine z_iload_n dX7_ask_11 rfl ?_
      refine z_cvi (c_X7_isAsked G a M x1 x2 ) zc_X7_isAsked zv_X7_isAsked tw_m_RX7_127 (mrec wr_P) wr_P (zroom_of rfl) rfl (Nat.le_of_ble_eq_true rfl) dX7_ask_12 ?_
      refine z_if_ne (tgt := 25) dX7_ask_15 (by decide) (fun c7 => ?_) (fun c7 => ?_)
      · have hp := ip_f hp c7; have hv := it_f hv c7
        refine z_aload_n dX7_ask_25 rfl ?_
        refine z_iload_n dX7_ask_26 rfl ?_
        refine z_cvi (c_X7_asked G a M x1 ) zc_X7_asked zv_X7_asked tw_m_RX7_131 (mrec wr_P) wr_P (zroom_of rfl) rfl (Nat.le_of_ble_eq_true rfl) dX7_ask_27 ?_
        refine z_istore_n (lv' := [(3, .int (v_X7_asked M x1)), (0, .ref (a 0)), (1, .int x1), (2, .int x2)]) dX7_ask_30 (Nat.le_of_ble_eq_true rfl) rfl ?_
        refine z_aload_n dX7_ask_31 rfl ?_
        refine z_iload_n dX7_ask_32 rfl ?_
        refine z_iload_n dX7_ask_33 rfl ?_
        refine z_cavvD hw (fun sz => c_X7_asks G a hw.1 sz M x1 x2 ) zc_X7_asks zv_X7_asks tw_m_RX7_134 (mrec wr_P) (zroom_of rfl) rfl (Nat.le_of_ble_eq_true rfl) dX7_ask_34 ?_
        suffices z13 : ∀ q8 : mT, q8 = (v_X7_asks M x1 x2) → Z k_X7_ask G Γ (wr G A Γ.2.2.1.1.heap (mW G a q8)) 0 0 [(3, .int (v_X7_asked M x1)), (0, .ref (a 0)), (1, .int x1), (2, .int x2)] 37 [] from z13 _ rfl
        intro q8 hq8
        have hv := kk_vq hv hq8
        clear hq8
        refine z_iload_n dX7_ask_37 rfl ?_
        subst hv; exact z_iret_W hQ rfl rfl rfl ⟨rfl, rfl⟩ dX7_ask_38
      · have hp := ip_t hp c7; have hv := it_t hv c7
        refine z_aload_n dX7_ask_18 rfl ?_
        refine z_bipush (v := (-6)) dX7_ask_19 rfl ?_
        have q9 := hp
        refine z_caviD hw (fun sz => c_X7_no G a hw.1 sz M (-6) q9) zc_X7_no zv_X7_no tw_m_RX7_106 (mrec wr_P) (zroom_of rfl) rfl (Nat.le_of_ble_eq_true rfl) dX7_ask_21 ?_
        suffices z14 : ∀ q10 : Int32 × mT, q10 = (v_X7_no M (-6)) → Z k_X7_ask G Γ (wr G A Γ.2.2.1.1.heap (mW G a q10.2)) 0 0 [(0, .ref (a 0)), (1, .int x1), (2, .int x2)] 24 [.int q10.1] from z14 _ rfl
        intro q10 hq10
        have hv := kk_vq hv hq10
        clear hq10
        subst hv; exact z_iret_W hQ rfl rfl rfl ⟨rfl, rfl⟩ dX7_ask_24
theorem dX7_tell_0 : decode cX7_tell 0 = .ok (.aload_n 0, 1) := by decide +kernel
theorem dX7_tell_1 : decode cX7_tell 1 = .ok (.iload_n 1, 1) := by decide +kernel
theorem dX7_tell_2 : decode cX7_tell 2 = .ok (.invokevirtual 110, 3) := by decide +kernel
theorem dX7_tell_5 : decode cX7_tell 5 = .ok (.ifCond .ne 9, 3) := by decide +kernel
theorem dX7_tell_8 : decode cX7_tell 8 = .ok (.aload_n 0, 1) := by decide +kernel
theorem dX7_tell_9 : decode cX7_tell 9 = .ok (.iconst (-1), 1) := by decide +kernel
theorem dX7_tell_10 : decode cX7_tell 10 = .ok (.invokevirtual 106, 3) := by decide +kernel
theorem dX7_tell_13 : decode cX7_tell 13 = .ok (.ireturn, 1) := by decide +kernel
theorem dX7_tell_14 : decode cX7_tell 14 = .ok (.iload_n 2, 1) := by decide +kernel
theorem dX7_tell_15 : decode cX7_tell 15 = .ok (.ifCond .lt 30, 3) := by decide +kernel
theorem dX7_tell_18 : decode cX7_tell 18 = .ok (.iload_n 2, 1) := by decide +kernel
theorem dX7_tell_19 : decode cX7_tell 19 = .ok (.iconst 2, 1) := by decide +kernel
theorem dX7_tell_20 : decode cX7_tell 20 = .ok (.if_icmp .gt 25, 3) := by decide +kernel
theorem dX7_tell_23 : decode cX7_tell 23 = .ok (.aload_n 0, 1) := by decide +kernel
theorem dX7_tell_24 : decode cX7_tell 24 = .ok (.iload_n 3, 1) := by decide +kernel
theorem dX7_tell_25 : decode cX7_tell 25 = .ok (.iconst 0, 1) := by decide +kernel
theorem dX7_tell_26 : decode cX7_tell 26 = .ok (.iload_n 2, 1) := by decide +kernel
theorem dX7_tell_27 : decode cX7_tell 27 = .ok (.iconst 1, 1) := by decide +kernel
theorem dX7_tell_28 : decode cX7_tell 28 = .ok (.if_icmp .ne 9, 3) := by decide +kernel
theorem dX7_tell_31 : decode cX7_tell 31 = .ok (.sipush 999, 3) := by decide +kernel
theorem dX7_tell_34 : decode cX7_tell 34 = .ok (.goto 5, 3) := by decide +kernel
theorem dX7_tell_37 : decode cX7_tell 37 = .ok (.bipush 30, 2) := by decide +kernel
theorem dX7_tell_39 : decode cX7_tell 39 = .ok (.invokevirtual 116, 3) := by decide +kernel
theorem dX7_tell_42 : decode cX7_tell 42 = .ok (.ifCond .ne 10, 3) := by decide +kernel
theorem dX7_tell_45 : decode cX7_tell 45 = .ok (.aload_n 0, 1) := by decide +kernel
theorem dX7_tell_46 : decode cX7_tell 46 = .ok (.bipush (-6), 2) := by decide +kernel
theorem dX7_tell_48 : decode cX7_tell 48 = .ok (.invokevirtual 106, 3) := by decide +kernel
theorem dX7_tell_51 : decode cX7_tell 51 = .ok (.ireturn, 1) := by decide +kernel
theorem dX7_tell_52 : decode cX7_tell 52 = .ok (.iload_n 2, 1) := by decide +kernel
theorem dX7_tell_53 : decode cX7_tell 53 = .ok (.ifCond .ne 12, 3) := by decide +kernel
theorem dX7_tell_56 : decode cX7_tell 56 = .ok (.aload_n 0, 1) := by decide +kernel
theorem dX7_tell_57 : decode cX7_tell 57 = .ok (.getfield 35, 3) := by decide +kernel
theorem dX7_tell_60 : decode cX7_tell 60 = .ok (.iload_n 1, 1) := by decide +kernel
theorem dX7_tell_61 : decode cX7_tell 61 = .ok (.iaload, 1) := by decide +kernel
theorem dX7_tell_62 : decode cX7_tell 62 = .ok (.goto 23, 3) := by decide +kernel
theorem dX7_tell_65 : decode cX7_tell 65 = .ok (.iload_n 2, 1) := by decide +kernel
theorem dX7_tell_66 : decode cX7_tell 66 = .ok (.iconst 1, 1) := by decide +kernel
theorem dX7_tell_67 : decode cX7_tell 67 = .ok (.if_icmp .ne 12, 3) := by decide +kernel
theorem dX7_tell_70 : decode cX7_tell 70 = .ok (.aload_n 0, 1) := by decide +kernel
theorem dX7_tell_71 : decode cX7_tell 71 = .ok (.getfield 44, 3) := by decide +kernel
theorem dX7_tell_74 : decode cX7_tell 74 = .ok (.iload_n 1, 1) := by decide +kernel
theorem dX7_tell_75 : decode cX7_tell 75 = .ok (.iaload, 1) := by decide +kernel
theorem dX7_tell_76 : decode cX7_tell 76 = .ok (.goto 9, 3) := by decide +kernel
theorem dX7_tell_79 : decode cX7_tell 79 = .ok (.aload_n 0, 1) := by decide +kernel
theorem dX7_tell_80 : decode cX7_tell 80 = .ok (.getfield 47, 3) := by decide +kernel
theorem dX7_tell_83 : decode cX7_tell 83 = .ok (.iload_n 1, 1) := by decide +kernel
theorem dX7_tell_84 : decode cX7_tell 84 = .ok (.iaload, 1) := by decide +kernel
theorem dX7_tell_85 : decode cX7_tell 85 = .ok (.istore 4, 2) := by decide +kernel
theorem dX7_tell_87 : decode cX7_tell 87 = .ok (.iload_n 2, 1) := by decide +kernel
theorem dX7_tell_88 : decode cX7_tell 88 = .ok (.ifCond .ne 13, 3) := by decide +kernel
theorem dX7_tell_91 : decode cX7_tell 91 = .ok (.aload_n 0, 1) := by decide +kernel
theorem dX7_tell_92 : decode cX7_tell 92 = .ok (.getfield 35, 3) := by decide +kernel
theorem dX7_tell_95 : decode cX7_tell 95 = .ok (.iload_n 1, 1) := by decide +kernel
theorem dX7_tell_96 : decode cX7_tell 96 = .ok (.iload_n 3, 1) := by decide +kernel
theorem dX7_tell_97 : decode cX7_tell 97 = .ok (.iastore, 1) := by decide +kernel
theorem dX7_tell_98 : decode cX7_tell 98 = .ok (.goto 25, 3) := by decide +kernel
theorem dX7_tell_101 : decode cX7_tell 101 = .ok (.iload_n 2, 1) := by decide +kernel
theorem dX7_tell_102 : decode cX7_tell 102 = .ok (.iconst 1, 1) := by decide +kernel
theorem dX7_tell_103 : decode cX7_tell 103 = .ok (.if_icmp .ne 13, 3) := by decide +kernel
theorem dX7_tell_106 : decode cX7_tell 106 = .ok (.aload_n 0, 1) := by decide +kernel
theorem dX7_tell_107 : decode cX7_tell 107 = .ok (.getfield 44, 3) := by decide +kernel
theorem dX7_tell_110 : decode cX7_tell 110 = .ok (.iload_n 1, 1) := by decide +kernel
theorem dX7_tell_111 : decode cX7_tell 111 = .ok (.iload_n 3, 1) := by decide +kernel
theorem dX7_tell_112 : decode cX7_tell 112 = .ok (.iastore, 1) := by decide +kernel
theorem dX7_tell_113 : decode cX7_tell 113 = .ok (.goto 10, 3) := by decide +kernel
theorem dX7_tell_116 : decode cX7_tell 116 = .ok (.aload_n 0, 1) := by decide +kernel
theorem dX7_tell_117 : decode cX7_tell 117 = .ok (.getfield 47, 3) := by decide +kernel
theorem dX7_tell_120 : decode cX7_tell 120 = .ok (.iload_n 1, 1) := by decide +kernel
theorem dX7_tell_121 : decode cX7_tell 121 = .ok (.iload_n 3, 1) := by decide +kernel
theorem dX7_tell_122 : decode cX7_tell 122 = .ok (.iastore, 1) := by decide +kernel
theorem dX7_tell_123 : decode cX7_tell 123 = .ok (.iload 4, 2) := by decide +kernel
theorem dX7_tell_125 : decode cX7_tell 125 = .ok (.ireturn, 1) := by decide +kernel
abbrev k_X7_tell : zK := (cX7_tell, 5, RX7, (some .int), ({ frames := 1, cells := 0, slots := 0, locals := 23 } : Room))
theorem zc_X7_tell : zcal yX7_tell k_X7_tell.1 k_X7_tell.2.1 k_X7_tell.2.2.2.1 3 := ⟨tw_code_yX7_tell, tw_i_TollForHesitatorsModel, ⟨by decide +kernel, by decide +kernel⟩, by decide +kernel⟩
theorem zv_X7_tell : Cond.instanceMethod yX7_tell ∈ TS ∧ Cond.selects RX7 yX7_tell yX7_tell ∈ TS := ⟨tw_inst_yX7_tell, tw_s_yX7_tell⟩
def v_X7_tell (M : mT) (x1 : Int32) (x2 : Int32) (x3 : Int32) : Int32 × mT := if (v_X7_isComer M x1) = 0 then kk (v_X7_no M (-1)) (fun q28 : Int32 × mT => (q28.1, q28.2)) else if x2 < 0 then kk (v_X7_no M (-6)) (fun q4 : Int32 × mT => (q4.1, q4.2)) else if 2 < x2 then kk (v_X7_no M (-6)) (fun q7 : Int32 × mT => (q7.1, q7.2)) else if (v_X7_isFrom M x3 0 (if x2 = 1 then 999 else 30)) = 0 then kk (v_X7_no M (-6)) (fun q26 : Int32 × mT => (q26.1, q26.2)) else kk (if x2 = 0 then (M.2.1 11) x1.toNatClampNeg else (if x2 = 1 then (M.2.1 14) x1.toNatClampNeg else (M.2.1 15) x1.toNatClampNeg)) (fun m17 : Int32 => kk (if x2 = 0 then msa M 11 (upd (M.2.1 11) x1.toNatClampNeg x3) else (if x2 = 1 then msa M 14 (upd (M.2.1 14) x1.toNatClampNeg x3) else msa M 15 (upd (M.2.1 15) x1.toNatClampNeg x3))) (fun M24 : mT => (m17, M24)))
def p_X7_tell (M : mT) (x1 : Int32) (x2 : Int32) (x3 : Int32) : Prop := if (v_X7_isComer M x1) = 0 then p_X7_no M (-1) else if x2 < 0 then p_X7_no M (-6) else if 2 < x2 then p_X7_no M (-6) else if (v_X7_isFrom M x3 0 (if x2 = 1 then 999 else 30)) = 0 then p_X7_no M (-6) else (if x2 = 0 then vp_in x1 7 else if x2 = 1 then vp_in x1 7 else vp_in x1 7) ∧ (kk (if x2 = 0 then (M.2.1 11) x1.toNatClampNeg else (if x2 = 1 then (M.2.1 14) x1.toNatClampNeg else (M.2.1 15) x1.toNatClampNeg)) (fun m17 : Int32 => if x2 = 0 then vp_in x1 7 else if x2 = 1 then vp_in x1 7 else vp_in x1 7))
set_option maxHeartbeats 4000000 in
theorem c_X7_tell {l : Launch} (G : zG) (a : Nat → Nat) {X : zX} (hX : XOK X) (sz : Nat) (M : mT) (x1 : Int32) (x2 : Int32) (x3 : Int32) (hp : p_X7_tell M x1 x2 x3) : Met l yX7_tell (.code yX7_tell k_X7_tell.1 k_X7_tell.2.1 k_X7_tell.2.2.2.1 :: TS) k_X7_tell.2.2.2.2 (Pz G [.ref (a 0), .int x1, .int x2, .int x3] (Fw G X (mW G a M) sz)) (Qwi G (fun r w => r = (v_X7_tell M x1 x2 x3).1 ∧ w = mW G a (v_X7_tell M x1 x2 x3).2) (va_A (mW G a M) sz)) 0 0 (va_A (mW G a M) sz) := by
  refine zmet (by decide +kernel) rfl rfl (fun Γ hl0 hQ hN hF => ?_)
  refine z_start hX hF (fun hw => ?_)
  generalize va_A (mW G a M) sz = A at hQ hw ⊢
  obtain ⟨res, hv⟩ : ∃ res, v_X7_tell M x1 x2 x3 = res := ⟨_, rfl⟩
  rw [hv] at hQ
  unfold v_X7_tell at hv
  unfold p_X7_tell at hp
  show Z k_X7_tell G Γ _ 0 0 [(0, .ref (a 0)), (1, .int x1), (2, .int x2), (3, .int x3)] 0 []
  refine z_aload_n dX7_tell_0 rfl ?_
  refine z_iload_n dX7_tell_1 rfl ?_
  refine z_cvi (c_X7_isComer G a M x1 ) zc_X7_isComer zv_X7_isComer tw_m_RX7_110 (mrec wr_P) wr_P (zroom_of rfl) rfl (Nat.le_of_ble_eq_true rfl) dX7_tell_2 ?_
  refine z_if_ne (tgt := 14) dX7_tell_5 (by decide) (fun c1 => ?_) (fun c1 => ?_)
  · have hp := ip_f hp c1; have hv := it_f hv c1
    refine z_iload_n dX7_tell_14 rfl ?_
    refine z_if_lt (tgt := 45) dX7_tell_15 (by decide) (fun c2 => ?_) (fun c2 => ?_)
    · have hp := ip_t hp c2; have hv := it_t hv c2
      refine z_aload_n dX7_tell_45 rfl ?_
      refine z_bipush (v := (-6)) dX7_tell_46 rfl ?_
      have q3 := hp
      refine z_caviD hw (fun sz => c_X7_no G a hw.1 sz M (-6) q3) zc_X7_no zv_X7_no tw_m_RX7_106 (mrec wr_P) (zroom_of rfl) rfl (Nat.le_of_ble_eq_true rfl) dX7_tell_48 ?_
      suffices z29 : ∀ q4 : Int32 × mT, q4 = (v_X7_no M (-6)) → Z k_X7_tell G Γ (wr G A Γ.2.2.1.1.heap (mW G a q4.2)) 0 0 [(0, .ref (a 0)), (1, .int x1), (2, .int x2), (3, .int x3)] 51 [.int q4.1] from z29 _ rfl
      intro q4 hq4
      have hv := kk_vq hv hq4
      clear hq4
      subst hv; exact z_iret_W hQ rfl rfl rfl ⟨rfl, rfl⟩ dX7_tell_51
    · have hp := ip_f hp c2; have hv := it_f hv c2
      refine z_iload_n dX7_tell_18 rfl ?_
      refine z_iconst (v := 2) dX7_tell_19 rfl ?_
      refine z_icmp_gt (tgt := 45) dX7_tell_20 (by decide) (fun c5 => ?_) (fun c5 => ?_)
      · have hp := ip_t hp c5; have hv := it_t hv c5
        refine z_aload_n dX7_tell_45 rfl ?_
        refine z_bipush (v := (-6)) dX7_tell_46 rfl ?_
        have q6 := hp
        refine z_caviD hw (fun sz => c_X7_no G a hw.1 sz M (-6) q6) zc_X7_no zv_X7_no tw_m_RX7_106 (mrec wr_P) (zroom_of rfl) rfl (Nat.le_of_ble_eq_true rfl) dX7_tell_48 ?_
        suffices z30 : ∀ q7 : Int32 × mT, q7 = (v_X7_no M (-6)) → Z k_X7_tell G Γ (wr G A Γ.2.2.1.1.heap (mW G a q7.2)) 0 0 [(0, .ref (a 0)), (1, .int x1), (2, .int x2), (3, .int x3)] 51 [.int q7.1] from z30 _ rfl
        intro q7 hq7
        have hv := kk_vq hv hq7
        clear hq7
        subst hv; exact z_iret_W hQ rfl rfl rfl ⟨rfl, rfl⟩ dX7_tell_51
      · have hp := ip_f hp c5; have hv := it_f hv c5
        refine z_aload_n dX7_tell_23 rfl ?_
        refine z_iload_n dX7_tell_24 rfl ?_
        refine z_iconst (v := 0) dX7_tell_25 rfl ?_
        refine z_iload_n dX7_tell_26 rfl ?_
        refine z_iconst (v := 1) dX7_tell_27 rfl ?_
        have J31 : ∀ m9 : Int32, m9 = (if x2 = 1 then 999 else 30) → Z k_X7_tell G Γ (wr G A Γ.2.2.1.1.heap (mW G a M)) 0 0 [(0, .ref (a 0)), (1, .int x1), (2, .int x2), (3, .int x3)] 39 [.int m9, .int 0, .int x3, .ref (a 0)] := by
          intro m9 em9
          rewrite [em9]; clear em9
          refine z_cvi (c_X7_isFrom G a M x3 0 (if x2 = 1 then 999 else 30) ) zc_X7_isFrom zv_X7_isFrom tw_m_RX7_116 (mrec wr_P) wr_P (zroom_of rfl) rfl (Nat.le_of_ble_eq_true rfl) dX7_tell_39 ?_
          refine z_if_ne (tgt := 52) dX7_tell_42 (by decide) (fun c10 => ?_) (fun c10 => ?_)
          · have hp := ip_f hp c10; have hv := it_f hv c10
            refine z_iload_n dX7_tell_52 rfl ?_
            obtain ⟨hpm, hp⟩ := hp
            have J32 : ∀ m17 : Int32, m17 = (if x2 = 0 then (M.2.1 11) x1.toNatClampNeg else (if x2 = 1 then (M.2.1 14) x1.toNatClampNeg else (M.2.1 15) x1.toNatClampNeg)) → Z k_X7_tell G Γ (wr G A Γ.2.2.1.1.heap (mW G a M)) 0 0 [(0, .ref (a 0)), (1, .int x1), (2, .int x2), (3, .int x3)] 85 [.int m17] := by
              intro m17 em17
              have hp := kk_pq hp em17
              have hv := kk_vq hv em17
              clear em17
              refine z_istore (lv' := [(4, .int m17), (0, .ref (a 0)), (1, .int x1), (2, .int x2), (3, .int x3)]) dX7_tell_85 (Nat.le_of_ble_eq_true rfl) rfl ?_
              refine z_iload_n dX7_tell_87 rfl ?_
              have hpm := hp
              have J33 : ∀ M24 : mT, M24 = (if x2 = 0 then msa M 11 (upd (M.2.1 11) x1.toNatClampNeg x3) else (if x2 = 1 then msa M 14 (upd (M.2.1 14) x1.toNatClampNeg x3) else msa M 15 (upd (M.2.1 15) x1.toNatClampNeg x3))) → Z k_X7_tell G Γ (wr G A Γ.2.2.1.1.heap (mW G a M24)) 0 0 [(4, .int m17), (0, .ref (a 0)), (1, .int x1), (2, .int x2), (3, .int x3)] 123 [] := by
                intro M24 eM24
                have hv := kk_vq hv eM24
                clear eM24
                refine z_iload dX7_tell_123 rfl ?_
                subst hv; exact z_iret_W hQ rfl rfl rfl ⟨rfl, rfl⟩ dX7_tell_125
              refine z_if_ne (tgt := 101) dX7_tell_88 (by decide) (fun c18 => ?_) (fun c18 => ?_)
              · have hp := ip_f hpm c18
                refine z_iload_n dX7_tell_101 rfl ?_
                refine z_iconst (v := 1) dX7_tell_102 rfl ?_
                have hpm := hp
                have J34 : ∀ M22 : mT, M22 = (if x2 = 1 then msa M 14 (upd (M.2.1 14) x1.toNatClampNeg x3) else msa M 15 (upd (M.2.1 15) x1.toNatClampNeg x3)) → Z k_X7_tell G Γ (wr G A Γ.2.2.1.1.heap (mW G a M22)) 0 0 [(4, .int m17), (0, .ref (a 0)), (1, .int x1), (2, .int x2), (3, .int x3)] 123 [] := by
                  intro M22 eM22
                  rewrite [eM22]; clear eM22
                  exact z_lv rfl (J33 _ (if_neg c18).symm)
                refine z_icmp_ne (tgt := 116) dX7_tell_103 (by decide) (fun c19 => ?_) (fun c19 => ?_)
                · have hp := ip_f hpm c19
                  refine z_aload_n dX7_tell_116 rfl ?_
                  refine mg_15 wr_P rfl dX7_tell_117 ?_
                  refine z_iload_n dX7_tell_120 rfl ?_
                  refine z_iload_n dX7_tell_121 rfl ?_
                  have q20 := hp
                  refine ms_15 (F := upd (M.2.1 15) x1.toNatClampNeg x3) q20 rfl dX7_tell_122 ?_
                  exact z_lv rfl (J34 _ (if_neg c19).symm)
                · have hp := ip_t hpm c19
                  refine z_aload_n dX7_tell_106 rfl ?_
                  refine mg_14 wr_P rfl dX7_tell_107 ?_
                  refine z_iload_n dX7_tell_110 rfl ?_
                  refine z_iload_n dX7_tell_111 rfl ?_
                  have q21 := hp
                  refine ms_14 (F := upd (M.2.1 14) x1.toNatClampNeg x3) q21 rfl dX7_tell_112 ?_
                  refine z_goto (tgt := 123) dX7_tell_113 (by decide) ?_
                  exact z_lv rfl (J34 _ (if_pos c19).symm)
              · have hp := ip_t hpm c18
                refine z_aload_n dX7_tell_91 rfl ?_
                refine mg_11 wr_P rfl dX7_tell_92 ?_
                refine z_iload_n dX7_tell_95 rfl ?_
                refine z_iload_n dX7_tell_96 rfl ?_
                have q23 := hp
                refine ms_11 (F := upd (M.2.1 11) x1.toNatClampNeg x3) q23 rfl dX7_tell_97 ?_
                refine z_goto (tgt := 123) dX7_tell_98 (by decide) ?_
                exact z_lv rfl (J33 _ (if_pos c18).symm)
            refine z_if_ne (tgt := 65) dX7_tell_53 (by decide) (fun c11 => ?_) (fun c11 => ?_)
            · have hp := ip_f hpm c11
              refine z_iload_n dX7_tell_65 rfl ?_
              refine z_iconst (v := 1) dX7_tell_66 rfl ?_
              have hpm := hp
              have J35 : ∀ m15 : Int32, m15 = (if x2 = 1 then (M.2.1 14) x1.toNatClampNeg else (M.2.1 15) x1.toNatClampNeg) → Z k_X7_tell G Γ (wr G A Γ.2.2.1.1.heap (mW G a M)) 0 0 [(0, .ref (a 0)), (1, .int x1), (2, .int x2), (3, .int x3)] 85 [.int m15] := by
                intro m15 em15
                rewrite [em15]; clear em15
                exact z_lv rfl (J32 _ (if_neg c11).symm)
              refine z_icmp_ne (tgt := 79) dX7_tell_67 (by decide) (fun c12 => ?_) (fun c12 => ?_)
              · have hp := ip_f hpm c12
                refine z_aload_n dX7_tell_79 rfl ?_
                refine mg_15 wr_P rfl dX7_tell_80 ?_
                refine z_iload_n dX7_tell_83 rfl ?_
                have q13 := hp
                refine ml_15 (x := (M.2.1 15) x1.toNatClampNeg) wr_P q13 rfl dX7_tell_84 ?_
                exact z_lv rfl (J35 _ (if_neg c12).symm)
              · have hp := ip_t hpm c12
                refine z_aload_n dX7_tell_70 rfl ?_
                refine mg_14 wr_P rfl dX7_tell_71 ?_
                refine z_iload_n dX7_tell_74 rfl ?_
                have q14 := hp
                refine ml_14 (x := (M.2.1 14) x1.toNatClampNeg) wr_P q14 rfl dX7_tell_75 ?_
                refine z_goto (tgt := 85) dX7_tell_76 (by decide) ?_
                exact z_lv rfl (J35 _ (if_pos c12).symm)
            · have hp := ip_t hpm c11
              refine z_aload_n dX7_tell_56 rfl ?_
              refine mg_11 wr_P rfl dX7_tell_57 ?_
              refine z_iload_n dX7_tell_60 rfl ?_
              have q16 := hp
              refine ml_11 (x := (M.2.1 11) x1.toNatClampNeg) wr_P q16 rfl dX7_tell_61 ?_
              refine z_goto (tgt := 85) dX7_tell_62 (by decide) ?_
              exact z_lv rfl (J32 _ (if_pos c11).symm)
          · have hp := ip_t hp c10; have hv := it_t hv c10
            refine z_aload_n dX7_tell_45 rfl ?_
            refine z_bipush (v := (-6)) dX7_tell_46 rfl ?_
            have q25 := hp
            refine z_caviD hw (fun sz => c_X7_no G a hw.1 sz M (-6) q25) zc_X7_no zv_X7_no tw_m_RX7_106 (mrec wr_P) (zroom_of rfl) rfl (Nat.le_of_ble_eq_true rfl) dX7_tell_48 ?_
            suffices z36 : ∀ q26 : Int32 × mT, q26 = (v_X7_no M (-6)) → Z k_X7_tell G Γ (wr G A Γ.2.2.1.1.heap (mW G a q26.2)) 0 0 [(0, .ref (a 0)), (1, .int x1), (2, .int x2), (3, .int x3)] 51 [.int q26.1] from z36 _ rfl
            intro q26 hq26
            have hv := kk_vq hv hq26
            clear hq26
            subst hv; exact z_iret_W hQ rfl rfl rfl ⟨rfl, rfl⟩ dX7_tell_51
        refine z_icmp_ne (tgt := 37) dX7_tell_28 (by decide) (fun c8 => ?_) (fun c8 => ?_)
        · skip
          refine z_bipush (v := 30) dX7_tell_37 rfl ?_
          exact z_lv rfl (J31 _ (if_neg c8).symm)
        · skip
          refine z_sipush (v := 999) dX7_tell_31 rfl ?_
          refine z_goto (tgt := 39) dX7_tell_34 (by decide) ?_
          exact z_lv rfl (J31 _ (if_pos c8).symm)
  · have hp := ip_t hp c1; have hv := it_t hv c1
    refine z_aload_n dX7_tell_8 rfl ?_
    refine z_iconst (v := (-1)) dX7_tell_9 rfl ?_
    have q27 := hp
    refine z_caviD hw (fun sz => c_X7_no G a hw.1 sz M (-1) q27) zc_X7_no zv_X7_no tw_m_RX7_106 (mrec wr_P) (zroom_of rfl) rfl (Nat.le_of_ble_eq_true rfl) dX7_tell_10 ?_
    suffices z37 : ∀ q28 : Int32 × mT, q28 = (v_X7_no M (-1)) → Z k_X7_tell G Γ (wr G A Γ.2.2.1.1.heap (mW G a q28.2)) 0 0 [(0, .ref (a 0)), (1, .int x1), (2, .int x2), (3, .int x3)] 13 [.int q28.1] from z37 _ rfl
    intro q28 hq28
    have hv := kk_vq hv hq28
    clear hq28
    subst hv; exact z_iret_W hQ rfl rfl rfl ⟨rfl, rfl⟩ dX7_tell_13
theorem dX7_comerOf_0 : decode cX7_comerOf 0 = .ok (.aload_n 0, 1) := by decide +kernel
theorem dX7_comerOf_1 : decode cX7_comerOf 1 = .ok (.iload_n 1, 1) := by decide +kernel
theorem dX7_comerOf_2 : decode cX7_comerOf 2 = .ok (.invokevirtual 110, 3) := by decide +kernel
theorem dX7_comerOf_5 : decode cX7_comerOf 5 = .ok (.ifCond .ne 10, 3) := by decide +kernel
theorem dX7_comerOf_8 : decode cX7_comerOf 8 = .ok (.aload_n 0, 1) := by decide +kernel
theorem dX7_comerOf_9 : decode cX7_comerOf 9 = .ok (.bipush (-5), 2) := by decide +kernel
theorem dX7_comerOf_11 : decode cX7_comerOf 11 = .ok (.invokevirtual 106, 3) := by decide +kernel
theorem dX7_comerOf_14 : decode cX7_comerOf 14 = .ok (.ireturn, 1) := by decide +kernel
theorem dX7_comerOf_15 : decode cX7_comerOf 15 = .ok (.iload_n 2, 1) := by decide +kernel
theorem dX7_comerOf_16 : decode cX7_comerOf 16 = .ok (.tableswitch 93 0 6 #[44, 51, 58, 65, 72, 79, 86], 44) := by decide +kernel
theorem dX7_comerOf_60 : decode cX7_comerOf 60 = .ok (.aload_n 0, 1) := by decide +kernel
theorem dX7_comerOf_61 : decode cX7_comerOf 61 = .ok (.getfield 29, 3) := by decide +kernel
theorem dX7_comerOf_64 : decode cX7_comerOf 64 = .ok (.iload_n 1, 1) := by decide +kernel
theorem dX7_comerOf_65 : decode cX7_comerOf 65 = .ok (.iaload, 1) := by decide +kernel
theorem dX7_comerOf_66 : decode cX7_comerOf 66 = .ok (.ireturn, 1) := by decide +kernel
theorem dX7_comerOf_67 : decode cX7_comerOf 67 = .ok (.aload_n 0, 1) := by decide +kernel
theorem dX7_comerOf_68 : decode cX7_comerOf 68 = .ok (.getfield 32, 3) := by decide +kernel
theorem dX7_comerOf_71 : decode cX7_comerOf 71 = .ok (.iload_n 1, 1) := by decide +kernel
theorem dX7_comerOf_72 : decode cX7_comerOf 72 = .ok (.iaload, 1) := by decide +kernel
theorem dX7_comerOf_73 : decode cX7_comerOf 73 = .ok (.ireturn, 1) := by decide +kernel
theorem dX7_comerOf_74 : decode cX7_comerOf 74 = .ok (.aload_n 0, 1) := by decide +kernel
theorem dX7_comerOf_75 : decode cX7_comerOf 75 = .ok (.getfield 35, 3) := by decide +kernel
theorem dX7_comerOf_78 : decode cX7_comerOf 78 = .ok (.iload_n 1, 1) := by decide +kernel
theorem dX7_comerOf_79 : decode cX7_comerOf 79 = .ok (.iaload, 1) := by decide +kernel
theorem dX7_comerOf_80 : decode cX7_comerOf 80 = .ok (.ireturn, 1) := by decide +kernel
theorem dX7_comerOf_81 : decode cX7_comerOf 81 = .ok (.aload_n 0, 1) := by decide +kernel
theorem dX7_comerOf_82 : decode cX7_comerOf 82 = .ok (.getfield 38, 3) := by decide +kernel
theorem dX7_comerOf_85 : decode cX7_comerOf 85 = .ok (.iload_n 1, 1) := by decide +kernel
theorem dX7_comerOf_86 : decode cX7_comerOf 86 = .ok (.iaload, 1) := by decide +kernel
theorem dX7_comerOf_87 : decode cX7_comerOf 87 = .ok (.ireturn, 1) := by decide +kernel
theorem dX7_comerOf_88 : decode cX7_comerOf 88 = .ok (.aload_n 0, 1) := by decide +kernel
theorem dX7_comerOf_89 : decode cX7_comerOf 89 = .ok (.getfield 41, 3) := by decide +kernel
theorem dX7_comerOf_92 : decode cX7_comerOf 92 = .ok (.iload_n 1, 1) := by decide +kernel
theorem dX7_comerOf_93 : decode cX7_comerOf 93 = .ok (.iaload, 1) := by decide +kernel
theorem dX7_comerOf_94 : decode cX7_comerOf 94 = .ok (.ireturn, 1) := by decide +kernel
theorem dX7_comerOf_95 : decode cX7_comerOf 95 = .ok (.aload_n 0, 1) := by decide +kernel
theorem dX7_comerOf_96 : decode cX7_comerOf 96 = .ok (.getfield 44, 3) := by decide +kernel
theorem dX7_comerOf_99 : decode cX7_comerOf 99 = .ok (.iload_n 1, 1) := by decide +kernel
theorem dX7_comerOf_100 : decode cX7_comerOf 100 = .ok (.iaload, 1) := by decide +kernel
theorem dX7_comerOf_101 : decode cX7_comerOf 101 = .ok (.ireturn, 1) := by decide +kernel
theorem dX7_comerOf_102 : decode cX7_comerOf 102 = .ok (.aload_n 0, 1) := by decide +kernel
theorem dX7_comerOf_103 : decode cX7_comerOf 103 = .ok (.getfield 47, 3) := by decide +kernel
theorem dX7_comerOf_106 : decode cX7_comerOf 106 = .ok (.iload_n 1, 1) := by decide +kernel
theorem dX7_comerOf_107 : decode cX7_comerOf 107 = .ok (.iaload, 1) := by decide +kernel
theorem dX7_comerOf_108 : decode cX7_comerOf 108 = .ok (.ireturn, 1) := by decide +kernel
theorem dX7_comerOf_109 : decode cX7_comerOf 109 = .ok (.aload_n 0, 1) := by decide +kernel
theorem dX7_comerOf_110 : decode cX7_comerOf 110 = .ok (.bipush (-5), 2) := by decide +kernel
theorem dX7_comerOf_112 : decode cX7_comerOf 112 = .ok (.invokevirtual 106, 3) := by decide +kernel
theorem dX7_comerOf_115 : decode cX7_comerOf 115 = .ok (.ireturn, 1) := by decide +kernel
abbrev k_X7_comerOf : zK := (cX7_comerOf, 3, RX7, (some .int), ({ frames := 1, cells := 0, slots := 0, locals := 21 } : Room))
theorem zc_X7_comerOf : zcal yX7_comerOf k_X7_comerOf.1 k_X7_comerOf.2.1 k_X7_comerOf.2.2.2.1 2 := ⟨tw_code_yX7_comerOf, tw_i_TollForHesitatorsModel, ⟨by decide +kernel, by decide +kernel⟩, by decide +kernel⟩
theorem zv_X7_comerOf : Cond.instanceMethod yX7_comerOf ∈ TS ∧ Cond.selects RX7 yX7_comerOf yX7_comerOf ∈ TS := ⟨tw_inst_yX7_comerOf, tw_s_yX7_comerOf⟩
def v_X7_comerOf (M : mT) (x1 : Int32) (x2 : Int32) : Int32 × mT := if (v_X7_isComer M x1) = 0 then kk (v_X7_no M (-5)) (fun q19 : Int32 × mT => (q19.1, q19.2)) else if x2 = 0 then ((M.2.1 9) x1.toNatClampNeg, M) else if x2 = 1 then ((M.2.1 10) x1.toNatClampNeg, M) else if x2 = 2 then ((M.2.1 11) x1.toNatClampNeg, M) else if x2 = 3 then ((M.2.1 12) x1.toNatClampNeg, M) else if x2 = 4 then ((M.2.1 13) x1.toNatClampNeg, M) else if x2 = 5 then ((M.2.1 14) x1.toNatClampNeg, M) else if x2 = 6 then ((M.2.1 15) x1.toNatClampNeg, M) else kk (v_X7_no M (-5)) (fun q17 : Int32 × mT => (q17.1, q17.2))
def p_X7_comerOf (M : mT) (x1 : Int32) (x2 : Int32) : Prop := if (v_X7_isComer M x1) = 0 then p_X7_no M (-5) else if x2 = 0 then vp_in x1 7 else if x2 = 1 then vp_in x1 7 else if x2 = 2 then vp_in x1 7 else if x2 = 3 then vp_in x1 7 else if x2 = 4 then vp_in x1 7 else if x2 = 5 then vp_in x1 7 else if x2 = 6 then vp_in x1 7 else p_X7_no M (-5)
set_option maxHeartbeats 4000000 in
theorem c_X7_comerOf {l : Launch} (G : zG) (a : Nat → Nat) {X : zX} (hX : XOK X) (sz : Nat) (M : mT) (x1 : Int32) (x2 : Int32) (hp : p_X7_comerOf M x1 x2) : Met l yX7_comerOf (.code yX7_comerOf k_X7_comerOf.1 k_X7_comerOf.2.1 k_X7_comerOf.2.2.2.1 :: TS) k_X7_comerOf.2.2.2.2 (Pz G [.ref (a 0), .int x1, .int x2] (Fw G X (mW G a M) sz)) (Qwi G (fun r w => r = (v_X7_comerOf M x1 x2).1 ∧ w = mW G a (v_X7_comerOf M x1 x2).2) (va_A (mW G a M) sz)) 0 0 (va_A (mW G a M) sz) := by
  refine zmet (by decide +kernel) rfl rfl (fun Γ hl0 hQ hN hF => ?_)
  refine z_start hX hF (fun hw => ?_)
  generalize va_A (mW G a M) sz = A at hQ hw ⊢
  obtain ⟨res, hv⟩ : ∃ res, v_X7_comerOf M x1 x2 = res := ⟨_, rfl⟩
  rw [hv] at hQ
  unfold v_X7_comerOf at hv
  unfold p_X7_comerOf at hp
  show Z k_X7_comerOf G Γ _ 0 0 [(0, .ref (a 0)), (1, .int x1), (2, .int x2)] 0 []
  refine z_aload_n dX7_comerOf_0 rfl ?_
  refine z_iload_n dX7_comerOf_1 rfl ?_
  refine z_cvi (c_X7_isComer G a M x1 ) zc_X7_isComer zv_X7_isComer tw_m_RX7_110 (mrec wr_P) wr_P (zroom_of rfl) rfl (Nat.le_of_ble_eq_true rfl) dX7_comerOf_2 ?_
  refine z_if_ne (tgt := 15) dX7_comerOf_5 (by decide) (fun c1 => ?_) (fun c1 => ?_)
  · have hp := ip_f hp c1; have hv := it_f hv c1
    refine z_iload_n dX7_comerOf_15 rfl ?_
    by_cases c3 : x2 = 0
    · have hp := ip_t hp c3; have hv := it_t hv c3
      refine z_tableIn (tgt := 60) dX7_comerOf_16 0 c3 (by decide) (by decide) rfl (by decide) ?_
      refine z_aload_n dX7_comerOf_60 rfl ?_
      refine mg_9 wr_P rfl dX7_comerOf_61 ?_
      refine z_iload_n dX7_comerOf_64 rfl ?_
      have q2 := hp
      refine ml_9 (x := (M.2.1 9) x1.toNatClampNeg) wr_P q2 rfl dX7_comerOf_65 ?_
      subst hv; exact z_iret_W hQ rfl rfl rfl ⟨rfl, rfl⟩ dX7_comerOf_66
    have hp := ip_f hp c3
    have hv := it_f hv c3
    by_cases c5 : x2 = 1
    · have hp := ip_t hp c5; have hv := it_t hv c5
      refine z_tableIn (tgt := 67) dX7_comerOf_16 1 c5 (by decide) (by decide) rfl (by decide) ?_
      refine z_aload_n dX7_comerOf_67 rfl ?_
      refine mg_10 wr_P rfl dX7_comerOf_68 ?_
      refine z_iload_n dX7_comerOf_71 rfl ?_
      have q4 := hp
      refine ml_10 (x := (M.2.1 10) x1.toNatClampNeg) wr_P q4 rfl dX7_comerOf_72 ?_
      subst hv; exact z_iret_W hQ rfl rfl rfl ⟨rfl, rfl⟩ dX7_comerOf_73
    have hp := ip_f hp c5
    have hv := it_f hv c5
    by_cases c7 : x2 = 2
    · have hp := ip_t hp c7; have hv := it_t hv c7
      refine z_tableIn (tgt := 74) dX7_comerOf_16 2 c7 (by decide) (by decide) rfl (by decide) ?_
      refine z_aload_n dX7_comerOf_74 rfl ?_
      refine mg_11 wr_P rfl dX7_comerOf_75 ?_
      refine z_iload_n dX7_comerOf_78 rfl ?_
      have q6 := hp
      refine ml_11 (x := (M.2.1 11) x1.toNatClampNeg) wr_P q6 rfl dX7_comerOf_79 ?_
      subst hv; exact z_iret_W hQ rfl rfl rfl ⟨rfl, rfl⟩ dX7_comerOf_80
    have hp := ip_f hp c7
    have hv := it_f hv c7
    by_cases c9 : x2 = 3
    · have hp := ip_t hp c9; have hv := it_t hv c9
      refine z_tableIn (tgt := 81) dX7_comerOf_16 3 c9 (by decide) (by decide) rfl (by decide) ?_
      refine z_aload_n dX7_comerOf_81 rfl ?_
      refine mg_12 wr_P rfl dX7_comerOf_82 ?_
      refine z_iload_n dX7_comerOf_85 rfl ?_
      have q8 := hp
      refine ml_12 (x := (M.2.1 12) x1.toNatClampNeg) wr_P q8 rfl dX7_comerOf_86 ?_
      subst hv; exact z_iret_W hQ rfl rfl rfl ⟨rfl, rfl⟩ dX7_comerOf_87
    have hp := ip_f hp c9
    have hv := it_f hv c9
    by_cases c11 : x2 = 4
    · have hp := ip_t hp c11; have hv := it_t hv c11
      refine z_tableIn (tgt := 88) dX7_comerOf_16 4 c11 (by decide) (by decide) rfl (by decide) ?_
      refine z_aload_n dX7_comerOf_88 rfl ?_
      refine mg_13 wr_P rfl dX7_comerOf_89 ?_
      refine z_iload_n dX7_comerOf_92 rfl ?_
      have q10 := hp
      refine ml_13 (x := (M.2.1 13) x1.toNatClampNeg) wr_P q10 rfl dX7_comerOf_93 ?_
      subst hv; exact z_iret_W hQ rfl rfl rfl ⟨rfl, rfl⟩ dX7_comerOf_94
    have hp := ip_f hp c11
    have hv := it_f hv c11
    by_cases c13 : x2 = 5
    · have hp := ip_t hp c13; have hv := it_t hv c13
      refine z_tableIn (tgt := 95) dX7_comerOf_16 5 c13 (by decide) (by decide) rfl (by decide) ?_
      refine z_aload_n dX7_comerOf_95 rfl ?_
      refine mg_14 wr_P rfl dX7_comerOf_96 ?_
      refine z_iload_n dX7_comerOf_99 rfl ?_
      have q12 := hp
      refine ml_14 (x := (M.2.1 14) x1.toNatClampNeg) wr_P q12 rfl dX7_comerOf_100 ?_
      subst hv; exact z_iret_W hQ rfl rfl rfl ⟨rfl, rfl⟩ dX7_comerOf_101
    have hp := ip_f hp c13
    have hv := it_f hv c13
    by_cases c15 : x2 = 6
    · have hp := ip_t hp c15; have hv := it_t hv c15
      refine z_tableIn (tgt := 102) dX7_comerOf_16 6 c15 (by decide) (by decide) rfl (by decide) ?_
      refine z_aload_n dX7_comerOf_102 rfl ?_
      refine mg_15 wr_P rfl dX7_comerOf_103 ?_
      refine z_iload_n dX7_comerOf_106 rfl ?_
      have q14 := hp
      refine ml_15 (x := (M.2.1 15) x1.toNatClampNeg) wr_P q14 rfl dX7_comerOf_107 ?_
      subst hv; exact z_iret_W hQ rfl rfl rfl ⟨rfl, rfl⟩ dX7_comerOf_108
    have hp := ip_f hp c15
    have hv := it_f hv c15
    refine z_tableOut (tgt := 109) dX7_comerOf_16 (zout7_0 c3 c5 c7 c9 c11 c13 c15) (by decide) ?_
    refine z_aload_n dX7_comerOf_109 rfl ?_
    refine z_bipush (v := (-5)) dX7_comerOf_110 rfl ?_
    have q16 := hp
    refine z_caviD hw (fun sz => c_X7_no G a hw.1 sz M (-5) q16) zc_X7_no zv_X7_no tw_m_RX7_106 (mrec wr_P) (zroom_of rfl) rfl (Nat.le_of_ble_eq_true rfl) dX7_comerOf_112 ?_
    suffices z20 : ∀ q17 : Int32 × mT, q17 = (v_X7_no M (-5)) → Z k_X7_comerOf G Γ (wr G A Γ.2.2.1.1.heap (mW G a q17.2)) 0 0 [(0, .ref (a 0)), (1, .int x1), (2, .int x2)] 115 [.int q17.1] from z20 _ rfl
    intro q17 hq17
    have hv := kk_vq hv hq17
    clear hq17
    subst hv; exact z_iret_W hQ rfl rfl rfl ⟨rfl, rfl⟩ dX7_comerOf_115
  · have hp := ip_t hp c1; have hv := it_t hv c1
    refine z_aload_n dX7_comerOf_8 rfl ?_
    refine z_bipush (v := (-5)) dX7_comerOf_9 rfl ?_
    have q18 := hp
    refine z_caviD hw (fun sz => c_X7_no G a hw.1 sz M (-5) q18) zc_X7_no zv_X7_no tw_m_RX7_106 (mrec wr_P) (zroom_of rfl) rfl (Nat.le_of_ble_eq_true rfl) dX7_comerOf_11 ?_
    suffices z21 : ∀ q19 : Int32 × mT, q19 = (v_X7_no M (-5)) → Z k_X7_comerOf G Γ (wr G A Γ.2.2.1.1.heap (mW G a q19.2)) 0 0 [(0, .ref (a 0)), (1, .int x1), (2, .int x2)] 14 [.int q19.1] from z21 _ rfl
    intro q19 hq19
    have hv := kk_vq hv hq19
    clear hq19
    subst hv; exact z_iret_W hQ rfl rfl rfl ⟨rfl, rfl⟩ dX7_comerOf_14
theorem dX7_wrong_0 : decode cX7_wrong 0 = .ok (.aload_n 0, 1) := by decide +kernel
theorem dX7_wrong_1 : decode cX7_wrong 1 = .ok (.iload_n 1, 1) := by decide +kernel
theorem dX7_wrong_2 : decode cX7_wrong 2 = .ok (.putfield 138, 3) := by decide +kernel
theorem dX7_wrong_5 : decode cX7_wrong 5 = .ok (.iconst 0, 1) := by decide +kernel
theorem dX7_wrong_6 : decode cX7_wrong 6 = .ok (.ireturn, 1) := by decide +kernel
abbrev k_X7_wrong : zK := (cX7_wrong, 2, RX7, (some .boolean), ({ frames := 0, cells := 0, slots := 0, locals := 0 } : Room))
theorem zc_X7_wrong : zcal yX7_wrong k_X7_wrong.1 k_X7_wrong.2.1 k_X7_wrong.2.2.2.1 1 := ⟨tw_code_yX7_wrong, tw_i_TollForHesitatorsModel, ⟨by decide +kernel, by decide +kernel⟩, by decide +kernel⟩
theorem zv_X7_wrong : Cond.instanceMethod yX7_wrong ∈ TS ∧ Cond.selects RX7 yX7_wrong yX7_wrong ∈ TS := ⟨tw_inst_yX7_wrong, tw_s_yX7_wrong⟩
def v_X7_wrong (M : mT) (x1 : Int32) : Int32 × mT := (0, msf M 30 x1)
theorem nb_X7_wrong (M : mT) (x1 : Int32) : narrow .boolean (.int (v_X7_wrong M x1).1) = .int (v_X7_wrong M x1).1 := by
  unfold v_X7_wrong
  dsimp only
  (repeat' (first | with_reducible exact nz0 | with_reducible exact nz1 | with_reducible assumption | split))
set_option maxHeartbeats 4000000 in
theorem c_X7_wrong {l : Launch} (G : zG) (a : Nat → Nat) {X : zX} (hX : XOK X) (sz : Nat) (M : mT) (x1 : Int32) : Met l yX7_wrong (.code yX7_wrong k_X7_wrong.1 k_X7_wrong.2.1 k_X7_wrong.2.2.2.1 :: TS) k_X7_wrong.2.2.2.2 (Pz G [.ref (a 0), .int x1] (Fw G X (mW G a M) sz)) (Qwi G (fun r w => r = (v_X7_wrong M x1).1 ∧ w = mW G a (v_X7_wrong M x1).2) (va_A (mW G a M) sz)) 0 0 (va_A (mW G a M) sz) := by
  refine zmet (by decide +kernel) rfl rfl (fun Γ hl0 hQ hN hF => ?_)
  refine z_start hX hF (fun hw => ?_)
  generalize va_A (mW G a M) sz = A at hQ hw ⊢
  obtain ⟨res, hv⟩ : ∃ res, v_X7_wrong M x1 = res := ⟨_, rfl⟩
  rw [hv] at hQ
  unfold v_X7_wrong at hv
  show Z k_X7_wrong G Γ _ 0 0 [(0, .ref (a 0)), (1, .int x1)] 0 []
  refine z_aload_n dX7_wrong_0 rfl ?_
  refine z_iload_n dX7_wrong_1 rfl ?_
  refine mp_30 (v := x1) rfl dX7_wrong_2 ?_
  refine z_iconst (v := 0) dX7_wrong_5 rfl ?_
  subst hv; exact z_zret_W hQ rfl rfl rfl rfl ⟨rfl, rfl⟩ dX7_wrong_6
theorem dX7_stands_0 : decode cX7_stands 0 = .ok (.iconst 0, 1) := by decide +kernel
theorem dX7_stands_1 : decode cX7_stands 1 = .ok (.istore_n 2, 1) := by decide +kernel
theorem dX7_stands_2 : decode cX7_stands 2 = .ok (.iconst 0, 1) := by decide +kernel
theorem dX7_stands_3 : decode cX7_stands 3 = .ok (.istore_n 3, 1) := by decide +kernel
theorem dX7_stands_4 : decode cX7_stands 4 = .ok (.iload_n 3, 1) := by decide +kernel
theorem dX7_stands_5 : decode cX7_stands 5 = .ok (.iload_n 1, 1) := by decide +kernel
theorem dX7_stands_6 : decode cX7_stands 6 = .ok (.if_icmp .ge 26, 3) := by decide +kernel
theorem dX7_stands_9 : decode cX7_stands 9 = .ok (.iload_n 3, 1) := by decide +kernel
theorem dX7_stands_10 : decode cX7_stands 10 = .ok (.aload_n 0, 1) := by decide +kernel
theorem dX7_stands_11 : decode cX7_stands 11 = .ok (.getfield 69, 3) := by decide +kernel
theorem dX7_stands_14 : decode cX7_stands 14 = .ok (.iload_n 2, 1) := by decide +kernel
theorem dX7_stands_15 : decode cX7_stands 15 = .ok (.iaload, 1) := by decide +kernel
theorem dX7_stands_16 : decode cX7_stands 16 = .ok (.ifCond .ne 7, 3) := by decide +kernel
theorem dX7_stands_19 : decode cX7_stands 19 = .ok (.iconst 1, 1) := by decide +kernel
theorem dX7_stands_20 : decode cX7_stands 20 = .ok (.goto 4, 3) := by decide +kernel
theorem dX7_stands_23 : decode cX7_stands 23 = .ok (.iconst 0, 1) := by decide +kernel
theorem dX7_stands_24 : decode cX7_stands 24 = .ok (.iadd, 1) := by decide +kernel
theorem dX7_stands_25 : decode cX7_stands 25 = .ok (.istore_n 3, 1) := by decide +kernel
theorem dX7_stands_26 : decode cX7_stands 26 = .ok (.iinc 2 1, 3) := by decide +kernel
theorem dX7_stands_29 : decode cX7_stands 29 = .ok (.goto (-25), 3) := by decide +kernel
theorem dX7_stands_32 : decode cX7_stands 32 = .ok (.aload_n 0, 1) := by decide +kernel
theorem dX7_stands_33 : decode cX7_stands 33 = .ok (.getfield 141, 3) := by decide +kernel
theorem dX7_stands_36 : decode cX7_stands 36 = .ok (.istore_n 3, 1) := by decide +kernel
theorem dX7_stands_37 : decode cX7_stands 37 = .ok (.aload_n 0, 1) := by decide +kernel
theorem dX7_stands_38 : decode cX7_stands 38 = .ok (.getfield 69, 3) := by decide +kernel
theorem dX7_stands_41 : decode cX7_stands 41 = .ok (.iload_n 2, 1) := by decide +kernel
theorem dX7_stands_42 : decode cX7_stands 42 = .ok (.iaload, 1) := by decide +kernel
theorem dX7_stands_43 : decode cX7_stands 43 = .ok (.bipush 32, 2) := by decide +kernel
theorem dX7_stands_45 : decode cX7_stands 45 = .ok (.if_icmp .le 41, 3) := by decide +kernel
theorem dX7_stands_48 : decode cX7_stands 48 = .ok (.iload_n 3, 1) := by decide +kernel
theorem dX7_stands_49 : decode cX7_stands 49 = .ok (.aload_n 0, 1) := by decide +kernel
theorem dX7_stands_50 : decode cX7_stands 50 = .ok (.getfield 144, 3) := by decide +kernel
theorem dX7_stands_53 : decode cX7_stands 53 = .ok (.if_icmp .ge 33, 3) := by decide +kernel
theorem dX7_stands_56 : decode cX7_stands 56 = .ok (.aload_n 0, 1) := by decide +kernel
theorem dX7_stands_57 : decode cX7_stands 57 = .ok (.getfield 62, 3) := by decide +kernel
theorem dX7_stands_60 : decode cX7_stands 60 = .ok (.aload_n 0, 1) := by decide +kernel
theorem dX7_stands_61 : decode cX7_stands 61 = .ok (.getfield 147, 3) := by decide +kernel
theorem dX7_stands_64 : decode cX7_stands 64 = .ok (.iload_n 3, 1) := by decide +kernel
theorem dX7_stands_65 : decode cX7_stands 65 = .ok (.iadd, 1) := by decide +kernel
theorem dX7_stands_66 : decode cX7_stands 66 = .ok (.laload, 1) := by decide +kernel
theorem dX7_stands_67 : decode cX7_stands 67 = .ok (.l2i, 1) := by decide +kernel
theorem dX7_stands_68 : decode cX7_stands 68 = .ok (.aload_n 0, 1) := by decide +kernel
theorem dX7_stands_69 : decode cX7_stands 69 = .ok (.getfield 69, 3) := by decide +kernel
theorem dX7_stands_72 : decode cX7_stands 72 = .ok (.iload_n 2, 1) := by decide +kernel
theorem dX7_stands_73 : decode cX7_stands 73 = .ok (.iaload, 1) := by decide +kernel
theorem dX7_stands_74 : decode cX7_stands 74 = .ok (.if_icmp .ne 12, 3) := by decide +kernel
theorem dX7_stands_77 : decode cX7_stands 77 = .ok (.iinc 3 1, 3) := by decide +kernel
theorem dX7_stands_80 : decode cX7_stands 80 = .ok (.iinc 2 1, 3) := by decide +kernel
theorem dX7_stands_83 : decode cX7_stands 83 = .ok (.goto (-46), 3) := by decide +kernel
theorem dX7_stands_86 : decode cX7_stands 86 = .ok (.aload_n 0, 1) := by decide +kernel
theorem dX7_stands_87 : decode cX7_stands 87 = .ok (.getfield 69, 3) := by decide +kernel
theorem dX7_stands_90 : decode cX7_stands 90 = .ok (.iload_n 2, 1) := by decide +kernel
theorem dX7_stands_91 : decode cX7_stands 91 = .ok (.iaload, 1) := by decide +kernel
theorem dX7_stands_92 : decode cX7_stands 92 = .ok (.bipush 32, 2) := by decide +kernel
theorem dX7_stands_94 : decode cX7_stands 94 = .ok (.if_icmp .gt 7, 3) := by decide +kernel
theorem dX7_stands_97 : decode cX7_stands 97 = .ok (.iconst 1, 1) := by decide +kernel
theorem dX7_stands_98 : decode cX7_stands 98 = .ok (.goto 4, 3) := by decide +kernel
theorem dX7_stands_101 : decode cX7_stands 101 = .ok (.iconst 0, 1) := by decide +kernel
theorem dX7_stands_102 : decode cX7_stands 102 = .ok (.ireturn, 1) := by decide +kernel
abbrev k_X7_stands : zK := (cX7_stands, 4, RX7, (some .boolean), ({ frames := 0, cells := 0, slots := 0, locals := 0 } : Room))
theorem zc_X7_stands : zcal yX7_stands k_X7_stands.1 k_X7_stands.2.1 k_X7_stands.2.2.2.1 1 := ⟨tw_code_yX7_stands, tw_i_TollForHesitatorsModel, ⟨by decide +kernel, by decide +kernel⟩, by decide +kernel⟩
theorem zv_X7_stands : Cond.instanceMethod yX7_stands ∈ TS ∧ Cond.selects RX7 yX7_stands yX7_stands ∈ TS := ⟨tw_inst_yX7_stands, tw_s_yX7_stands⟩
def v_X7_stands_r (M : mT) : Nat → Nat → Int32 → Int32 → Int32 → Int32
  | 0, _, _, _, _ => 0
  | n + 1, l, v1, v2, v3 => if l = 0 then if v1 ≤ v3 then v_X7_stands_r M n 1 0 v2 (M.1 27) else v_X7_stands_r M n 0 v1 (v2 + 1) (v3 + (if ((M.2.1 22) v2.toNatClampNeg) = 0 then 1 else 0)) else if ((M.2.1 22) v2.toNatClampNeg) ≤ 32 then (if 32 < ((M.2.1 22) v2.toNatClampNeg) then 0 else 1) else if (M.1 28) ≤ v3 then (if 32 < ((M.2.1 22) v2.toNatClampNeg) then 0 else 1) else if (((M.2.2 20) ((M.1 26) + v3).toNatClampNeg).toInt32) = ((M.2.1 22) v2.toNatClampNeg) then v_X7_stands_r M n 1 0 (v2 + 1) (v3 + 1) else (if 32 < ((M.2.1 22) v2.toNatClampNeg) then 0 else 1)
def p_X7_stands_r (M : mT) : Nat → Nat → Int32 → Int32 → Int32 → Prop
  | 0, _, _, _, _ => False
  | n + 1, l, v1, v2, v3 => if l = 0 then if v1 ≤ v3 then p_X7_stands_r M n 1 0 v2 (M.1 27) else vp_in v2 36 ∧ (p_X7_stands_r M n 0 v1 (v2 + 1) (v3 + (if ((M.2.1 22) v2.toNatClampNeg) = 0 then 1 else 0))) else vp_in v2 36 ∧ (if ((M.2.1 22) v2.toNatClampNeg) ≤ 32 then vp_in v2 36 else if (M.1 28) ≤ v3 then vp_in v2 36 else (vp_in ((M.1 26) + v3) 1280) ∧ (vp_in v2 36 ∧ (if (((M.2.2 20) ((M.1 26) + v3).toNatClampNeg).toInt32) = ((M.2.1 22) v2.toNatClampNeg) then p_X7_stands_r M n 1 0 (v2 + 1) (v3 + 1) else vp_in v2 36)))
set_option maxHeartbeats 4000000 in
theorem w_X7_stands {G : zG} {Γ : zT} {a : Nat → Nat} {res : Int32} (M : mT) (hF : va_P G.2.1 CL (mW G a M) Γ.2.2.1.1.heap) (hQ : zQ Γ (vp_Si (fun r => r = res)) 0 0 (fun _ => False)) : ∀ n : Nat, (∀ (v1 : Int32) (v2 : Int32) (v3 : Int32), p_X7_stands_r M n 0 v1 v2 v3 → v_X7_stands_r M n 0 v1 v2 v3 = res → Z k_X7_stands G Γ (rd Γ.2.2.1.1.heap) 0 0 [(0, .ref (a 0)), (1, .int v1), (2, .int v2), (3, .int v3)] 4 []) ∧ (∀ (v1 : Int32) (v2 : Int32) (v3 : Int32), p_X7_stands_r M n 1 v1 v2 v3 → v_X7_stands_r M n 1 v1 v2 v3 = res → Z k_X7_stands G Γ (rd Γ.2.2.1.1.heap) 0 0 [(0, .ref (a 0)), (2, .int v2), (3, .int v3)] 37 []) := by
  have hI := rd_P (G := G) hF
  intro n
  induction n with
  | zero => exact ⟨fun v1 v2 v3 hp => absurd hp (by rw [p_X7_stands_r]; exact not_false), fun v1 v2 v3 hp => absurd hp (by rw [p_X7_stands_r]; exact not_false)⟩
  | succ n ih =>
    refine ⟨?_, ?_⟩
    · intro v1 v2 v3 hp hv
      rw [p_X7_stands_r] at hp
      rw [v_X7_stands_r] at hv
      have hp := ip_t hp rfl
      have hv := it_t hv rfl
      refine z_iload_n dX7_stands_4 rfl ?_
      refine z_iload_n dX7_stands_5 rfl ?_
      refine z_icmp_ge (tgt := 32) dX7_stands_6 (by decide) (fun c1 => ?_) (fun c1 => ?_)
      · have hp := ip_t hp c1; have hv := it_t hv c1
        refine z_aload_n dX7_stands_32 rfl ?_
        refine mg_27 (v := M.1 27) hI rfl rfl dX7_stands_33 ?_
        refine z_istore_n (lv' := [(3, .int (M.1 27)), (0, .ref (a 0)), (1, .int v1), (2, .int v2)]) dX7_stands_36 (Nat.le_of_ble_eq_true rfl) rfl ?_
        exact z_lv rfl ((ih).2 0 v2 (M.1 27) hp hv)
      · have hp := ip_f hp c1; have hv := it_f hv c1
        refine z_iload_n dX7_stands_9 rfl ?_
        refine z_aload_n dX7_stands_10 rfl ?_
        refine mg_22 hI rfl dX7_stands_11 ?_
        refine z_iload_n dX7_stands_14 rfl ?_
        obtain ⟨q5, hp⟩ := hp
        refine ml_22 (x := (M.2.1 22) v2.toNatClampNeg) hI q5 rfl dX7_stands_15 ?_
        have J30 : ∀ m7 : Int32, m7 = (if ((M.2.1 22) v2.toNatClampNeg) = 0 then 1 else 0) → Z k_X7_stands G Γ (rd Γ.2.2.1.1.heap) 0 0 [(0, .ref (a 0)), (1, .int v1), (2, .int v2), (3, .int v3)] 24 [.int m7, .int v3] := by
          intro m7 em7
          rewrite [em7]; clear em7
          refine z_iadd dX7_stands_24 ?_
          refine z_istore_n (lv' := [(3, .int (v3 + (if ((M.2.1 22) v2.toNatClampNeg) = 0 then 1 else 0))), (0, .ref (a 0)), (1, .int v1), (2, .int v2)]) dX7_stands_25 (Nat.le_of_ble_eq_true rfl) rfl ?_
          refine z_iinc (v := v2 + 1) (lv' := [(2, .int (v2 + 1)), (3, .int (v3 + (if ((M.2.1 22) v2.toNatClampNeg) = 0 then 1 else 0))), (0, .ref (a 0)), (1, .int v1)]) dX7_stands_26 3 rfl rfl (Nat.le_of_ble_eq_true rfl) rfl ?_
          refine z_goto (tgt := 4) dX7_stands_29 (by decide) ?_
          exact z_lv rfl ((ih).1 v1 (v2 + 1) (v3 + (if ((M.2.1 22) v2.toNatClampNeg) = 0 then 1 else 0)) hp hv)
        refine z_if_ne (tgt := 23) dX7_stands_16 (by decide) (fun c6 => ?_) (fun c6 => ?_)
        · skip
          refine z_iconst (v := 0) dX7_stands_23 rfl ?_
          exact z_lv rfl (J30 _ (if_neg c6).symm)
        · skip
          refine z_iconst (v := 1) dX7_stands_19 rfl ?_
          refine z_goto (tgt := 24) dX7_stands_20 (by decide) ?_
          exact z_lv rfl (J30 _ (if_pos c6).symm)
    · intro v1 v2 v3 hp hv
      rw [p_X7_stands_r] at hp
      rw [v_X7_stands_r] at hv
      have hp := ip_f hp (by decide)
      have hv := it_f hv (by decide)
      refine z_aload_n dX7_stands_37 rfl ?_
      refine mg_22 hI rfl dX7_stands_38 ?_
      refine z_iload_n dX7_stands_41 rfl ?_
      obtain ⟨q8, hp⟩ := hp
      refine ml_22 (x := (M.2.1 22) v2.toNatClampNeg) hI q8 rfl dX7_stands_42 ?_
      refine z_bipush (v := 32) dX7_stands_43 rfl ?_
      refine z_icmp_le (tgt := 86) dX7_stands_45 (by decide) (fun c9 => ?_) (fun c9 => ?_)
      · have hp := ip_t hp c9; have hv := it_t hv c9
        refine z_aload_n dX7_stands_86 rfl ?_
        refine mg_22 hI rfl dX7_stands_87 ?_
        refine z_iload_n dX7_stands_90 rfl ?_
        have q14 := hp
        refine ml_22 (x := (M.2.1 22) v2.toNatClampNeg) hI q14 rfl dX7_stands_91 ?_
        refine z_bipush (v := 32) dX7_stands_92 rfl ?_
        have J31 : ∀ m16 : Int32, m16 = (if 32 < ((M.2.1 22) v2.toNatClampNeg) then 0 else 1) → Z k_X7_stands G Γ (rd Γ.2.2.1.1.heap) 0 0 [(0, .ref (a 0)), (2, .int v2), (3, .int v3)] 102 [.int m16] := by
          intro m16 em16
          rewrite [em16]; clear em16
          exact z_zret_S hQ rfl (by (repeat' (first | with_reducible exact nz0 | with_reducible exact nz1 | with_reducible assumption | split))) hv dX7_stands_102
        refine z_icmp_gt (tgt := 101) dX7_stands_94 (by decide) (fun c15 => ?_) (fun c15 => ?_)
        · skip
          refine z_iconst (v := 0) dX7_stands_101 rfl ?_
          exact z_lv rfl (J31 _ (if_pos c15).symm)
        · skip
          refine z_iconst (v := 1) dX7_stands_97 rfl ?_
          refine z_goto (tgt := 102) dX7_stands_98 (by decide) ?_
          exact z_lv rfl (J31 _ (if_neg c15).symm)
      · have hp := ip_f hp c9; have hv := it_f hv c9
        refine z_iload_n dX7_stands_48 rfl ?_
        refine z_aload_n dX7_stands_49 rfl ?_
        refine mg_28 (v := M.1 28) hI rfl rfl dX7_stands_50 ?_
        refine z_icmp_ge (tgt := 86) dX7_stands_53 (by decide) (fun c17 => ?_) (fun c17 => ?_)
        · have hp := ip_t hp c17; have hv := it_t hv c17
          refine z_aload_n dX7_stands_86 rfl ?_
          refine mg_22 hI rfl dX7_stands_87 ?_
          refine z_iload_n dX7_stands_90 rfl ?_
          have q21 := hp
          refine ml_22 (x := (M.2.1 22) v2.toNatClampNeg) hI q21 rfl dX7_stands_91 ?_
          refine z_bipush (v := 32) dX7_stands_92 rfl ?_
          have J32 : ∀ m23 : Int32, m23 = (if 32 < ((M.2.1 22) v2.toNatClampNeg) then 0 else 1) → Z k_X7_stands G Γ (rd Γ.2.2.1.1.heap) 0 0 [(0, .ref (a 0)), (2, .int v2), (3, .int v3)] 102 [.int m23] := by
            intro m23 em23
            rewrite [em23]; clear em23
            exact z_zret_S hQ rfl (by (repeat' (first | with_reducible exact nz0 | with_reducible exact nz1 | with_reducible assumption | split))) hv dX7_stands_102
          refine z_icmp_gt (tgt := 101) dX7_stands_94 (by decide) (fun c22 => ?_) (fun c22 => ?_)
          · skip
            refine z_iconst (v := 0) dX7_stands_101 rfl ?_
            exact z_lv rfl (J32 _ (if_pos c22).symm)
          · skip
            refine z_iconst (v := 1) dX7_stands_97 rfl ?_
            refine z_goto (tgt := 102) dX7_stands_98 (by decide) ?_
            exact z_lv rfl (J32 _ (if_neg c22).symm)
        · have hp := ip_f hp c17; have hv := it_f hv c17
          refine z_aload_n dX7_stands_56 rfl ?_
          refine mg_20 hI rfl dX7_stands_57 ?_
          refine z_aload_n dX7_stands_60 rfl ?_
          refine mg_26 (v := M.1 26) hI rfl rfl dX7_stands_61 ?_
          refine z_iload_n dX7_stands_64 rfl ?_
          refine z_iadd dX7_stands_65 ?_
          obtain ⟨q24, hp⟩ := hp
          refine ml_20 (x := (M.2.2 20) ((M.1 26) + v3).toNatClampNeg) hI q24 rfl dX7_stands_66 ?_
          refine z_l2i dX7_stands_67 ?_
          refine z_aload_n dX7_stands_68 rfl ?_
          refine mg_22 hI rfl dX7_stands_69 ?_
          refine z_iload_n dX7_stands_72 rfl ?_
          obtain ⟨q25, hp⟩ := hp
          refine ml_22 (x := (M.2.1 22) v2.toNatClampNeg) hI q25 rfl dX7_stands_73 ?_
          refine z_icmp_ne (tgt := 86) dX7_stands_74 (by decide) (fun c26 => ?_) (fun c26 => ?_)
          · have hp := ip_f hp c26; have hv := it_f hv c26
            refine z_aload_n dX7_stands_86 rfl ?_
            refine mg_22 hI rfl dX7_stands_87 ?_
            refine z_iload_n dX7_stands_90 rfl ?_
            have q27 := hp
            refine ml_22 (x := (M.2.1 22) v2.toNatClampNeg) hI q27 rfl dX7_stands_91 ?_
            refine z_bipush (v := 32) dX7_stands_92 rfl ?_
            have J33 : ∀ m29 : Int32, m29 = (if 32 < ((M.2.1 22) v2.toNatClampNeg) then 0 else 1) → Z k_X7_stands G Γ (rd Γ.2.2.1.1.heap) 0 0 [(0, .ref (a 0)), (2, .int v2), (3, .int v3)] 102 [.int m29] := by
              intro m29 em29
              rewrite [em29]; clear em29
              exact z_zret_S hQ rfl (by (repeat' (first | with_reducible exact nz0 | with_reducible exact nz1 | with_reducible assumption | split))) hv dX7_stands_102
            refine z_icmp_gt (tgt := 101) dX7_stands_94 (by decide) (fun c28 => ?_) (fun c28 => ?_)
            · skip
              refine z_iconst (v := 0) dX7_stands_101 rfl ?_
              exact z_lv rfl (J33 _ (if_pos c28).symm)
            · skip
              refine z_iconst (v := 1) dX7_stands_97 rfl ?_
              refine z_goto (tgt := 102) dX7_stands_98 (by decide) ?_
              exact z_lv rfl (J33 _ (if_neg c28).symm)
          · have hp := ip_t hp c26; have hv := it_t hv c26
            refine z_iinc (v := v3 + 1) (lv' := [(3, .int (v3 + 1)), (0, .ref (a 0)), (2, .int v2)]) dX7_stands_77 2 rfl rfl (Nat.le_of_ble_eq_true rfl) rfl ?_
            refine z_iinc (v := v2 + 1) (lv' := [(2, .int (v2 + 1)), (3, .int (v3 + 1)), (0, .ref (a 0))]) dX7_stands_80 2 rfl rfl (Nat.le_of_ble_eq_true rfl) rfl ?_
            refine z_goto (tgt := 37) dX7_stands_83 (by decide) ?_
            exact z_lv rfl ((ih).2 0 (v2 + 1) (v3 + 1) hp hv)
def v_X7_stands (M : mT) (x1 : Int32) : Int32 := v_X7_stands_r M 200 0 x1 0 0
def p_X7_stands (M : mT) (x1 : Int32) : Prop := p_X7_stands_r M 200 0 x1 0 0
set_option maxHeartbeats 4000000 in
theorem c_X7_stands {l : Launch} (G : zG) (a : Nat → Nat) (M : mT) (x1 : Int32) (hp : p_X7_stands M x1) : Met l yX7_stands (.code yX7_stands k_X7_stands.1 k_X7_stands.2.1 k_X7_stands.2.2.2.1 :: TS) k_X7_stands.2.2.2.2 (Pz G [.ref (a 0), .int x1] (va_P G.2.1 CL (mW G a M))) (vp_Si (fun r => r = v_X7_stands M x1)) 0 0 (fun _ => False) := by
  refine zmet (by decide +kernel) rfl rfl (fun Γ hl0 hQ hN hF => ?_)
  have hI := rd_P (G := G) hF
  obtain ⟨res, hv⟩ : ∃ res, v_X7_stands M x1 = res := ⟨_, rfl⟩
  rw [hv] at hQ
  unfold v_X7_stands at hv
  unfold p_X7_stands at hp
  show Z k_X7_stands G Γ _ 0 0 [(0, .ref (a 0)), (1, .int x1)] 0 []
  refine z_iconst (v := 0) dX7_stands_0 rfl ?_
  refine z_istore_n (lv' := [(2, .int 0), (0, .ref (a 0)), (1, .int x1)]) dX7_stands_1 (Nat.le_of_ble_eq_true rfl) rfl ?_
  refine z_iconst (v := 0) dX7_stands_2 rfl ?_
  refine z_istore_n (lv' := [(3, .int 0), (2, .int 0), (0, .ref (a 0)), (1, .int x1)]) dX7_stands_3 (Nat.le_of_ble_eq_true rfl) rfl ?_
  exact z_lv rfl ((w_X7_stands M hF hQ 200).1 x1 0 0 hp hv)
theorem dX7_word_0 : decode cX7_word 0 = .ok (.iconst 0, 1) := by decide +kernel
theorem dX7_word_1 : decode cX7_word 1 = .ok (.istore_n 1, 1) := by decide +kernel
theorem dX7_word_2 : decode cX7_word 2 = .ok (.aload_n 0, 1) := by decide +kernel
theorem dX7_word_3 : decode cX7_word 3 = .ok (.getfield 141, 3) := by decide +kernel
theorem dX7_word_6 : decode cX7_word 6 = .ok (.istore_n 2, 1) := by decide +kernel
theorem dX7_word_7 : decode cX7_word 7 = .ok (.iconst 0, 1) := by decide +kernel
theorem dX7_word_8 : decode cX7_word 8 = .ok (.istore_n 3, 1) := by decide +kernel
theorem dX7_word_9 : decode cX7_word 9 = .ok (.iload_n 3, 1) := by decide +kernel
theorem dX7_word_10 : decode cX7_word 10 = .ok (.bipush 6, 2) := by decide +kernel
theorem dX7_word_12 : decode cX7_word 12 = .ok (.if_icmp .ge 118, 3) := by decide +kernel
theorem dX7_word_15 : decode cX7_word 15 = .ok (.aload_n 0, 1) := by decide +kernel
theorem dX7_word_16 : decode cX7_word 16 = .ok (.getfield 141, 3) := by decide +kernel
theorem dX7_word_19 : decode cX7_word 19 = .ok (.istore 4, 2) := by decide +kernel
theorem dX7_word_21 : decode cX7_word 21 = .ok (.iload_n 1, 1) := by decide +kernel
theorem dX7_word_22 : decode cX7_word 22 = .ok (.istore 5, 2) := by decide +kernel
theorem dX7_word_24 : decode cX7_word 24 = .ok (.aload_n 0, 1) := by decide +kernel
theorem dX7_word_25 : decode cX7_word 25 = .ok (.getfield 69, 3) := by decide +kernel
theorem dX7_word_28 : decode cX7_word 28 = .ok (.iload 5, 2) := by decide +kernel
theorem dX7_word_30 : decode cX7_word 30 = .ok (.iaload, 1) := by decide +kernel
theorem dX7_word_31 : decode cX7_word 31 = .ok (.ifCond .eq 44, 3) := by decide +kernel
theorem dX7_word_34 : decode cX7_word 34 = .ok (.iload 4, 2) := by decide +kernel
theorem dX7_word_36 : decode cX7_word 36 = .ok (.aload_n 0, 1) := by decide +kernel
theorem dX7_word_37 : decode cX7_word 37 = .ok (.getfield 144, 3) := by decide +kernel
theorem dX7_word_40 : decode cX7_word 40 = .ok (.if_icmp .ge 35, 3) := by decide +kernel
theorem dX7_word_43 : decode cX7_word 43 = .ok (.aload_n 0, 1) := by decide +kernel
theorem dX7_word_44 : decode cX7_word 44 = .ok (.getfield 62, 3) := by decide +kernel
theorem dX7_word_47 : decode cX7_word 47 = .ok (.aload_n 0, 1) := by decide +kernel
theorem dX7_word_48 : decode cX7_word 48 = .ok (.getfield 147, 3) := by decide +kernel
theorem dX7_word_51 : decode cX7_word 51 = .ok (.iload 4, 2) := by decide +kernel
theorem dX7_word_53 : decode cX7_word 53 = .ok (.iadd, 1) := by decide +kernel
theorem dX7_word_54 : decode cX7_word 54 = .ok (.laload, 1) := by decide +kernel
theorem dX7_word_55 : decode cX7_word 55 = .ok (.l2i, 1) := by decide +kernel
theorem dX7_word_56 : decode cX7_word 56 = .ok (.aload_n 0, 1) := by decide +kernel
theorem dX7_word_57 : decode cX7_word 57 = .ok (.getfield 69, 3) := by decide +kernel
theorem dX7_word_60 : decode cX7_word 60 = .ok (.iload 5, 2) := by decide +kernel
theorem dX7_word_62 : decode cX7_word 62 = .ok (.iaload, 1) := by decide +kernel
theorem dX7_word_63 : decode cX7_word 63 = .ok (.if_icmp .ne 12, 3) := by decide +kernel
theorem dX7_word_66 : decode cX7_word 66 = .ok (.iinc 4 1, 3) := by decide +kernel
theorem dX7_word_69 : decode cX7_word 69 = .ok (.iinc 5 1, 3) := by decide +kernel
theorem dX7_word_72 : decode cX7_word 72 = .ok (.goto (-48), 3) := by decide +kernel
theorem dX7_word_75 : decode cX7_word 75 = .ok (.aload_n 0, 1) := by decide +kernel
theorem dX7_word_76 : decode cX7_word 76 = .ok (.getfield 69, 3) := by decide +kernel
theorem dX7_word_79 : decode cX7_word 79 = .ok (.iload 5, 2) := by decide +kernel
theorem dX7_word_81 : decode cX7_word 81 = .ok (.iaload, 1) := by decide +kernel
theorem dX7_word_82 : decode cX7_word 82 = .ok (.ifCond .ne 11, 3) := by decide +kernel
theorem dX7_word_85 : decode cX7_word 85 = .ok (.aload_n 0, 1) := by decide +kernel
theorem dX7_word_86 : decode cX7_word 86 = .ok (.iload 4, 2) := by decide +kernel
theorem dX7_word_88 : decode cX7_word 88 = .ok (.putfield 141, 3) := by decide +kernel
theorem dX7_word_91 : decode cX7_word 91 = .ok (.iload_n 3, 1) := by decide +kernel
theorem dX7_word_92 : decode cX7_word 92 = .ok (.ireturn, 1) := by decide +kernel
theorem dX7_word_93 : decode cX7_word 93 = .ok (.iload 4, 2) := by decide +kernel
theorem dX7_word_95 : decode cX7_word 95 = .ok (.iload_n 2, 1) := by decide +kernel
theorem dX7_word_96 : decode cX7_word 96 = .ok (.if_icmp .le 8, 3) := by decide +kernel
theorem dX7_word_99 : decode cX7_word 99 = .ok (.iload 4, 2) := by decide +kernel
theorem dX7_word_101 : decode cX7_word 101 = .ok (.goto 4, 3) := by decide +kernel
theorem dX7_word_104 : decode cX7_word 104 = .ok (.iload_n 2, 1) := by decide +kernel
theorem dX7_word_105 : decode cX7_word 105 = .ok (.istore_n 2, 1) := by decide +kernel
theorem dX7_word_106 : decode cX7_word 106 = .ok (.aload_n 0, 1) := by decide +kernel
theorem dX7_word_107 : decode cX7_word 107 = .ok (.getfield 69, 3) := by decide +kernel
theorem dX7_word_110 : decode cX7_word 110 = .ok (.iload_n 1, 1) := by decide +kernel
theorem dX7_word_111 : decode cX7_word 111 = .ok (.iaload, 1) := by decide +kernel
theorem dX7_word_112 : decode cX7_word 112 = .ok (.ifCond .eq 9, 3) := by decide +kernel
theorem dX7_word_115 : decode cX7_word 115 = .ok (.iinc 1 1, 3) := by decide +kernel
theorem dX7_word_118 : decode cX7_word 118 = .ok (.goto (-12), 3) := by decide +kernel
theorem dX7_word_121 : decode cX7_word 121 = .ok (.iinc 1 1, 3) := by decide +kernel
theorem dX7_word_124 : decode cX7_word 124 = .ok (.iinc 3 1, 3) := by decide +kernel
theorem dX7_word_127 : decode cX7_word 127 = .ok (.goto (-118), 3) := by decide +kernel
theorem dX7_word_130 : decode cX7_word 130 = .ok (.aload_n 0, 1) := by decide +kernel
theorem dX7_word_131 : decode cX7_word 131 = .ok (.iload_n 2, 1) := by decide +kernel
theorem dX7_word_132 : decode cX7_word 132 = .ok (.putfield 138, 3) := by decide +kernel
theorem dX7_word_135 : decode cX7_word 135 = .ok (.iconst (-1), 1) := by decide +kernel
theorem dX7_word_136 : decode cX7_word 136 = .ok (.ireturn, 1) := by decide +kernel
abbrev k_X7_word : zK := (cX7_word, 6, RX7, (some .int), ({ frames := 0, cells := 0, slots := 0, locals := 0 } : Room))
theorem zc_X7_word : zcal yX7_word k_X7_word.1 k_X7_word.2.1 k_X7_word.2.2.2.1 0 := ⟨tw_code_yX7_word, tw_i_TollForHesitatorsModel, ⟨by decide +kernel, by decide +kernel⟩, by decide +kernel⟩
theorem zv_X7_word : Cond.instanceMethod yX7_word ∈ TS ∧ Cond.selects RX7 yX7_word yX7_word ∈ TS := ⟨tw_inst_yX7_word, tw_s_yX7_word⟩
def v_X7_word_r : Nat → Nat → mT → Int32 → Int32 → Int32 → Int32 → Int32 → Int32 × mT
  | 0, _, M, _, _, _, _, _ => (0, M)
  | n + 1, l, M, v1, v2, v3, v4, v5 => if l = 0 then if 6 ≤ v3 then ((-1), msf M 30 v2) else v_X7_word_r n 1 M v1 v2 v3 (M.1 27) v1 else if l = 1 then if ((M.2.1 22) v5.toNatClampNeg) = 0 then if ((M.2.1 22) v5.toNatClampNeg) = 0 then (v3, msf M 27 v4) else v_X7_word_r n 2 M v1 (if v4 ≤ v2 then v2 else v4) v3 0 0 else if (M.1 28) ≤ v4 then if ((M.2.1 22) v5.toNatClampNeg) = 0 then (v3, msf M 27 v4) else v_X7_word_r n 2 M v1 (if v4 ≤ v2 then v2 else v4) v3 0 0 else if (((M.2.2 20) ((M.1 26) + v4).toNatClampNeg).toInt32) = ((M.2.1 22) v5.toNatClampNeg) then v_X7_word_r n 1 M v1 v2 v3 (v4 + 1) (v5 + 1) else if ((M.2.1 22) v5.toNatClampNeg) = 0 then (v3, msf M 27 v4) else v_X7_word_r n 2 M v1 (if v4 ≤ v2 then v2 else v4) v3 0 0 else if ((M.2.1 22) v1.toNatClampNeg) = 0 then v_X7_word_r n 0 M (v1 + 1) v2 (v3 + 1) 0 0 else v_X7_word_r n 2 M (v1 + 1) v2 v3 0 0
def p_X7_word_r : Nat → Nat → mT → Int32 → Int32 → Int32 → Int32 → Int32 → Prop
  | 0, _, _, _, _, _, _, _ => False
  | n + 1, l, M, v1, v2, v3, v4, v5 => if l = 0 then if 6 ≤ v3 then True else p_X7_word_r n 1 M v1 v2 v3 (M.1 27) v1 else if l = 1 then vp_in v5 36 ∧ (if ((M.2.1 22) v5.toNatClampNeg) = 0 then vp_in v5 36 ∧ (if ((M.2.1 22) v5.toNatClampNeg) = 0 then True else p_X7_word_r n 2 M v1 (if v4 ≤ v2 then v2 else v4) v3 0 0) else if (M.1 28) ≤ v4 then vp_in v5 36 ∧ (if ((M.2.1 22) v5.toNatClampNeg) = 0 then True else p_X7_word_r n 2 M v1 (if v4 ≤ v2 then v2 else v4) v3 0 0) else (vp_in ((M.1 26) + v4) 1280) ∧ (vp_in v5 36 ∧ (if (((M.2.2 20) ((M.1 26) + v4).toNatClampNeg).toInt32) = ((M.2.1 22) v5.toNatClampNeg) then p_X7_word_r n 1 M v1 v2 v3 (v4 + 1) (v5 + 1) else vp_in v5 36 ∧ (if ((M.2.1 22) v5.toNatClampNeg) = 0 then True else p_X7_word_r n 2 M v1 (if v4 ≤ v2 then v2 else v4) v3 0 0)))) else vp_in v1 36 ∧ (if ((M.2.1 22) v1.toNatClampNeg) = 0 then p_X7_word_r n 0 M (v1 + 1) v2 (v3 + 1) 0 0 else p_X7_word_r n 2 M (v1 + 1) v2 v3 0 0)
set_option maxHeartbeats 4000000 in
theorem w_X7_word {G : zG} {Γ : zT} {a : Nat → Nat} {A : Nat → Prop} {res : Int32 × mT} {X : zX} (hw : wk X A Γ.2.2.1.1.heap) (hQ : zQ Γ (Qwi G (fun r w => r = res.1 ∧ w = mW G a res.2) A) 0 0 A) : ∀ n : Nat, (∀ (M : mT) (v1 : Int32) (v2 : Int32) (v3 : Int32) (v4 : Int32) (v5 : Int32), p_X7_word_r n 0 M v1 v2 v3 v4 v5 → v_X7_word_r n 0 M v1 v2 v3 v4 v5 = res → Z k_X7_word G Γ (wr G A Γ.2.2.1.1.heap (mW G a M)) 0 0 [(0, .ref (a 0)), (1, .int v1), (2, .int v2), (3, .int v3)] 9 []) ∧ (∀ (M : mT) (v1 : Int32) (v2 : Int32) (v3 : Int32) (v4 : Int32) (v5 : Int32), p_X7_word_r n 1 M v1 v2 v3 v4 v5 → v_X7_word_r n 1 M v1 v2 v3 v4 v5 = res → Z k_X7_word G Γ (wr G A Γ.2.2.1.1.heap (mW G a M)) 0 0 [(0, .ref (a 0)), (1, .int v1), (2, .int v2), (3, .int v3), (4, .int v4), (5, .int v5)] 24 []) ∧ (∀ (M : mT) (v1 : Int32) (v2 : Int32) (v3 : Int32) (v4 : Int32) (v5 : Int32), p_X7_word_r n 2 M v1 v2 v3 v4 v5 → v_X7_word_r n 2 M v1 v2 v3 v4 v5 = res → Z k_X7_word G Γ (wr G A Γ.2.2.1.1.heap (mW G a M)) 0 0 [(0, .ref (a 0)), (1, .int v1), (2, .int v2), (3, .int v3)] 106 []) := by
  intro n
  induction n with
  | zero => exact ⟨fun M v1 v2 v3 v4 v5 hp => absurd hp (by rw [p_X7_word_r]; exact not_false), fun M v1 v2 v3 v4 v5 hp => absurd hp (by rw [p_X7_word_r]; exact not_false), fun M v1 v2 v3 v4 v5 hp => absurd hp (by rw [p_X7_word_r]; exact not_false)⟩
  | succ n ih =>
    refine ⟨?_, ?_, ?_⟩
    · intro M v1 v2 v3 v4 v5 hp hv
      rw [p_X7_word_r] at hp
      rw [v_X7_word_r] at hv
      have hp := ip_t hp rfl
      have hv := it_t hv rfl
      refine z_iload_n dX7_word_9 rfl ?_
      refine z_bipush (v := 6) dX7_word_10 rfl ?_
      refine z_icmp_ge (tgt := 130) dX7_word_12 (by decide) (fun c1 => ?_) (fun c1 => ?_)
      · have hp := ip_t hp c1; have hv := it_t hv c1
        refine z_aload_n dX7_word_130 rfl ?_
        refine z_iload_n dX7_word_131 rfl ?_
        refine mp_30 (v := v2) rfl dX7_word_132 ?_
        refine z_iconst (v := (-1)) dX7_word_135 rfl ?_
        subst hv; exact z_iret_W hQ rfl rfl rfl ⟨rfl, rfl⟩ dX7_word_136
      · have hp := ip_f hp c1; have hv := it_f hv c1
        refine z_aload_n dX7_word_15 rfl ?_
        refine mg_27 (v := M.1 27) wr_P rfl rfl dX7_word_16 ?_
        refine z_istore (lv' := [(4, .int (M.1 27)), (0, .ref (a 0)), (1, .int v1), (2, .int v2), (3, .int v3)]) dX7_word_19 (Nat.le_of_ble_eq_true rfl) rfl ?_
        refine z_iload_n dX7_word_21 rfl ?_
        refine z_istore (lv' := [(5, .int v1), (4, .int (M.1 27)), (0, .ref (a 0)), (1, .int v1), (2, .int v2), (3, .int v3)]) dX7_word_22 (Nat.le_of_ble_eq_true rfl) rfl ?_
        exact z_lv rfl ((ih).2.1 M v1 v2 v3 (M.1 27) v1 hp hv)
    · intro M v1 v2 v3 v4 v5 hp hv
      rw [p_X7_word_r] at hp
      rw [v_X7_word_r] at hv
      have hp := ip_f hp (by decide)
      have hv := it_f hv (by decide)
      have hp := ip_t hp rfl
      have hv := it_t hv rfl
      refine z_aload_n dX7_word_24 rfl ?_
      refine mg_22 wr_P rfl dX7_word_25 ?_
      refine z_iload dX7_word_28 rfl ?_
      obtain ⟨q2, hp⟩ := hp
      refine ml_22 (x := (M.2.1 22) v5.toNatClampNeg) wr_P q2 rfl dX7_word_30 ?_
      refine z_if_eq (tgt := 75) dX7_word_31 (by decide) (fun c3 => ?_) (fun c3 => ?_)
      · have hp := ip_t hp c3; have hv := it_t hv c3
        refine z_aload_n dX7_word_75 rfl ?_
        refine mg_22 wr_P rfl dX7_word_76 ?_
        refine z_iload dX7_word_79 rfl ?_
        obtain ⟨q8, hp⟩ := hp
        refine ml_22 (x := (M.2.1 22) v5.toNatClampNeg) wr_P q8 rfl dX7_word_81 ?_
        refine z_if_ne (tgt := 93) dX7_word_82 (by decide) (fun c9 => ?_) (fun c9 => ?_)
        · have hp := ip_f hp c9; have hv := it_f hv c9
          refine z_iload dX7_word_93 rfl ?_
          refine z_iload_n dX7_word_95 rfl ?_
          have J29 : ∀ m11 : Int32, m11 = (if v4 ≤ v2 then v2 else v4) → Z k_X7_word G Γ (wr G A Γ.2.2.1.1.heap (mW G a M)) 0 0 [(0, .ref (a 0)), (1, .int v1), (2, .int v2), (3, .int v3), (4, .int v4), (5, .int v5)] 105 [.int m11] := by
            intro m11 em11
            rewrite [em11]; clear em11
            refine z_istore_n (lv' := [(2, .int (if v4 ≤ v2 then v2 else v4)), (0, .ref (a 0)), (1, .int v1), (3, .int v3), (4, .int v4), (5, .int v5)]) dX7_word_105 (Nat.le_of_ble_eq_true rfl) rfl ?_
            exact z_lv rfl ((ih).2.2 M v1 (if v4 ≤ v2 then v2 else v4) v3 0 0 hp hv)
          refine z_icmp_le (tgt := 104) dX7_word_96 (by decide) (fun c10 => ?_) (fun c10 => ?_)
          · skip
            refine z_iload_n dX7_word_104 rfl ?_
            exact z_lv rfl (J29 _ (if_pos c10).symm)
          · skip
            refine z_iload dX7_word_99 rfl ?_
            refine z_goto (tgt := 105) dX7_word_101 (by decide) ?_
            exact z_lv rfl (J29 _ (if_neg c10).symm)
        · have hp := ip_t hp c9; have hv := it_t hv c9
          refine z_aload_n dX7_word_85 rfl ?_
          refine z_iload dX7_word_86 rfl ?_
          refine mp_27 (v := v4) rfl dX7_word_88 ?_
          refine z_iload_n dX7_word_91 rfl ?_
          subst hv; exact z_iret_W hQ rfl rfl rfl ⟨rfl, rfl⟩ dX7_word_92
      · have hp := ip_f hp c3; have hv := it_f hv c3
        refine z_iload dX7_word_34 rfl ?_
        refine z_aload_n dX7_word_36 rfl ?_
        refine mg_28 (v := M.1 28) wr_P rfl rfl dX7_word_37 ?_
        refine z_icmp_ge (tgt := 75) dX7_word_40 (by decide) (fun c12 => ?_) (fun c12 => ?_)
        · have hp := ip_t hp c12; have hv := it_t hv c12
          refine z_aload_n dX7_word_75 rfl ?_
          refine mg_22 wr_P rfl dX7_word_76 ?_
          refine z_iload dX7_word_79 rfl ?_
          obtain ⟨q16, hp⟩ := hp
          refine ml_22 (x := (M.2.1 22) v5.toNatClampNeg) wr_P q16 rfl dX7_word_81 ?_
          refine z_if_ne (tgt := 93) dX7_word_82 (by decide) (fun c17 => ?_) (fun c17 => ?_)
          · have hp := ip_f hp c17; have hv := it_f hv c17
            refine z_iload dX7_word_93 rfl ?_
            refine z_iload_n dX7_word_95 rfl ?_
            have J30 : ∀ m19 : Int32, m19 = (if v4 ≤ v2 then v2 else v4) → Z k_X7_word G Γ (wr G A Γ.2.2.1.1.heap (mW G a M)) 0 0 [(0, .ref (a 0)), (1, .int v1), (2, .int v2), (3, .int v3), (4, .int v4), (5, .int v5)] 105 [.int m19] := by
              intro m19 em19
              rewrite [em19]; clear em19
              refine z_istore_n (lv' := [(2, .int (if v4 ≤ v2 then v2 else v4)), (0, .ref (a 0)), (1, .int v1), (3, .int v3), (4, .int v4), (5, .int v5)]) dX7_word_105 (Nat.le_of_ble_eq_true rfl) rfl ?_
              exact z_lv rfl ((ih).2.2 M v1 (if v4 ≤ v2 then v2 else v4) v3 0 0 hp hv)
            refine z_icmp_le (tgt := 104) dX7_word_96 (by decide) (fun c18 => ?_) (fun c18 => ?_)
            · skip
              refine z_iload_n dX7_word_104 rfl ?_
              exact z_lv rfl (J30 _ (if_pos c18).symm)
            · skip
              refine z_iload dX7_word_99 rfl ?_
              refine z_goto (tgt := 105) dX7_word_101 (by decide) ?_
              exact z_lv rfl (J30 _ (if_neg c18).symm)
          · have hp := ip_t hp c17; have hv := it_t hv c17
            refine z_aload_n dX7_word_85 rfl ?_
            refine z_iload dX7_word_86 rfl ?_
            refine mp_27 (v := v4) rfl dX7_word_88 ?_
            refine z_iload_n dX7_word_91 rfl ?_
            subst hv; exact z_iret_W hQ rfl rfl rfl ⟨rfl, rfl⟩ dX7_word_92
        · have hp := ip_f hp c12; have hv := it_f hv c12
          refine z_aload_n dX7_word_43 rfl ?_
          refine mg_20 wr_P rfl dX7_word_44 ?_
          refine z_aload_n dX7_word_47 rfl ?_
          refine mg_26 (v := M.1 26) wr_P rfl rfl dX7_word_48 ?_
          refine z_iload dX7_word_51 rfl ?_
          refine z_iadd dX7_word_53 ?_
          obtain ⟨q20, hp⟩ := hp
          refine ml_20 (x := (M.2.2 20) ((M.1 26) + v4).toNatClampNeg) wr_P q20 rfl dX7_word_54 ?_
          refine z_l2i dX7_word_55 ?_
          refine z_aload_n dX7_word_56 rfl ?_
          refine mg_22 wr_P rfl dX7_word_57 ?_
          refine z_iload dX7_word_60 rfl ?_
          obtain ⟨q21, hp⟩ := hp
          refine ml_22 (x := (M.2.1 22) v5.toNatClampNeg) wr_P q21 rfl dX7_word_62 ?_
          refine z_icmp_ne (tgt := 75) dX7_word_63 (by decide) (fun c22 => ?_) (fun c22 => ?_)
          · have hp := ip_f hp c22; have hv := it_f hv c22
            refine z_aload_n dX7_word_75 rfl ?_
            refine mg_22 wr_P rfl dX7_word_76 ?_
            refine z_iload dX7_word_79 rfl ?_
            obtain ⟨q23, hp⟩ := hp
            refine ml_22 (x := (M.2.1 22) v5.toNatClampNeg) wr_P q23 rfl dX7_word_81 ?_
            refine z_if_ne (tgt := 93) dX7_word_82 (by decide) (fun c24 => ?_) (fun c24 => ?_)
            · have hp := ip_f hp c24; have hv := it_f hv c24
              refine z_iload dX7_word_93 rfl ?_
              refine z_iload_n dX7_word_95 rfl ?_
              have J31 : ∀ m26 : Int32, m26 = (if v4 ≤ v2 then v2 else v4) → Z k_X7_word G Γ (wr G A Γ.2.2.1.1.heap (mW G a M)) 0 0 [(0, .ref (a 0)), (1, .int v1), (2, .int v2), (3, .int v3), (4, .int v4), (5, .int v5)] 105 [.int m26] := by
                intro m26 em26
                rewrite [em26]; clear em26
                refine z_istore_n (lv' := [(2, .int (if v4 ≤ v2 then v2 else v4)), (0, .ref (a 0)), (1, .int v1), (3, .int v3), (4, .int v4), (5, .int v5)]) dX7_word_105 (Nat.le_of_ble_eq_true rfl) rfl ?_
                exact z_lv rfl ((ih).2.2 M v1 (if v4 ≤ v2 then v2 else v4) v3 0 0 hp hv)
              refine z_icmp_le (tgt := 104) dX7_word_96 (by decide) (fun c25 => ?_) (fun c25 => ?_)
              · skip
                refine z_iload_n dX7_word_104 rfl ?_
                exact z_lv rfl (J31 _ (if_pos c25).symm)
              · skip
                refine z_iload dX7_word_99 rfl ?_
                refine z_goto (tgt := 105) dX7_word_101 (by decide) ?_
                exact z_lv rfl (J31 _ (if_neg c25).symm)
            · have hp := ip_t hp c24; have hv := it_t hv c24
              refine z_aload_n dX7_word_85 rfl ?_
              refine z_iload dX7_word_86 rfl ?_
              refine mp_27 (v := v4) rfl dX7_word_88 ?_
              refine z_iload_n dX7_word_91 rfl ?_
              subst hv; exact z_iret_W hQ rfl rfl rfl ⟨rfl, rfl⟩ dX7_word_92
          · have hp := ip_t hp c22; have hv := it_t hv c22
            refine z_iinc (v := v4 + 1) (lv' := [(4, .int (v4 + 1)), (0, .ref (a 0)), (1, .int v1), (2, .int v2), (3, .int v3), (5, .int v5)]) dX7_word_66 4 rfl rfl (Nat.le_of_ble_eq_true rfl) rfl ?_
            refine z_iinc (v := v5 + 1) (lv' := [(5, .int (v5 + 1)), (4, .int (v4 + 1)), (0, .ref (a 0)), (1, .int v1), (2, .int v2), (3, .int v3)]) dX7_word_69 5 rfl rfl (Nat.le_of_ble_eq_true rfl) rfl ?_
            refine z_goto (tgt := 24) dX7_word_72 (by decide) ?_
            exact z_lv rfl ((ih).2.1 M v1 v2 v3 (v4 + 1) (v5 + 1) hp hv)
    · intro M v1 v2 v3 v4 v5 hp hv
      rw [p_X7_word_r] at hp
      rw [v_X7_word_r] at hv
      have hp := ip_f hp (by decide)
      have hv := it_f hv (by decide)
      have hp := ip_f hp (by decide)
      have hv := it_f hv (by decide)
      refine z_aload_n dX7_word_106 rfl ?_
      refine mg_22 wr_P rfl dX7_word_107 ?_
      refine z_iload_n dX7_word_110 rfl ?_
      obtain ⟨q27, hp⟩ := hp
      refine ml_22 (x := (M.2.1 22) v1.toNatClampNeg) wr_P q27 rfl dX7_word_111 ?_
      refine z_if_eq (tgt := 121) dX7_word_112 (by decide) (fun c28 => ?_) (fun c28 => ?_)
      · have hp := ip_t hp c28; have hv := it_t hv c28
        refine z_iinc (v := v1 + 1) (lv' := [(1, .int (v1 + 1)), (0, .ref (a 0)), (2, .int v2), (3, .int v3)]) dX7_word_121 1 rfl rfl (Nat.le_of_ble_eq_true rfl) rfl ?_
        refine z_iinc (v := v3 + 1) (lv' := [(3, .int (v3 + 1)), (1, .int (v1 + 1)), (0, .ref (a 0)), (2, .int v2)]) dX7_word_124 3 rfl rfl (Nat.le_of_ble_eq_true rfl) rfl ?_
        refine z_goto (tgt := 9) dX7_word_127 (by decide) ?_
        exact z_lv rfl ((ih).1 M (v1 + 1) v2 (v3 + 1) 0 0 hp hv)
      · have hp := ip_f hp c28; have hv := it_f hv c28
        refine z_iinc (v := v1 + 1) (lv' := [(1, .int (v1 + 1)), (0, .ref (a 0)), (2, .int v2), (3, .int v3)]) dX7_word_115 1 rfl rfl (Nat.le_of_ble_eq_true rfl) rfl ?_
        refine z_goto (tgt := 106) dX7_word_118 (by decide) ?_
        exact z_lv rfl ((ih).2.2 M (v1 + 1) v2 v3 0 0 hp hv)
def v_X7_word (M : mT) : Int32 × mT := v_X7_word_r 200 0 M 0 (M.1 27) 0 0 0
def p_X7_word (M : mT) : Prop := p_X7_word_r 200 0 M 0 (M.1 27) 0 0 0
set_option maxHeartbeats 4000000 in
theorem c_X7_word {l : Launch} (G : zG) (a : Nat → Nat) {X : zX} (hX : XOK X) (sz : Nat) (M : mT) (hp : p_X7_word M) : Met l yX7_word (.code yX7_word k_X7_word.1 k_X7_word.2.1 k_X7_word.2.2.2.1 :: TS) k_X7_word.2.2.2.2 (Pz G [.ref (a 0)] (Fw G X (mW G a M) sz)) (Qwi G (fun r w => r = (v_X7_word M).1 ∧ w = mW G a (v_X7_word M).2) (va_A (mW G a M) sz)) 0 0 (va_A (mW G a M) sz) := by
  refine zmet (by decide +kernel) rfl rfl (fun Γ hl0 hQ hN hF => ?_)
  refine z_start hX hF (fun hw => ?_)
  generalize va_A (mW G a M) sz = A at hQ hw ⊢
  obtain ⟨res, hv⟩ : ∃ res, v_X7_word M = res := ⟨_, rfl⟩
  rw [hv] at hQ
  unfold v_X7_word at hv
  unfold p_X7_word at hp
  show Z k_X7_word G Γ _ 0 0 [(0, .ref (a 0))] 0 []
  refine z_iconst (v := 0) dX7_word_0 rfl ?_
  refine z_istore_n (lv' := [(1, .int 0), (0, .ref (a 0))]) dX7_word_1 (Nat.le_of_ble_eq_true rfl) rfl ?_
  refine z_aload_n dX7_word_2 rfl ?_
  refine mg_27 (v := M.1 27) wr_P rfl rfl dX7_word_3 ?_
  refine z_istore_n (lv' := [(2, .int (M.1 27)), (1, .int 0), (0, .ref (a 0))]) dX7_word_6 (Nat.le_of_ble_eq_true rfl) rfl ?_
  refine z_iconst (v := 0) dX7_word_7 rfl ?_
  refine z_istore_n (lv' := [(3, .int 0), (2, .int (M.1 27)), (1, .int 0), (0, .ref (a 0))]) dX7_word_8 (Nat.le_of_ble_eq_true rfl) rfl ?_
  exact z_lv rfl ((w_X7_word hw hQ 200).1 M 0 (M.1 27) 0 0 0 hp hv)
theorem dX7_isDigit_0 : decode cX7_isDigit 0 = .ok (.aload_n 0, 1) := by decide +kernel
theorem dX7_isDigit_1 : decode cX7_isDigit 1 = .ok (.getfield 141, 3) := by decide +kernel
theorem dX7_isDigit_4 : decode cX7_isDigit 4 = .ok (.aload_n 0, 1) := by decide +kernel
theorem dX7_isDigit_5 : decode cX7_isDigit 5 = .ok (.getfield 144, 3) := by decide +kernel
theorem dX7_isDigit_8 : decode cX7_isDigit 8 = .ok (.if_icmp .ge 47, 3) := by decide +kernel
theorem dX7_isDigit_11 : decode cX7_isDigit 11 = .ok (.aload_n 0, 1) := by decide +kernel
theorem dX7_isDigit_12 : decode cX7_isDigit 12 = .ok (.getfield 62, 3) := by decide +kernel
theorem dX7_isDigit_15 : decode cX7_isDigit 15 = .ok (.aload_n 0, 1) := by decide +kernel
theorem dX7_isDigit_16 : decode cX7_isDigit 16 = .ok (.getfield 147, 3) := by decide +kernel
theorem dX7_isDigit_19 : decode cX7_isDigit 19 = .ok (.aload_n 0, 1) := by decide +kernel
theorem dX7_isDigit_20 : decode cX7_isDigit 20 = .ok (.getfield 141, 3) := by decide +kernel
theorem dX7_isDigit_23 : decode cX7_isDigit 23 = .ok (.iadd, 1) := by decide +kernel
theorem dX7_isDigit_24 : decode cX7_isDigit 24 = .ok (.laload, 1) := by decide +kernel
theorem dX7_isDigit_25 : decode cX7_isDigit 25 = .ok (.l2i, 1) := by decide +kernel
theorem dX7_isDigit_26 : decode cX7_isDigit 26 = .ok (.bipush 48, 2) := by decide +kernel
theorem dX7_isDigit_28 : decode cX7_isDigit 28 = .ok (.if_icmp .lt 27, 3) := by decide +kernel
theorem dX7_isDigit_31 : decode cX7_isDigit 31 = .ok (.aload_n 0, 1) := by decide +kernel
theorem dX7_isDigit_32 : decode cX7_isDigit 32 = .ok (.getfield 62, 3) := by decide +kernel
theorem dX7_isDigit_35 : decode cX7_isDigit 35 = .ok (.aload_n 0, 1) := by decide +kernel
theorem dX7_isDigit_36 : decode cX7_isDigit 36 = .ok (.getfield 147, 3) := by decide +kernel
theorem dX7_isDigit_39 : decode cX7_isDigit 39 = .ok (.aload_n 0, 1) := by decide +kernel
theorem dX7_isDigit_40 : decode cX7_isDigit 40 = .ok (.getfield 141, 3) := by decide +kernel
theorem dX7_isDigit_43 : decode cX7_isDigit 43 = .ok (.iadd, 1) := by decide +kernel
theorem dX7_isDigit_44 : decode cX7_isDigit 44 = .ok (.laload, 1) := by decide +kernel
theorem dX7_isDigit_45 : decode cX7_isDigit 45 = .ok (.l2i, 1) := by decide +kernel
theorem dX7_isDigit_46 : decode cX7_isDigit 46 = .ok (.bipush 57, 2) := by decide +kernel
theorem dX7_isDigit_48 : decode cX7_isDigit 48 = .ok (.if_icmp .gt 7, 3) := by decide +kernel
theorem dX7_isDigit_51 : decode cX7_isDigit 51 = .ok (.iconst 1, 1) := by decide +kernel
theorem dX7_isDigit_52 : decode cX7_isDigit 52 = .ok (.goto 4, 3) := by decide +kernel
theorem dX7_isDigit_55 : decode cX7_isDigit 55 = .ok (.iconst 0, 1) := by decide +kernel
theorem dX7_isDigit_56 : decode cX7_isDigit 56 = .ok (.ireturn, 1) := by decide +kernel
abbrev k_X7_isDigit : zK := (cX7_isDigit, 1, RX7, (some .boolean), ({ frames := 0, cells := 0, slots := 0, locals := 0 } : Room))
theorem zc_X7_isDigit : zcal yX7_isDigit k_X7_isDigit.1 k_X7_isDigit.2.1 k_X7_isDigit.2.2.2.1 0 := ⟨tw_code_yX7_isDigit, tw_i_TollForHesitatorsModel, ⟨by decide +kernel, by decide +kernel⟩, by decide +kernel⟩
theorem zv_X7_isDigit : Cond.instanceMethod yX7_isDigit ∈ TS ∧ Cond.selects RX7 yX7_isDigit yX7_isDigit ∈ TS := ⟨tw_inst_yX7_isDigit, tw_s_yX7_isDigit⟩
def v_X7_isDigit (M : mT) : Int32 := (if (M.1 28) ≤ (M.1 27) then 0 else (if (((M.2.2 20) ((M.1 26) + (M.1 27)).toNatClampNeg).toInt32) < 48 then 0 else (if 57 < (((M.2.2 20) ((M.1 26) + (M.1 27)).toNatClampNeg).toInt32) then 0 else 1)))
def p_X7_isDigit (M : mT) : Prop := if (M.1 28) ≤ (M.1 27) then True else (vp_in ((M.1 26) + (M.1 27)) 1280) ∧ (if (((M.2.2 20) ((M.1 26) + (M.1 27)).toNatClampNeg).toInt32) < 48 then True else vp_in ((M.1 26) + (M.1 27)) 1280)
theorem nb_X7_isDigit (M : mT) : narrow .boolean (.int (v_X7_isDigit M)) = .int (v_X7_isDigit M) := by
  unfold v_X7_isDigit
  skip
  (repeat' (first | with_reducible exact nz0 | with_reducible exact nz1 | with_reducible assumption | split))
set_option maxHeartbeats 4000000 in
theorem c_X7_isDigit {l : Launch} (G : zG) (a : Nat → Nat) (M : mT) (hp : p_X7_isDigit M) : Met l yX7_isDigit (.code yX7_isDigit k_X7_isDigit.1 k_X7_isDigit.2.1 k_X7_isDigit.2.2.2.1 :: TS) k_X7_isDigit.2.2.2.2 (Pz G [.ref (a 0)] (va_P G.2.1 CL (mW G a M))) (vp_Si (fun r => r = v_X7_isDigit M)) 0 0 (fun _ => False) := by
  refine zmet (by decide +kernel) rfl rfl (fun Γ hl0 hQ hN hF => ?_)
  have hI := rd_P (G := G) hF
  obtain ⟨res, hv⟩ : ∃ res, v_X7_isDigit M = res := ⟨_, rfl⟩
  rw [hv] at hQ
  unfold v_X7_isDigit at hv
  unfold p_X7_isDigit at hp
  show Z k_X7_isDigit G Γ _ 0 0 [(0, .ref (a 0))] 0 []
  refine z_aload_n dX7_isDigit_0 rfl ?_
  refine mg_27 (v := M.1 27) hI rfl rfl dX7_isDigit_1 ?_
  refine z_aload_n dX7_isDigit_4 rfl ?_
  refine mg_28 (v := M.1 28) hI rfl rfl dX7_isDigit_5 ?_
  have hpm := hp
  have J9 : ∀ m8 : Int32, m8 = (if (M.1 28) ≤ (M.1 27) then 0 else (if (((M.2.2 20) ((M.1 26) + (M.1 27)).toNatClampNeg).toInt32) < 48 then 0 else (if 57 < (((M.2.2 20) ((M.1 26) + (M.1 27)).toNatClampNeg).toInt32) then 0 else 1))) → Z k_X7_isDigit G Γ (rd Γ.2.2.1.1.heap) 0 0 [(0, .ref (a 0))] 56 [.int m8] := by
    intro m8 em8
    rewrite [em8]; clear em8
    exact z_zret_S hQ rfl (by (repeat' (first | with_reducible exact nz0 | with_reducible exact nz1 | with_reducible assumption | split))) hv dX7_isDigit_56
  refine z_icmp_ge (tgt := 55) dX7_isDigit_8 (by decide) (fun c1 => ?_) (fun c1 => ?_)
  · have hp := ip_t hpm c1
    refine z_iconst (v := 0) dX7_isDigit_55 rfl ?_
    exact z_lv rfl (J9 _ (if_pos c1).symm)
  · have hp := ip_f hpm c1
    refine z_aload_n dX7_isDigit_11 rfl ?_
    refine mg_20 hI rfl dX7_isDigit_12 ?_
    refine z_aload_n dX7_isDigit_15 rfl ?_
    refine mg_26 (v := M.1 26) hI rfl rfl dX7_isDigit_16 ?_
    refine z_aload_n dX7_isDigit_19 rfl ?_
    refine mg_27 (v := M.1 27) hI rfl rfl dX7_isDigit_20 ?_
    refine z_iadd dX7_isDigit_23 ?_
    obtain ⟨q2, hp⟩ := hp
    refine ml_20 (x := (M.2.2 20) ((M.1 26) + (M.1 27)).toNatClampNeg) hI q2 rfl dX7_isDigit_24 ?_
    refine z_l2i dX7_isDigit_25 ?_
    refine z_bipush (v := 48) dX7_isDigit_26 rfl ?_
    have hpm := hp
    have J10 : ∀ m7 : Int32, m7 = (if (((M.2.2 20) ((M.1 26) + (M.1 27)).toNatClampNeg).toInt32) < 48 then 0 else (if 57 < (((M.2.2 20) ((M.1 26) + (M.1 27)).toNatClampNeg).toInt32) then 0 else 1)) → Z k_X7_isDigit G Γ (rd Γ.2.2.1.1.heap) 0 0 [(0, .ref (a 0))] 56 [.int m7] := by
      intro m7 em7
      rewrite [em7]; clear em7
      exact z_lv rfl (J9 _ (if_neg c1).symm)
    refine z_icmp_lt (tgt := 55) dX7_isDigit_28 (by decide) (fun c3 => ?_) (fun c3 => ?_)
    · have hp := ip_t hpm c3
      refine z_iconst (v := 0) dX7_isDigit_55 rfl ?_
      exact z_lv rfl (J10 _ (if_pos c3).symm)
    · have hp := ip_f hpm c3
      refine z_aload_n dX7_isDigit_31 rfl ?_
      refine mg_20 hI rfl dX7_isDigit_32 ?_
      refine z_aload_n dX7_isDigit_35 rfl ?_
      refine mg_26 (v := M.1 26) hI rfl rfl dX7_isDigit_36 ?_
      refine z_aload_n dX7_isDigit_39 rfl ?_
      refine mg_27 (v := M.1 27) hI rfl rfl dX7_isDigit_40 ?_
      refine z_iadd dX7_isDigit_43 ?_
      have q4 := hp
      refine ml_20 (x := (M.2.2 20) ((M.1 26) + (M.1 27)).toNatClampNeg) hI q4 rfl dX7_isDigit_44 ?_
      refine z_l2i dX7_isDigit_45 ?_
      refine z_bipush (v := 57) dX7_isDigit_46 rfl ?_
      have J11 : ∀ m6 : Int32, m6 = (if 57 < (((M.2.2 20) ((M.1 26) + (M.1 27)).toNatClampNeg).toInt32) then 0 else 1) → Z k_X7_isDigit G Γ (rd Γ.2.2.1.1.heap) 0 0 [(0, .ref (a 0))] 56 [.int m6] := by
        intro m6 em6
        rewrite [em6]; clear em6
        exact z_lv rfl (J10 _ (if_neg c3).symm)
      refine z_icmp_gt (tgt := 55) dX7_isDigit_48 (by decide) (fun c5 => ?_) (fun c5 => ?_)
      · skip
        refine z_iconst (v := 0) dX7_isDigit_55 rfl ?_
        exact z_lv rfl (J11 _ (if_pos c5).symm)
      · skip
        refine z_iconst (v := 1) dX7_isDigit_51 rfl ?_
        refine z_goto (tgt := 56) dX7_isDigit_52 (by decide) ?_
        exact z_lv rfl (J11 _ (if_neg c5).symm)
theorem dX7_reads_0 : decode cX7_reads 0 = .ok (.aload_n 0, 1) := by decide +kernel
theorem dX7_reads_1 : decode cX7_reads 1 = .ok (.iconst 0, 1) := by decide +kernel
theorem dX7_reads_2 : decode cX7_reads 2 = .ok (.putfield 150, 3) := by decide +kernel
theorem dX7_reads_5 : decode cX7_reads 5 = .ok (.aload_n 0, 1) := by decide +kernel
theorem dX7_reads_6 : decode cX7_reads 6 = .ok (.invokevirtual 153, 3) := by decide +kernel
theorem dX7_reads_9 : decode cX7_reads 9 = .ok (.ifCond .ne 12, 3) := by decide +kernel
theorem dX7_reads_12 : decode cX7_reads 12 = .ok (.aload_n 0, 1) := by decide +kernel
theorem dX7_reads_13 : decode cX7_reads 13 = .ok (.aload_n 0, 1) := by decide +kernel
theorem dX7_reads_14 : decode cX7_reads 14 = .ok (.getfield 141, 3) := by decide +kernel
theorem dX7_reads_17 : decode cX7_reads 17 = .ok (.invokevirtual 157, 3) := by decide +kernel
theorem dX7_reads_20 : decode cX7_reads 20 = .ok (.ireturn, 1) := by decide +kernel
theorem dX7_reads_21 : decode cX7_reads 21 = .ok (.iconst 0, 1) := by decide +kernel
theorem dX7_reads_22 : decode cX7_reads 22 = .ok (.istore_n 1, 1) := by decide +kernel
theorem dX7_reads_23 : decode cX7_reads 23 = .ok (.iload_n 1, 1) := by decide +kernel
theorem dX7_reads_24 : decode cX7_reads 24 = .ok (.iconst 2, 1) := by decide +kernel
theorem dX7_reads_25 : decode cX7_reads 25 = .ok (.if_icmp .ge 56, 3) := by decide +kernel
theorem dX7_reads_28 : decode cX7_reads 28 = .ok (.aload_n 0, 1) := by decide +kernel
theorem dX7_reads_29 : decode cX7_reads 29 = .ok (.invokevirtual 153, 3) := by decide +kernel
theorem dX7_reads_32 : decode cX7_reads 32 = .ok (.ifCond .eq 49, 3) := by decide +kernel
theorem dX7_reads_35 : decode cX7_reads 35 = .ok (.aload_n 0, 1) := by decide +kernel
theorem dX7_reads_36 : decode cX7_reads 36 = .ok (.bipush 10, 2) := by decide +kernel
theorem dX7_reads_38 : decode cX7_reads 38 = .ok (.aload_n 0, 1) := by decide +kernel
theorem dX7_reads_39 : decode cX7_reads 39 = .ok (.getfield 150, 3) := by decide +kernel
theorem dX7_reads_42 : decode cX7_reads 42 = .ok (.imul, 1) := by decide +kernel
theorem dX7_reads_43 : decode cX7_reads 43 = .ok (.aload_n 0, 1) := by decide +kernel
theorem dX7_reads_44 : decode cX7_reads 44 = .ok (.getfield 62, 3) := by decide +kernel
theorem dX7_reads_47 : decode cX7_reads 47 = .ok (.aload_n 0, 1) := by decide +kernel
theorem dX7_reads_48 : decode cX7_reads 48 = .ok (.getfield 147, 3) := by decide +kernel
theorem dX7_reads_51 : decode cX7_reads 51 = .ok (.aload_n 0, 1) := by decide +kernel
theorem dX7_reads_52 : decode cX7_reads 52 = .ok (.getfield 141, 3) := by decide +kernel
theorem dX7_reads_55 : decode cX7_reads 55 = .ok (.iadd, 1) := by decide +kernel
theorem dX7_reads_56 : decode cX7_reads 56 = .ok (.laload, 1) := by decide +kernel
theorem dX7_reads_57 : decode cX7_reads 57 = .ok (.l2i, 1) := by decide +kernel
theorem dX7_reads_58 : decode cX7_reads 58 = .ok (.iadd, 1) := by decide +kernel
theorem dX7_reads_59 : decode cX7_reads 59 = .ok (.bipush 48, 2) := by decide +kernel
theorem dX7_reads_61 : decode cX7_reads 61 = .ok (.isub, 1) := by decide +kernel
theorem dX7_reads_62 : decode cX7_reads 62 = .ok (.putfield 150, 3) := by decide +kernel
theorem dX7_reads_65 : decode cX7_reads 65 = .ok (.aload_n 0, 1) := by decide +kernel
theorem dX7_reads_66 : decode cX7_reads 66 = .ok (.dup, 1) := by decide +kernel
theorem dX7_reads_67 : decode cX7_reads 67 = .ok (.getfield 141, 3) := by decide +kernel
theorem dX7_reads_70 : decode cX7_reads 70 = .ok (.iconst 1, 1) := by decide +kernel
theorem dX7_reads_71 : decode cX7_reads 71 = .ok (.iadd, 1) := by decide +kernel
theorem dX7_reads_72 : decode cX7_reads 72 = .ok (.putfield 141, 3) := by decide +kernel
theorem dX7_reads_75 : decode cX7_reads 75 = .ok (.iinc 1 1, 3) := by decide +kernel
theorem dX7_reads_78 : decode cX7_reads 78 = .ok (.goto (-55), 3) := by decide +kernel
theorem dX7_reads_81 : decode cX7_reads 81 = .ok (.iconst 1, 1) := by decide +kernel
theorem dX7_reads_82 : decode cX7_reads 82 = .ok (.ireturn, 1) := by decide +kernel
abbrev k_X7_reads : zK := (cX7_reads, 2, RX7, (some .boolean), ({ frames := 1, cells := 0, slots := 0, locals := 21 } : Room))
theorem zc_X7_reads : zcal yX7_reads k_X7_reads.1 k_X7_reads.2.1 k_X7_reads.2.2.2.1 0 := ⟨tw_code_yX7_reads, tw_i_TollForHesitatorsModel, ⟨by decide +kernel, by decide +kernel⟩, by decide +kernel⟩
theorem zv_X7_reads : Cond.instanceMethod yX7_reads ∈ TS ∧ Cond.selects RX7 yX7_reads yX7_reads ∈ TS := ⟨tw_inst_yX7_reads, tw_s_yX7_reads⟩
def v_X7_reads_r : Nat → mT → Int32 → Int32 × mT
  | 0, M, _ => (0, M)
  | n + 1, M, v1 => if 2 ≤ v1 then (1, M) else if (v_X7_isDigit M) = 0 then (1, M) else kk (((10 * (M.1 29)) + (((M.2.2 20) ((M.1 26) + (M.1 27)).toNatClampNeg).toInt32)) - 48) (fun y12 : Int32 => v_X7_reads_r n (msf (msf M 29 y12) 27 ((M.1 27) + 1)) (v1 + 1))
def p_X7_reads_r : Nat → mT → Int32 → Prop
  | 0, _, _ => False
  | n + 1, M, v1 => if 2 ≤ v1 then True else p_X7_isDigit M ∧ (if (v_X7_isDigit M) = 0 then True else (vp_in ((M.1 26) + (M.1 27)) 1280) ∧ (kk (((10 * (M.1 29)) + (((M.2.2 20) ((M.1 26) + (M.1 27)).toNatClampNeg).toInt32)) - 48) (fun y12 : Int32 => p_X7_reads_r n (msf (msf M 29 y12) 27 ((M.1 27) + 1)) (v1 + 1))))
set_option maxHeartbeats 4000000 in
theorem w_X7_reads {G : zG} {Γ : zT} {a : Nat → Nat} {A : Nat → Prop} {res : Int32 × mT} {X : zX} (hw : wk X A Γ.2.2.1.1.heap) (hQ : zQ Γ (Qwi G (fun r w => r = res.1 ∧ w = mW G a res.2) A) 0 0 A) : ∀ n : Nat, (∀ (M : mT) (v1 : Int32), p_X7_reads_r n M v1 → v_X7_reads_r n M v1 = res → Z k_X7_reads G Γ (wr G A Γ.2.2.1.1.heap (mW G a M)) 0 0 [(0, .ref (a 0)), (1, .int v1)] 23 []) := by
  intro n
  induction n with
  | zero => exact fun M v1 hp => absurd hp (by rw [p_X7_reads_r]; exact not_false)
  | succ n ih =>
    intro M v1 hp hv
    rw [p_X7_reads_r] at hp
    rw [v_X7_reads_r] at hv
    refine z_iload_n dX7_reads_23 rfl ?_
    refine z_iconst (v := 2) dX7_reads_24 rfl ?_
    refine z_icmp_ge (tgt := 81) dX7_reads_25 (by decide) (fun c4 => ?_) (fun c4 => ?_)
    · have hp := ip_t hp c4; have hv := it_t hv c4
      refine z_iconst (v := 1) dX7_reads_81 rfl ?_
      subst hv; exact z_zret_W hQ rfl rfl rfl rfl ⟨rfl, rfl⟩ dX7_reads_82
    · have hp := ip_f hp c4; have hv := it_f hv c4
      refine z_aload_n dX7_reads_28 rfl ?_
      obtain ⟨q8, hp⟩ := hp
      refine z_cvi (c_X7_isDigit G a M q8) zc_X7_isDigit zv_X7_isDigit tw_m_RX7_153 (mrec wr_P) wr_P (zroom_of rfl) rfl (Nat.le_of_ble_eq_true rfl) dX7_reads_29 ?_
      refine z_if_eq (tgt := 81) dX7_reads_32 (by decide) (fun c9 => ?_) (fun c9 => ?_)
      · have hp := ip_t hp c9; have hv := it_t hv c9
        refine z_iconst (v := 1) dX7_reads_81 rfl ?_
        subst hv; exact z_zret_W hQ rfl rfl rfl rfl ⟨rfl, rfl⟩ dX7_reads_82
      · have hp := ip_f hp c9; have hv := it_f hv c9
        refine z_aload_n dX7_reads_35 rfl ?_
        refine z_bipush (v := 10) dX7_reads_36 rfl ?_
        refine z_aload_n dX7_reads_38 rfl ?_
        refine mg_29 (v := M.1 29) wr_P rfl rfl dX7_reads_39 ?_
        refine z_imul dX7_reads_42 ?_
        refine z_aload_n dX7_reads_43 rfl ?_
        refine mg_20 wr_P rfl dX7_reads_44 ?_
        refine z_aload_n dX7_reads_47 rfl ?_
        refine mg_26 (v := M.1 26) wr_P rfl rfl dX7_reads_48 ?_
        refine z_aload_n dX7_reads_51 rfl ?_
        refine mg_27 (v := M.1 27) wr_P rfl rfl dX7_reads_52 ?_
        refine z_iadd dX7_reads_55 ?_
        obtain ⟨q11, hp⟩ := hp
        refine ml_20 (x := (M.2.2 20) ((M.1 26) + (M.1 27)).toNatClampNeg) wr_P q11 rfl dX7_reads_56 ?_
        refine z_l2i dX7_reads_57 ?_
        refine z_iadd dX7_reads_58 ?_
        refine z_bipush (v := 48) dX7_reads_59 rfl ?_
        refine z_isub dX7_reads_61 ?_
        suffices z13 : ∀ y12 : Int32, y12 = (((10 * (M.1 29)) + (((M.2.2 20) ((M.1 26) + (M.1 27)).toNatClampNeg).toInt32)) - 48) → Z k_X7_reads G Γ (wr G A Γ.2.2.1.1.heap (mW G a M)) 0 0 [(0, .ref (a 0)), (1, .int v1)] 62 [.int y12, .ref (a 0)] from z13 _ rfl
        intro y12 hy12
        have hp := kk_pq hp hy12
        have hv := kk_vq hv hy12
        clear hy12
        refine mp_29 (v := y12) rfl dX7_reads_62 ?_
        refine z_aload_n dX7_reads_65 rfl ?_
        refine z_dup dX7_reads_66 rfl ?_
        refine mg_27 (v := M.1 27) wr_P rfl rfl dX7_reads_67 ?_
        refine z_iconst (v := 1) dX7_reads_70 rfl ?_
        refine z_iadd dX7_reads_71 ?_
        refine mp_27 (v := (M.1 27) + 1) rfl dX7_reads_72 ?_
        refine z_iinc (v := v1 + 1) (lv' := [(1, .int (v1 + 1)), (0, .ref (a 0))]) dX7_reads_75 1 rfl rfl (Nat.le_of_ble_eq_true rfl) rfl ?_
        refine z_goto (tgt := 23) dX7_reads_78 (by decide) ?_
        exact z_lv rfl ((ih) (msf (msf M 29 y12) 27 ((M.1 27) + 1)) (v1 + 1) hp hv)
def v_X7_reads (M : mT) : Int32 × mT := if (v_X7_isDigit (msf M 29 0)) = 0 then kk (v_X7_wrong (msf M 29 0) (M.1 27)) (fun q3 : Int32 × mT => (q3.1, q3.2)) else v_X7_reads_r 200 (msf M 29 0) 0
def p_X7_reads (M : mT) : Prop := (p_X7_isDigit (msf M 29 0)) ∧ (if (v_X7_isDigit (msf M 29 0)) = 0 then True else p_X7_reads_r 200 (msf M 29 0) 0)
set_option maxHeartbeats 4000000 in
theorem c_X7_reads {l : Launch} (G : zG) (a : Nat → Nat) {X : zX} (hX : XOK X) (sz : Nat) (M : mT) (hp : p_X7_reads M) : Met l yX7_reads (.code yX7_reads k_X7_reads.1 k_X7_reads.2.1 k_X7_reads.2.2.2.1 :: TS) k_X7_reads.2.2.2.2 (Pz G [.ref (a 0)] (Fw G X (mW G a M) sz)) (Qwi G (fun r w => r = (v_X7_reads M).1 ∧ w = mW G a (v_X7_reads M).2) (va_A (mW G a M) sz)) 0 0 (va_A (mW G a M) sz) := by
  refine zmet (by decide +kernel) rfl rfl (fun Γ hl0 hQ hN hF => ?_)
  refine z_start hX hF (fun hw => ?_)
  generalize va_A (mW G a M) sz = A at hQ hw ⊢
  obtain ⟨res, hv⟩ : ∃ res, v_X7_reads M = res := ⟨_, rfl⟩
  rw [hv] at hQ
  unfold v_X7_reads at hv
  unfold p_X7_reads at hp
  show Z k_X7_reads G Γ _ 0 0 [(0, .ref (a 0))] 0 []
  refine z_aload_n dX7_reads_0 rfl ?_
  refine z_iconst (v := 0) dX7_reads_1 rfl ?_
  refine mp_29 (v := 0) rfl dX7_reads_2 ?_
  refine z_aload_n dX7_reads_5 rfl ?_
  obtain ⟨q1, hp⟩ := hp
  refine z_cvi (c_X7_isDigit G a (msf M 29 0) q1) zc_X7_isDigit zv_X7_isDigit tw_m_RX7_153 (mrec wr_P) wr_P (zroom_of rfl) rfl (Nat.le_of_ble_eq_true rfl) dX7_reads_6 ?_
  refine z_if_ne (tgt := 21) dX7_reads_9 (by decide) (fun c2 => ?_) (fun c2 => ?_)
  · have hp := ip_f hp c2; have hv := it_f hv c2
    refine z_iconst (v := 0) dX7_reads_21 rfl ?_
    refine z_istore_n (lv' := [(1, .int 0), (0, .ref (a 0))]) dX7_reads_22 (Nat.le_of_ble_eq_true rfl) rfl ?_
    exact z_lv rfl ((w_X7_reads hw hQ 200) (msf M 29 0) 0 hp hv)
  · have hp := ip_t hp c2; have hv := it_t hv c2
    refine z_aload_n dX7_reads_12 rfl ?_
    refine z_aload_n dX7_reads_13 rfl ?_
    refine mg_27 (v := M.1 27) wr_P rfl rfl dX7_reads_14 ?_
    refine z_caviD hw (fun sz => c_X7_wrong G a hw.1 sz (msf M 29 0) (M.1 27) ) zc_X7_wrong zv_X7_wrong tw_m_RX7_157 (mrec wr_P) (zroom_of rfl) rfl (Nat.le_of_ble_eq_true rfl) dX7_reads_17 ?_
    suffices z14 : ∀ q3 : Int32 × mT, q3 = (v_X7_wrong (msf M 29 0) (M.1 27)) → narrow .boolean (.int q3.1) = .int q3.1 → Z k_X7_reads G Γ (wr G A Γ.2.2.1.1.heap (mW G a q3.2)) 0 0 [(0, .ref (a 0))] 20 [.int q3.1] from z14 _ rfl (nb_X7_wrong (msf M 29 0) (M.1 27))
    intro q3 hq3 nq3
    have hv := kk_vq hv hq3
    clear hq3
    subst hv; exact z_zret_W hQ rfl (by (repeat' (first | with_reducible exact nz0 | with_reducible exact nz1 | with_reducible assumption | with_reducible exact nb_X7_isDigit .. | with_reducible exact nb_X7_wrong .. | split))) rfl rfl ⟨rfl, rfl⟩ dX7_reads_20
theorem dX7_isSo_0 : decode cX7_isSo 0 = .ok (.iload_n 1, 1) := by decide +kernel
theorem dX7_isSo_1 : decode cX7_isSo 1 = .ok (.ifCond .ne 28, 3) := by decide +kernel
theorem dX7_isSo_4 : decode cX7_isSo 4 = .ok (.aload_n 0, 1) := by decide +kernel
theorem dX7_isSo_5 : decode cX7_isSo 5 = .ok (.aload_n 0, 1) := by decide +kernel
theorem dX7_isSo_6 : decode cX7_isSo 6 = .ok (.getfield 150, 3) := by decide +kernel
theorem dX7_isSo_9 : decode cX7_isSo 9 = .ok (.iload_n 2, 1) := by decide +kernel
theorem dX7_isSo_10 : decode cX7_isSo 10 = .ok (.iconst 3, 1) := by decide +kernel
theorem dX7_isSo_11 : decode cX7_isSo 11 = .ok (.if_icmp .ne 7, 3) := by decide +kernel
theorem dX7_isSo_14 : decode cX7_isSo 14 = .ok (.iconst 1, 1) := by decide +kernel
theorem dX7_isSo_15 : decode cX7_isSo 15 = .ok (.goto 4, 3) := by decide +kernel
theorem dX7_isSo_18 : decode cX7_isSo 18 = .ok (.iconst 0, 1) := by decide +kernel
theorem dX7_isSo_19 : decode cX7_isSo 19 = .ok (.aload_n 0, 1) := by decide +kernel
theorem dX7_isSo_20 : decode cX7_isSo 20 = .ok (.getfield 75, 3) := by decide +kernel
theorem dX7_isSo_23 : decode cX7_isSo 23 = .ok (.iload_n 2, 1) := by decide +kernel
theorem dX7_isSo_24 : decode cX7_isSo 24 = .ok (.iaload, 1) := by decide +kernel
theorem dX7_isSo_25 : decode cX7_isSo 25 = .ok (.invokevirtual 116, 3) := by decide +kernel
theorem dX7_isSo_28 : decode cX7_isSo 28 = .ok (.ireturn, 1) := by decide +kernel
theorem dX7_isSo_29 : decode cX7_isSo 29 = .ok (.iload_n 1, 1) := by decide +kernel
theorem dX7_isSo_30 : decode cX7_isSo 30 = .ok (.iconst 1, 1) := by decide +kernel
theorem dX7_isSo_31 : decode cX7_isSo 31 = .ok (.if_icmp .ne 41, 3) := by decide +kernel
theorem dX7_isSo_34 : decode cX7_isSo 34 = .ok (.iload_n 2, 1) := by decide +kernel
theorem dX7_isSo_35 : decode cX7_isSo 35 = .ok (.ifCond .ne 22, 3) := by decide +kernel
theorem dX7_isSo_38 : decode cX7_isSo 38 = .ok (.aload_n 0, 1) := by decide +kernel
theorem dX7_isSo_39 : decode cX7_isSo 39 = .ok (.getfield 150, 3) := by decide +kernel
theorem dX7_isSo_42 : decode cX7_isSo 42 = .ok (.aload_n 0, 1) := by decide +kernel
theorem dX7_isSo_43 : decode cX7_isSo 43 = .ok (.getfield 99, 3) := by decide +kernel
theorem dX7_isSo_46 : decode cX7_isSo 46 = .ok (.if_icmp .ge 7, 3) := by decide +kernel
theorem dX7_isSo_49 : decode cX7_isSo 49 = .ok (.iconst 1, 1) := by decide +kernel
theorem dX7_isSo_50 : decode cX7_isSo 50 = .ok (.goto 21, 3) := by decide +kernel
theorem dX7_isSo_53 : decode cX7_isSo 53 = .ok (.iconst 0, 1) := by decide +kernel
theorem dX7_isSo_54 : decode cX7_isSo 54 = .ok (.goto 17, 3) := by decide +kernel
theorem dX7_isSo_57 : decode cX7_isSo 57 = .ok (.aload_n 0, 1) := by decide +kernel
theorem dX7_isSo_58 : decode cX7_isSo 58 = .ok (.getfield 150, 3) := by decide +kernel
theorem dX7_isSo_61 : decode cX7_isSo 61 = .ok (.bipush 30, 2) := by decide +kernel
theorem dX7_isSo_63 : decode cX7_isSo 63 = .ok (.if_icmp .gt 7, 3) := by decide +kernel
theorem dX7_isSo_66 : decode cX7_isSo 66 = .ok (.iconst 1, 1) := by decide +kernel
theorem dX7_isSo_67 : decode cX7_isSo 67 = .ok (.goto 4, 3) := by decide +kernel
theorem dX7_isSo_70 : decode cX7_isSo 70 = .ok (.iconst 0, 1) := by decide +kernel
theorem dX7_isSo_71 : decode cX7_isSo 71 = .ok (.ireturn, 1) := by decide +kernel
theorem dX7_isSo_72 : decode cX7_isSo 72 = .ok (.aload_n 0, 1) := by decide +kernel
theorem dX7_isSo_73 : decode cX7_isSo 73 = .ok (.iload_n 1, 1) := by decide +kernel
theorem dX7_isSo_74 : decode cX7_isSo 74 = .ok (.iconst 2, 1) := by decide +kernel
theorem dX7_isSo_75 : decode cX7_isSo 75 = .ok (.isub, 1) := by decide +kernel
theorem dX7_isSo_76 : decode cX7_isSo 76 = .ok (.aload_n 0, 1) := by decide +kernel
theorem dX7_isSo_77 : decode cX7_isSo 77 = .ok (.getfield 150, 3) := by decide +kernel
theorem dX7_isSo_80 : decode cX7_isSo 80 = .ok (.invokevirtual 127, 3) := by decide +kernel
theorem dX7_isSo_83 : decode cX7_isSo 83 = .ok (.ireturn, 1) := by decide +kernel
abbrev k_X7_isSo : zK := (cX7_isSo, 3, RX7, (some .boolean), ({ frames := 2, cells := 0, slots := 0, locals := 45 } : Room))
theorem zc_X7_isSo : zcal yX7_isSo k_X7_isSo.1 k_X7_isSo.2.1 k_X7_isSo.2.2.2.1 2 := ⟨tw_code_yX7_isSo, tw_i_TollForHesitatorsModel, ⟨by decide +kernel, by decide +kernel⟩, by decide +kernel⟩
theorem zv_X7_isSo : Cond.instanceMethod yX7_isSo ∈ TS ∧ Cond.selects RX7 yX7_isSo yX7_isSo ∈ TS := ⟨tw_inst_yX7_isSo, tw_s_yX7_isSo⟩
def v_X7_isSo (M : mT) (x1 : Int32) (x2 : Int32) : Int32 := if x1 = 0 then (v_X7_isFrom M (M.1 29) (if x2 = 3 then 1 else 0) ((M.2.1 24) x2.toNatClampNeg)) else if x1 = 1 then (if x2 = 0 then (if (M.1 0) ≤ (M.1 29) then 0 else 1) else (if 30 < (M.1 29) then 0 else 1)) else (v_X7_isAsked M (x1 - 2) (M.1 29))
def p_X7_isSo (M : mT) (x1 : Int32) (x2 : Int32) : Prop := if x1 = 0 then vp_in x2 6 else True
theorem nb_X7_isSo (M : mT) (x1 : Int32) (x2 : Int32) : narrow .boolean (.int (v_X7_isSo M x1 x2)) = .int (v_X7_isSo M x1 x2) := by
  unfold v_X7_isSo
  skip
  (repeat' (first | with_reducible exact nz0 | with_reducible exact nz1 | with_reducible assumption | with_reducible exact nb_X7_isAsked .. | with_reducible exact nb_X7_isFrom .. | split))
set_option maxHeartbeats 4000000 in
theorem c_X7_isSo {l : Launch} (G : zG) (a : Nat → Nat) (M : mT) (x1 : Int32) (x2 : Int32) (hp : p_X7_isSo M x1 x2) : Met l yX7_isSo (.code yX7_isSo k_X7_isSo.1 k_X7_isSo.2.1 k_X7_isSo.2.2.2.1 :: TS) k_X7_isSo.2.2.2.2 (Pz G [.ref (a 0), .int x1, .int x2] (va_P G.2.1 CL (mW G a M))) (vp_Si (fun r => r = v_X7_isSo M x1 x2)) 0 0 (fun _ => False) := by
  refine zmet (by decide +kernel) rfl rfl (fun Γ hl0 hQ hN hF => ?_)
  have hI := rd_P (G := G) hF
  obtain ⟨res, hv⟩ : ∃ res, v_X7_isSo M x1 x2 = res := ⟨_, rfl⟩
  rw [hv] at hQ
  unfold v_X7_isSo at hv
  unfold p_X7_isSo at hp
  show Z k_X7_isSo G Γ _ 0 0 [(0, .ref (a 0)), (1, .int x1), (2, .int x2)] 0 []
  refine z_iload_n dX7_isSo_0 rfl ?_
  refine z_if_ne (tgt := 29) dX7_isSo_1 (by decide) (fun c1 => ?_) (fun c1 => ?_)
  · have hp := ip_f hp c1; have hv := it_f hv c1
    refine z_iload_n dX7_isSo_29 rfl ?_
    refine z_iconst (v := 1) dX7_isSo_30 rfl ?_
    refine z_icmp_ne (tgt := 72) dX7_isSo_31 (by decide) (fun c2 => ?_) (fun c2 => ?_)
    · have hv := it_f hv c2
      refine z_aload_n dX7_isSo_72 rfl ?_
      refine z_iload_n dX7_isSo_73 rfl ?_
      refine z_iconst (v := 2) dX7_isSo_74 rfl ?_
      refine z_isub dX7_isSo_75 ?_
      refine z_aload_n dX7_isSo_76 rfl ?_
      refine mg_29 (v := M.1 29) hI rfl rfl dX7_isSo_77 ?_
      refine z_cvi (c_X7_isAsked G a M (x1 - 2) (M.1 29) ) zc_X7_isAsked zv_X7_isAsked tw_m_RX7_127 (mrec hI) hI (zroom_of rfl) rfl (Nat.le_of_ble_eq_true rfl) dX7_isSo_80 ?_
      exact z_zret_S hQ rfl (by (repeat' (first | with_reducible exact nz0 | with_reducible exact nz1 | with_reducible assumption | with_reducible exact nb_X7_isAsked .. | split))) hv dX7_isSo_83
    · have hv := it_t hv c2
      refine z_iload_n dX7_isSo_34 rfl ?_
      have J12 : ∀ m8 : Int32, m8 = (if x2 = 0 then (if (M.1 0) ≤ (M.1 29) then 0 else 1) else (if 30 < (M.1 29) then 0 else 1)) → Z k_X7_isSo G Γ (rd Γ.2.2.1.1.heap) 0 0 [(0, .ref (a 0)), (1, .int x1), (2, .int x2)] 71 [.int m8] := by
        intro m8 em8
        rewrite [em8]; clear em8
        exact z_zret_S hQ rfl (by (repeat' (first | with_reducible exact nz0 | with_reducible exact nz1 | with_reducible assumption | with_reducible exact nb_X7_isAsked .. | split))) hv dX7_isSo_71
      refine z_if_ne (tgt := 57) dX7_isSo_35 (by decide) (fun c3 => ?_) (fun c3 => ?_)
      · skip
        refine z_aload_n dX7_isSo_57 rfl ?_
        refine mg_29 (v := M.1 29) hI rfl rfl dX7_isSo_58 ?_
        refine z_bipush (v := 30) dX7_isSo_61 rfl ?_
        have J13 : ∀ m5 : Int32, m5 = (if 30 < (M.1 29) then 0 else 1) → Z k_X7_isSo G Γ (rd Γ.2.2.1.1.heap) 0 0 [(0, .ref (a 0)), (1, .int x1), (2, .int x2)] 71 [.int m5] := by
          intro m5 em5
          rewrite [em5]; clear em5
          exact z_lv rfl (J12 _ (if_neg c3).symm)
        refine z_icmp_gt (tgt := 70) dX7_isSo_63 (by decide) (fun c4 => ?_) (fun c4 => ?_)
        · skip
          refine z_iconst (v := 0) dX7_isSo_70 rfl ?_
          exact z_lv rfl (J13 _ (if_pos c4).symm)
        · skip
          refine z_iconst (v := 1) dX7_isSo_66 rfl ?_
          refine z_goto (tgt := 71) dX7_isSo_67 (by decide) ?_
          exact z_lv rfl (J13 _ (if_neg c4).symm)
      · skip
        refine z_aload_n dX7_isSo_38 rfl ?_
        refine mg_29 (v := M.1 29) hI rfl rfl dX7_isSo_39 ?_
        refine z_aload_n dX7_isSo_42 rfl ?_
        refine mg_0 (v := M.1 0) hI rfl rfl dX7_isSo_43 ?_
        have J14 : ∀ m7 : Int32, m7 = (if (M.1 0) ≤ (M.1 29) then 0 else 1) → Z k_X7_isSo G Γ (rd Γ.2.2.1.1.heap) 0 0 [(0, .ref (a 0)), (1, .int x1), (2, .int x2)] 71 [.int m7] := by
          intro m7 em7
          rewrite [em7]; clear em7
          exact z_lv rfl (J12 _ (if_pos c3).symm)
        refine z_icmp_ge (tgt := 53) dX7_isSo_46 (by decide) (fun c6 => ?_) (fun c6 => ?_)
        · skip
          refine z_iconst (v := 0) dX7_isSo_53 rfl ?_
          refine z_goto (tgt := 71) dX7_isSo_54 (by decide) ?_
          exact z_lv rfl (J14 _ (if_pos c6).symm)
        · skip
          refine z_iconst (v := 1) dX7_isSo_49 rfl ?_
          refine z_goto (tgt := 71) dX7_isSo_50 (by decide) ?_
          exact z_lv rfl (J14 _ (if_neg c6).symm)
  · have hp := ip_t hp c1; have hv := it_t hv c1
    refine z_aload_n dX7_isSo_4 rfl ?_
    refine z_aload_n dX7_isSo_5 rfl ?_
    refine mg_29 (v := M.1 29) hI rfl rfl dX7_isSo_6 ?_
    refine z_iload_n dX7_isSo_9 rfl ?_
    refine z_iconst (v := 3) dX7_isSo_10 rfl ?_
    have J15 : ∀ m10 : Int32, m10 = (if x2 = 3 then 1 else 0) → Z k_X7_isSo G Γ (rd Γ.2.2.1.1.heap) 0 0 [(0, .ref (a 0)), (1, .int x1), (2, .int x2)] 19 [.int m10, .int (M.1 29), .ref (a 0)] := by
      intro m10 em10
      rewrite [em10]; clear em10
      refine z_aload_n dX7_isSo_19 rfl ?_
      refine mg_24 hI rfl dX7_isSo_20 ?_
      refine z_iload_n dX7_isSo_23 rfl ?_
      have q11 := hp
      refine ml_24 (x := (M.2.1 24) x2.toNatClampNeg) hI q11 rfl dX7_isSo_24 ?_
      refine z_cvi (c_X7_isFrom G a M (M.1 29) (if x2 = 3 then 1 else 0) ((M.2.1 24) x2.toNatClampNeg) ) zc_X7_isFrom zv_X7_isFrom tw_m_RX7_116 (mrec hI) hI (zroom_of rfl) rfl (Nat.le_of_ble_eq_true rfl) dX7_isSo_25 ?_
      exact z_zret_S hQ rfl (by (repeat' (first | with_reducible exact nz0 | with_reducible exact nz1 | with_reducible assumption | with_reducible exact nb_X7_isAsked .. | with_reducible exact nb_X7_isFrom .. | split))) hv dX7_isSo_28
    refine z_icmp_ne (tgt := 18) dX7_isSo_11 (by decide) (fun c9 => ?_) (fun c9 => ?_)
    · skip
      refine z_iconst (v := 0) dX7_isSo_18 rfl ?_
      exact z_lv rfl (J15 _ (if_neg c9).symm)
    · skip
      refine z_iconst (v := 1) dX7_isSo_14 rfl ?_
      refine z_goto (tgt := 19) dX7_isSo_15 (by decide) ?_
      exact z_lv rfl (J15 _ (if_pos c9).symm)
theorem dX7_item_0 : decode cX7_item 0 = .ok (.aload_n 0, 1) := by decide +kernel
theorem dX7_item_1 : decode cX7_item 1 = .ok (.iconst 0, 1) := by decide +kernel
theorem dX7_item_2 : decode cX7_item 2 = .ok (.invokevirtual 160, 3) := by decide +kernel
theorem dX7_item_5 : decode cX7_item 5 = .ok (.ifCond .eq 21, 3) := by decide +kernel
theorem dX7_item_8 : decode cX7_item 8 = .ok (.aload_n 0, 1) := by decide +kernel
theorem dX7_item_9 : decode cX7_item 9 = .ok (.getfield 99, 3) := by decide +kernel
theorem dX7_item_12 : decode cX7_item 12 = .ok (.bipush 7, 2) := by decide +kernel
theorem dX7_item_14 : decode cX7_item 14 = .ok (.if_icmp .ne 12, 3) := by decide +kernel
theorem dX7_item_17 : decode cX7_item 17 = .ok (.aload_n 0, 1) := by decide +kernel
theorem dX7_item_18 : decode cX7_item 18 = .ok (.aload_n 0, 1) := by decide +kernel
theorem dX7_item_19 : decode cX7_item 19 = .ok (.getfield 141, 3) := by decide +kernel
theorem dX7_item_22 : decode cX7_item 22 = .ok (.invokevirtual 157, 3) := by decide +kernel
theorem dX7_item_25 : decode cX7_item 25 = .ok (.ireturn, 1) := by decide +kernel
theorem dX7_item_26 : decode cX7_item 26 = .ok (.aload_n 0, 1) := by decide +kernel
theorem dX7_item_27 : decode cX7_item 27 = .ok (.invokevirtual 163, 3) := by decide +kernel
theorem dX7_item_30 : decode cX7_item 30 = .ok (.istore_n 1, 1) := by decide +kernel
theorem dX7_item_31 : decode cX7_item 31 = .ok (.iload_n 1, 1) := by decide +kernel
theorem dX7_item_32 : decode cX7_item 32 = .ok (.iconst (-1), 1) := by decide +kernel
theorem dX7_item_33 : decode cX7_item 33 = .ok (.if_icmp .ne 5, 3) := by decide +kernel
theorem dX7_item_36 : decode cX7_item 36 = .ok (.iconst 0, 1) := by decide +kernel
theorem dX7_item_37 : decode cX7_item 37 = .ok (.ireturn, 1) := by decide +kernel
theorem dX7_item_38 : decode cX7_item 38 = .ok (.iconst 0, 1) := by decide +kernel
theorem dX7_item_39 : decode cX7_item 39 = .ok (.istore_n 2, 1) := by decide +kernel
theorem dX7_item_40 : decode cX7_item 40 = .ok (.iload_n 2, 1) := by decide +kernel
theorem dX7_item_41 : decode cX7_item 41 = .ok (.aload_n 0, 1) := by decide +kernel
theorem dX7_item_42 : decode cX7_item 42 = .ok (.getfield 72, 3) := by decide +kernel
theorem dX7_item_45 : decode cX7_item 45 = .ok (.iload_n 1, 1) := by decide +kernel
theorem dX7_item_46 : decode cX7_item 46 = .ok (.iaload, 1) := by decide +kernel
theorem dX7_item_47 : decode cX7_item 47 = .ok (.if_icmp .ge 102, 3) := by decide +kernel
theorem dX7_item_50 : decode cX7_item 50 = .ok (.iload_n 2, 1) := by decide +kernel
theorem dX7_item_51 : decode cX7_item 51 = .ok (.ifCond .le 53, 3) := by decide +kernel
theorem dX7_item_54 : decode cX7_item 54 = .ok (.aload_n 0, 1) := by decide +kernel
theorem dX7_item_55 : decode cX7_item 55 = .ok (.getfield 141, 3) := by decide +kernel
theorem dX7_item_58 : decode cX7_item 58 = .ok (.aload_n 0, 1) := by decide +kernel
theorem dX7_item_59 : decode cX7_item 59 = .ok (.getfield 144, 3) := by decide +kernel
theorem dX7_item_62 : decode cX7_item 62 = .ok (.if_icmp .ge 23, 3) := by decide +kernel
theorem dX7_item_65 : decode cX7_item 65 = .ok (.aload_n 0, 1) := by decide +kernel
theorem dX7_item_66 : decode cX7_item 66 = .ok (.getfield 62, 3) := by decide +kernel
theorem dX7_item_69 : decode cX7_item 69 = .ok (.aload_n 0, 1) := by decide +kernel
theorem dX7_item_70 : decode cX7_item 70 = .ok (.getfield 147, 3) := by decide +kernel
theorem dX7_item_73 : decode cX7_item 73 = .ok (.aload_n 0, 1) := by decide +kernel
theorem dX7_item_74 : decode cX7_item 74 = .ok (.getfield 141, 3) := by decide +kernel
theorem dX7_item_77 : decode cX7_item 77 = .ok (.iadd, 1) := by decide +kernel
theorem dX7_item_78 : decode cX7_item 78 = .ok (.laload, 1) := by decide +kernel
theorem dX7_item_79 : decode cX7_item 79 = .ok (.l2i, 1) := by decide +kernel
theorem dX7_item_80 : decode cX7_item 80 = .ok (.bipush 32, 2) := by decide +kernel
theorem dX7_item_82 : decode cX7_item 82 = .ok (.if_icmp .eq 12, 3) := by decide +kernel
theorem dX7_item_85 : decode cX7_item 85 = .ok (.aload_n 0, 1) := by decide +kernel
theorem dX7_item_86 : decode cX7_item 86 = .ok (.aload_n 0, 1) := by decide +kernel
theorem dX7_item_87 : decode cX7_item 87 = .ok (.getfield 141, 3) := by decide +kernel
theorem dX7_item_90 : decode cX7_item 90 = .ok (.invokevirtual 157, 3) := by decide +kernel
theorem dX7_item_93 : decode cX7_item 93 = .ok (.ireturn, 1) := by decide +kernel
theorem dX7_item_94 : decode cX7_item 94 = .ok (.aload_n 0, 1) := by decide +kernel
theorem dX7_item_95 : decode cX7_item 95 = .ok (.dup, 1) := by decide +kernel
theorem dX7_item_96 : decode cX7_item 96 = .ok (.getfield 141, 3) := by decide +kernel
theorem dX7_item_99 : decode cX7_item 99 = .ok (.iconst 1, 1) := by decide +kernel
theorem dX7_item_100 : decode cX7_item 100 = .ok (.iadd, 1) := by decide +kernel
theorem dX7_item_101 : decode cX7_item 101 = .ok (.putfield 141, 3) := by decide +kernel
theorem dX7_item_104 : decode cX7_item 104 = .ok (.aload_n 0, 1) := by decide +kernel
theorem dX7_item_105 : decode cX7_item 105 = .ok (.getfield 141, 3) := by decide +kernel
theorem dX7_item_108 : decode cX7_item 108 = .ok (.istore_n 3, 1) := by decide +kernel
theorem dX7_item_109 : decode cX7_item 109 = .ok (.aload_n 0, 1) := by decide +kernel
theorem dX7_item_110 : decode cX7_item 110 = .ok (.invokevirtual 167, 3) := by decide +kernel
theorem dX7_item_113 : decode cX7_item 113 = .ok (.ifCond .ne 5, 3) := by decide +kernel
theorem dX7_item_116 : decode cX7_item 116 = .ok (.iconst 0, 1) := by decide +kernel
theorem dX7_item_117 : decode cX7_item 117 = .ok (.ireturn, 1) := by decide +kernel
theorem dX7_item_118 : decode cX7_item 118 = .ok (.aload_n 0, 1) := by decide +kernel
theorem dX7_item_119 : decode cX7_item 119 = .ok (.iload_n 1, 1) := by decide +kernel
theorem dX7_item_120 : decode cX7_item 120 = .ok (.iload_n 2, 1) := by decide +kernel
theorem dX7_item_121 : decode cX7_item 121 = .ok (.invokevirtual 170, 3) := by decide +kernel
theorem dX7_item_124 : decode cX7_item 124 = .ok (.ifCond .ne 9, 3) := by decide +kernel
theorem dX7_item_127 : decode cX7_item 127 = .ok (.aload_n 0, 1) := by decide +kernel
theorem dX7_item_128 : decode cX7_item 128 = .ok (.iload_n 3, 1) := by decide +kernel
theorem dX7_item_129 : decode cX7_item 129 = .ok (.invokevirtual 157, 3) := by decide +kernel
theorem dX7_item_132 : decode cX7_item 132 = .ok (.ireturn, 1) := by decide +kernel
theorem dX7_item_133 : decode cX7_item 133 = .ok (.aload_n 0, 1) := by decide +kernel
theorem dX7_item_134 : decode cX7_item 134 = .ok (.getfield 78, 3) := by decide +kernel
theorem dX7_item_137 : decode cX7_item 137 = .ok (.iload_n 2, 1) := by decide +kernel
theorem dX7_item_138 : decode cX7_item 138 = .ok (.aload_n 0, 1) := by decide +kernel
theorem dX7_item_139 : decode cX7_item 139 = .ok (.getfield 150, 3) := by decide +kernel
theorem dX7_item_142 : decode cX7_item 142 = .ok (.iastore, 1) := by decide +kernel
theorem dX7_item_143 : decode cX7_item 143 = .ok (.iinc 2 1, 3) := by decide +kernel
theorem dX7_item_146 : decode cX7_item 146 = .ok (.goto (-106), 3) := by decide +kernel
theorem dX7_item_149 : decode cX7_item 149 = .ok (.iload_n 1, 1) := by decide +kernel
theorem dX7_item_150 : decode cX7_item 150 = .ok (.ifCond .ne 47, 3) := by decide +kernel
theorem dX7_item_153 : decode cX7_item 153 = .ok (.aload_n 0, 1) := by decide +kernel
theorem dX7_item_154 : decode cX7_item 154 = .ok (.aload_n 0, 1) := by decide +kernel
theorem dX7_item_155 : decode cX7_item 155 = .ok (.getfield 78, 3) := by decide +kernel
theorem dX7_item_158 : decode cX7_item 158 = .ok (.iconst 0, 1) := by decide +kernel
theorem dX7_item_159 : decode cX7_item 159 = .ok (.iaload, 1) := by decide +kernel
theorem dX7_item_160 : decode cX7_item 160 = .ok (.aload_n 0, 1) := by decide +kernel
theorem dX7_item_161 : decode cX7_item 161 = .ok (.getfield 78, 3) := by decide +kernel
theorem dX7_item_164 : decode cX7_item 164 = .ok (.iconst 1, 1) := by decide +kernel
theorem dX7_item_165 : decode cX7_item 165 = .ok (.iaload, 1) := by decide +kernel
theorem dX7_item_166 : decode cX7_item 166 = .ok (.aload_n 0, 1) := by decide +kernel
theorem dX7_item_167 : decode cX7_item 167 = .ok (.getfield 78, 3) := by decide +kernel
theorem dX7_item_170 : decode cX7_item 170 = .ok (.iconst 2, 1) := by decide +kernel
theorem dX7_item_171 : decode cX7_item 171 = .ok (.iaload, 1) := by decide +kernel
theorem dX7_item_172 : decode cX7_item 172 = .ok (.aload_n 0, 1) := by decide +kernel
theorem dX7_item_173 : decode cX7_item 173 = .ok (.getfield 78, 3) := by decide +kernel
theorem dX7_item_176 : decode cX7_item 176 = .ok (.iconst 3, 1) := by decide +kernel
theorem dX7_item_177 : decode cX7_item 177 = .ok (.iaload, 1) := by decide +kernel
theorem dX7_item_178 : decode cX7_item 178 = .ok (.aload_n 0, 1) := by decide +kernel
theorem dX7_item_179 : decode cX7_item 179 = .ok (.getfield 78, 3) := by decide +kernel
theorem dX7_item_182 : decode cX7_item 182 = .ok (.iconst 4, 1) := by decide +kernel
theorem dX7_item_183 : decode cX7_item 183 = .ok (.iaload, 1) := by decide +kernel
theorem dX7_item_184 : decode cX7_item 184 = .ok (.aload_n 0, 1) := by decide +kernel
theorem dX7_item_185 : decode cX7_item 185 = .ok (.getfield 78, 3) := by decide +kernel
theorem dX7_item_188 : decode cX7_item 188 = .ok (.iconst 5, 1) := by decide +kernel
theorem dX7_item_189 : decode cX7_item 189 = .ok (.iaload, 1) := by decide +kernel
theorem dX7_item_190 : decode cX7_item 190 = .ok (.invokevirtual 120, 3) := by decide +kernel
theorem dX7_item_193 : decode cX7_item 193 = .ok (.pop, 1) := by decide +kernel
theorem dX7_item_194 : decode cX7_item 194 = .ok (.goto 41, 3) := by decide +kernel
theorem dX7_item_197 : decode cX7_item 197 = .ok (.iload_n 1, 1) := by decide +kernel
theorem dX7_item_198 : decode cX7_item 198 = .ok (.iconst 1, 1) := by decide +kernel
theorem dX7_item_199 : decode cX7_item 199 = .ok (.if_icmp .ne 23, 3) := by decide +kernel
theorem dX7_item_202 : decode cX7_item 202 = .ok (.aload_n 0, 1) := by decide +kernel
theorem dX7_item_203 : decode cX7_item 203 = .ok (.getfield 47, 3) := by decide +kernel
theorem dX7_item_206 : decode cX7_item 206 = .ok (.aload_n 0, 1) := by decide +kernel
theorem dX7_item_207 : decode cX7_item 207 = .ok (.getfield 78, 3) := by decide +kernel
theorem dX7_item_210 : decode cX7_item 210 = .ok (.iconst 0, 1) := by decide +kernel
theorem dX7_item_211 : decode cX7_item 211 = .ok (.iaload, 1) := by decide +kernel
theorem dX7_item_212 : decode cX7_item 212 = .ok (.aload_n 0, 1) := by decide +kernel
theorem dX7_item_213 : decode cX7_item 213 = .ok (.getfield 78, 3) := by decide +kernel
theorem dX7_item_216 : decode cX7_item 216 = .ok (.iconst 1, 1) := by decide +kernel
theorem dX7_item_217 : decode cX7_item 217 = .ok (.iaload, 1) := by decide +kernel
theorem dX7_item_218 : decode cX7_item 218 = .ok (.iastore, 1) := by decide +kernel
theorem dX7_item_219 : decode cX7_item 219 = .ok (.goto 16, 3) := by decide +kernel
theorem dX7_item_222 : decode cX7_item 222 = .ok (.aload_n 0, 1) := by decide +kernel
theorem dX7_item_223 : decode cX7_item 223 = .ok (.iload_n 1, 1) := by decide +kernel
theorem dX7_item_224 : decode cX7_item 224 = .ok (.iconst 2, 1) := by decide +kernel
theorem dX7_item_225 : decode cX7_item 225 = .ok (.isub, 1) := by decide +kernel
theorem dX7_item_226 : decode cX7_item 226 = .ok (.aload_n 0, 1) := by decide +kernel
theorem dX7_item_227 : decode cX7_item 227 = .ok (.getfield 78, 3) := by decide +kernel
theorem dX7_item_230 : decode cX7_item 230 = .ok (.iconst 0, 1) := by decide +kernel
theorem dX7_item_231 : decode cX7_item 231 = .ok (.iaload, 1) := by decide +kernel
theorem dX7_item_232 : decode cX7_item 232 = .ok (.invokevirtual 134, 3) := by decide +kernel
theorem dX7_item_235 : decode cX7_item 235 = .ok (.iconst 1, 1) := by decide +kernel
theorem dX7_item_236 : decode cX7_item 236 = .ok (.ireturn, 1) := by decide +kernel
abbrev k_X7_item : zK := (cX7_item, 4, RX7, (some .boolean), ({ frames := 3, cells := 0, slots := 0, locals := 67 } : Room))
theorem zc_X7_item : zcal yX7_item k_X7_item.1 k_X7_item.2.1 k_X7_item.2.2.2.1 0 := ⟨tw_code_yX7_item, tw_i_TollForHesitatorsModel, ⟨by decide +kernel, by decide +kernel⟩, by decide +kernel⟩
theorem zv_X7_item : Cond.instanceMethod yX7_item ∈ TS ∧ Cond.selects RX7 yX7_item yX7_item ∈ TS := ⟨tw_inst_yX7_item, tw_s_yX7_item⟩
def v_X7_item_r : Nat → mT → Int32 → Int32 → Int32 × mT
  | 0, M, _, _ => (0, M)
  | n + 1, M, v1, v2 => if ((M.2.1 23) v1.toNatClampNeg) ≤ v2 then kk (if v1 = 0 then (v_X7_adds M ((M.2.1 25) ((0 : Int32)).toNatClampNeg) ((M.2.1 25) ((1 : Int32)).toNatClampNeg) ((M.2.1 25) ((2 : Int32)).toNatClampNeg) ((M.2.1 25) ((3 : Int32)).toNatClampNeg) ((M.2.1 25) ((4 : Int32)).toNatClampNeg) ((M.2.1 25) ((5 : Int32)).toNatClampNeg)).2 else (if v1 = 1 then msa M 15 (upd (M.2.1 15) ((M.2.1 25) ((0 : Int32)).toNatClampNeg).toNatClampNeg ((M.2.1 25) ((1 : Int32)).toNatClampNeg)) else v_X7_asks M (v1 - 2) ((M.2.1 25) ((0 : Int32)).toNatClampNeg))) (fun M20 : mT => (1, M20)) else if v2 ≤ 0 then kk (v_X7_reads M) (fun q23 : Int32 × mT => if q23.1 = 0 then (0, q23.2) else if (v_X7_isSo q23.2 v1 v2) = 0 then kk (v_X7_wrong q23.2 (M.1 27)) (fun q28 : Int32 × mT => (q28.1, q28.2)) else v_X7_item_r n (msa q23.2 25 (upd (q23.2.2.1 25) v2.toNatClampNeg (q23.2.1 29))) v1 (v2 + 1)) else if (M.1 28) ≤ (M.1 27) then kk (v_X7_wrong M (M.1 27)) (fun q30 : Int32 × mT => (q30.1, q30.2)) else if (((M.2.2 20) ((M.1 26) + (M.1 27)).toNatClampNeg).toInt32) = 32 then kk (v_X7_reads (msf M 27 ((M.1 27) + 1))) (fun q34 : Int32 × mT => if q34.1 = 0 then (0, q34.2) else if (v_X7_isSo q34.2 v1 v2) = 0 then kk (v_X7_wrong q34.2 ((M.1 27) + 1)) (fun q39 : Int32 × mT => (q39.1, q39.2)) else v_X7_item_r n (msa q34.2 25 (upd (q34.2.2.1 25) v2.toNatClampNeg (q34.2.1 29))) v1 (v2 + 1)) else kk (v_X7_wrong M (M.1 27)) (fun q40 : Int32 × mT => (q40.1, q40.2))
def p_X7_item_r : Nat → mT → Int32 → Int32 → Prop
  | 0, _, _, _ => False
  | n + 1, M, v1, v2 => vp_in v1 6 ∧ (if ((M.2.1 23) v1.toNatClampNeg) ≤ v2 then if v1 = 0 then p_X7_adds M ((M.2.1 25) ((0 : Int32)).toNatClampNeg) ((M.2.1 25) ((1 : Int32)).toNatClampNeg) ((M.2.1 25) ((2 : Int32)).toNatClampNeg) ((M.2.1 25) ((3 : Int32)).toNatClampNeg) ((M.2.1 25) ((4 : Int32)).toNatClampNeg) ((M.2.1 25) ((5 : Int32)).toNatClampNeg) else if v1 = 1 then vp_in ((M.2.1 25) ((0 : Int32)).toNatClampNeg) 7 else True else if v2 ≤ 0 then p_X7_reads M ∧ (kk (v_X7_reads M) (fun q23 : Int32 × mT => if q23.1 = 0 then True else p_X7_isSo q23.2 v1 v2 ∧ (if (v_X7_isSo q23.2 v1 v2) = 0 then True else vp_in v2 6 ∧ (p_X7_item_r n (msa q23.2 25 (upd (q23.2.2.1 25) v2.toNatClampNeg (q23.2.1 29))) v1 (v2 + 1))))) else if (M.1 28) ≤ (M.1 27) then True else (vp_in ((M.1 26) + (M.1 27)) 1280) ∧ (if (((M.2.2 20) ((M.1 26) + (M.1 27)).toNatClampNeg).toInt32) = 32 then (p_X7_reads (msf M 27 ((M.1 27) + 1))) ∧ (kk (v_X7_reads (msf M 27 ((M.1 27) + 1))) (fun q34 : Int32 × mT => if q34.1 = 0 then True else p_X7_isSo q34.2 v1 v2 ∧ (if (v_X7_isSo q34.2 v1 v2) = 0 then True else vp_in v2 6 ∧ (p_X7_item_r n (msa q34.2 25 (upd (q34.2.2.1 25) v2.toNatClampNeg (q34.2.1 29))) v1 (v2 + 1))))) else True))
set_option maxHeartbeats 4000000 in
theorem w_X7_item {G : zG} {Γ : zT} {a : Nat → Nat} {A : Nat → Prop} {res : Int32 × mT} {X : zX} (hw : wk X A Γ.2.2.1.1.heap) (hQ : zQ Γ (Qwi G (fun r w => r = res.1 ∧ w = mW G a res.2) A) 0 0 A) : ∀ n : Nat, (∀ (M : mT) (v1 : Int32) (v2 : Int32), p_X7_item_r n M v1 v2 → v_X7_item_r n M v1 v2 = res → Z k_X7_item G Γ (wr G A Γ.2.2.1.1.heap (mW G a M)) 0 0 [(0, .ref (a 0)), (1, .int v1), (2, .int v2)] 40 []) := by
  intro n
  induction n with
  | zero => exact fun M v1 v2 hp => absurd hp (by rw [p_X7_item_r]; exact not_false)
  | succ n ih =>
    intro M v1 v2 hp hv
    rw [p_X7_item_r] at hp
    rw [v_X7_item_r] at hv
    refine z_iload_n dX7_item_40 rfl ?_
    refine z_aload_n dX7_item_41 rfl ?_
    refine mg_23 wr_P rfl dX7_item_42 ?_
    refine z_iload_n dX7_item_45 rfl ?_
    obtain ⟨q11, hp⟩ := hp
    refine ml_23 (x := (M.2.1 23) v1.toNatClampNeg) wr_P q11 rfl dX7_item_46 ?_
    refine z_icmp_ge (tgt := 149) dX7_item_47 (by decide) (fun c12 => ?_) (fun c12 => ?_)
    · have hp := ip_t hp c12; have hv := it_t hv c12
      refine z_iload_n dX7_item_149 rfl ?_
      have hpm := hp
      have J41 : ∀ M20 : mT, M20 = (if v1 = 0 then (v_X7_adds M ((M.2.1 25) ((0 : Int32)).toNatClampNeg) ((M.2.1 25) ((1 : Int32)).toNatClampNeg) ((M.2.1 25) ((2 : Int32)).toNatClampNeg) ((M.2.1 25) ((3 : Int32)).toNatClampNeg) ((M.2.1 25) ((4 : Int32)).toNatClampNeg) ((M.2.1 25) ((5 : Int32)).toNatClampNeg)).2 else (if v1 = 1 then msa M 15 (upd (M.2.1 15) ((M.2.1 25) ((0 : Int32)).toNatClampNeg).toNatClampNeg ((M.2.1 25) ((1 : Int32)).toNatClampNeg)) else v_X7_asks M (v1 - 2) ((M.2.1 25) ((0 : Int32)).toNatClampNeg))) → Z k_X7_item G Γ (wr G A Γ.2.2.1.1.heap (mW G a M20)) 0 0 [(0, .ref (a 0)), (1, .int v1), (2, .int v2)] 235 [] := by
        intro M20 eM20
        have hv := kk_vq hv eM20
        clear eM20
        refine z_iconst (v := 1) dX7_item_235 rfl ?_
        subst hv; exact z_zret_W hQ rfl rfl rfl rfl ⟨rfl, rfl⟩ dX7_item_236
      refine z_if_ne (tgt := 197) dX7_item_150 (by decide) (fun c13 => ?_) (fun c13 => ?_)
      · have hp := ip_f hpm c13
        refine z_iload_n dX7_item_197 rfl ?_
        refine z_iconst (v := 1) dX7_item_198 rfl ?_
        have hpm := hp
        have J42 : ∀ M17 : mT, M17 = (if v1 = 1 then msa M 15 (upd (M.2.1 15) ((M.2.1 25) ((0 : Int32)).toNatClampNeg).toNatClampNeg ((M.2.1 25) ((1 : Int32)).toNatClampNeg)) else v_X7_asks M (v1 - 2) ((M.2.1 25) ((0 : Int32)).toNatClampNeg)) → Z k_X7_item G Γ (wr G A Γ.2.2.1.1.heap (mW G a M17)) 0 0 [(0, .ref (a 0)), (1, .int v1), (2, .int v2)] 235 [] := by
          intro M17 eM17
          rewrite [eM17]; clear eM17
          exact z_lv rfl (J41 _ (if_neg c13).symm)
        refine z_icmp_ne (tgt := 222) dX7_item_199 (by decide) (fun c14 => ?_) (fun c14 => ?_)
        · have hp := ip_f hpm c14
          refine z_aload_n dX7_item_222 rfl ?_
          refine z_iload_n dX7_item_223 rfl ?_
          refine z_iconst (v := 2) dX7_item_224 rfl ?_
          refine z_isub dX7_item_225 ?_
          refine z_aload_n dX7_item_226 rfl ?_
          refine mg_25 wr_P rfl dX7_item_227 ?_
          refine z_iconst (v := 0) dX7_item_230 rfl ?_
          refine ml_25 (x := (M.2.1 25) ((0 : Int32)).toNatClampNeg) wr_P (vin rfl) rfl dX7_item_231 ?_
          refine z_cavvD hw (fun sz => c_X7_asks G a hw.1 sz M (v1 - 2) ((M.2.1 25) ((0 : Int32)).toNatClampNeg) ) zc_X7_asks zv_X7_asks tw_m_RX7_134 (mrec wr_P) (zroom_of rfl) rfl (Nat.le_of_ble_eq_true rfl) dX7_item_232 ?_
          exact z_lv rfl (J42 _ (if_neg c14).symm)
        · have hp := ip_t hpm c14
          refine z_aload_n dX7_item_202 rfl ?_
          refine mg_15 wr_P rfl dX7_item_203 ?_
          refine z_aload_n dX7_item_206 rfl ?_
          refine mg_25 wr_P rfl dX7_item_207 ?_
          refine z_iconst (v := 0) dX7_item_210 rfl ?_
          refine ml_25 (x := (M.2.1 25) ((0 : Int32)).toNatClampNeg) wr_P (vin rfl) rfl dX7_item_211 ?_
          refine z_aload_n dX7_item_212 rfl ?_
          refine mg_25 wr_P rfl dX7_item_213 ?_
          refine z_iconst (v := 1) dX7_item_216 rfl ?_
          refine ml_25 (x := (M.2.1 25) ((1 : Int32)).toNatClampNeg) wr_P (vin rfl) rfl dX7_item_217 ?_
          have q16 := hp
          refine ms_15 (F := upd (M.2.1 15) ((M.2.1 25) ((0 : Int32)).toNatClampNeg).toNatClampNeg ((M.2.1 25) ((1 : Int32)).toNatClampNeg)) q16 rfl dX7_item_218 ?_
          refine z_goto (tgt := 235) dX7_item_219 (by decide) ?_
          exact z_lv rfl (J42 _ (if_pos c14).symm)
      · have hp := ip_t hpm c13
        refine z_aload_n dX7_item_153 rfl ?_
        refine z_aload_n dX7_item_154 rfl ?_
        refine mg_25 wr_P rfl dX7_item_155 ?_
        refine z_iconst (v := 0) dX7_item_158 rfl ?_
        refine ml_25 (x := (M.2.1 25) ((0 : Int32)).toNatClampNeg) wr_P (vin rfl) rfl dX7_item_159 ?_
        refine z_aload_n dX7_item_160 rfl ?_
        refine mg_25 wr_P rfl dX7_item_161 ?_
        refine z_iconst (v := 1) dX7_item_164 rfl ?_
        refine ml_25 (x := (M.2.1 25) ((1 : Int32)).toNatClampNeg) wr_P (vin rfl) rfl dX7_item_165 ?_
        refine z_aload_n dX7_item_166 rfl ?_
        refine mg_25 wr_P rfl dX7_item_167 ?_
        refine z_iconst (v := 2) dX7_item_170 rfl ?_
        refine ml_25 (x := (M.2.1 25) ((2 : Int32)).toNatClampNeg) wr_P (vin rfl) rfl dX7_item_171 ?_
        refine z_aload_n dX7_item_172 rfl ?_
        refine mg_25 wr_P rfl dX7_item_173 ?_
        refine z_iconst (v := 3) dX7_item_176 rfl ?_
        refine ml_25 (x := (M.2.1 25) ((3 : Int32)).toNatClampNeg) wr_P (vin rfl) rfl dX7_item_177 ?_
        refine z_aload_n dX7_item_178 rfl ?_
        refine mg_25 wr_P rfl dX7_item_179 ?_
        refine z_iconst (v := 4) dX7_item_182 rfl ?_
        refine ml_25 (x := (M.2.1 25) ((4 : Int32)).toNatClampNeg) wr_P (vin rfl) rfl dX7_item_183 ?_
        refine z_aload_n dX7_item_184 rfl ?_
        refine mg_25 wr_P rfl dX7_item_185 ?_
        refine z_iconst (v := 5) dX7_item_188 rfl ?_
        refine ml_25 (x := (M.2.1 25) ((5 : Int32)).toNatClampNeg) wr_P (vin rfl) rfl dX7_item_189 ?_
        have q18 := hp
        refine z_caviD hw (fun sz => c_X7_adds G a hw.1 sz M ((M.2.1 25) ((0 : Int32)).toNatClampNeg) ((M.2.1 25) ((1 : Int32)).toNatClampNeg) ((M.2.1 25) ((2 : Int32)).toNatClampNeg) ((M.2.1 25) ((3 : Int32)).toNatClampNeg) ((M.2.1 25) ((4 : Int32)).toNatClampNeg) ((M.2.1 25) ((5 : Int32)).toNatClampNeg) q18) zc_X7_adds zv_X7_adds tw_m_RX7_120 (mrec wr_P) (zroom_of rfl) rfl (Nat.le_of_ble_eq_true rfl) dX7_item_190 ?_
        refine z_pop dX7_item_193 rfl ?_
        refine z_goto (tgt := 235) dX7_item_194 (by decide) ?_
        exact z_lv rfl (J41 _ (if_pos c13).symm)
    · have hp := ip_f hp c12; have hv := it_f hv c12
      refine z_iload_n dX7_item_50 rfl ?_
      refine z_if_le (tgt := 104) dX7_item_51 (by decide) (fun c21 => ?_) (fun c21 => ?_)
      · have hp := ip_t hp c21; have hv := it_t hv c21
        refine z_aload_n dX7_item_104 rfl ?_
        refine mg_27 (v := M.1 27) wr_P rfl rfl dX7_item_105 ?_
        refine z_istore_n (lv' := [(3, .int (M.1 27)), (0, .ref (a 0)), (1, .int v1), (2, .int v2)]) dX7_item_108 (Nat.le_of_ble_eq_true rfl) rfl ?_
        refine z_aload_n dX7_item_109 rfl ?_
        obtain ⟨q22, hp⟩ := hp
        refine z_caviD hw (fun sz => c_X7_reads G a hw.1 sz M q22) zc_X7_reads zv_X7_reads tw_m_RX7_167 (mrec wr_P) (zroom_of rfl) rfl (Nat.le_of_ble_eq_true rfl) dX7_item_110 ?_
        suffices z43 : ∀ q23 : Int32 × mT, q23 = (v_X7_reads M) → Z k_X7_item G Γ (wr G A Γ.2.2.1.1.heap (mW G a q23.2)) 0 0 [(3, .int (M.1 27)), (0, .ref (a 0)), (1, .int v1), (2, .int v2)] 113 [.int q23.1] from z43 _ rfl
        intro q23 hq23
        have hp := kk_pq hp hq23
        have hv := kk_vq hv hq23
        clear hq23
        refine z_if_ne (tgt := 118) dX7_item_113 (by decide) (fun c24 => ?_) (fun c24 => ?_)
        · have hp := ip_f hp c24; have hv := it_f hv c24
          refine z_aload_n dX7_item_118 rfl ?_
          refine z_iload_n dX7_item_119 rfl ?_
          refine z_iload_n dX7_item_120 rfl ?_
          obtain ⟨q25, hp⟩ := hp
          refine z_cvi (c_X7_isSo G a q23.2 v1 v2 q25) zc_X7_isSo zv_X7_isSo tw_m_RX7_170 (mrec wr_P) wr_P (zroom_of rfl) rfl (Nat.le_of_ble_eq_true rfl) dX7_item_121 ?_
          refine z_if_ne (tgt := 133) dX7_item_124 (by decide) (fun c26 => ?_) (fun c26 => ?_)
          · have hp := ip_f hp c26; have hv := it_f hv c26
            refine z_aload_n dX7_item_133 rfl ?_
            refine mg_25 wr_P rfl dX7_item_134 ?_
            refine z_iload_n dX7_item_137 rfl ?_
            refine z_aload_n dX7_item_138 rfl ?_
            refine mg_29 (v := q23.2.1 29) wr_P rfl rfl dX7_item_139 ?_
            obtain ⟨q27, hp⟩ := hp
            refine ms_25 (F := upd (q23.2.2.1 25) v2.toNatClampNeg (q23.2.1 29)) q27 rfl dX7_item_142 ?_
            refine z_iinc (v := v2 + 1) (lv' := [(2, .int (v2 + 1)), (3, .int (M.1 27)), (0, .ref (a 0)), (1, .int v1)]) dX7_item_143 3 rfl rfl (Nat.le_of_ble_eq_true rfl) rfl ?_
            refine z_goto (tgt := 40) dX7_item_146 (by decide) ?_
            exact z_lv rfl ((ih) (msa q23.2 25 (upd (q23.2.2.1 25) v2.toNatClampNeg (q23.2.1 29))) v1 (v2 + 1) hp hv)
          · have hp := ip_t hp c26; have hv := it_t hv c26
            refine z_aload_n dX7_item_127 rfl ?_
            refine z_iload_n dX7_item_128 rfl ?_
            refine z_caviD hw (fun sz => c_X7_wrong G a hw.1 sz q23.2 (M.1 27) ) zc_X7_wrong zv_X7_wrong tw_m_RX7_157 (mrec wr_P) (zroom_of rfl) rfl (Nat.le_of_ble_eq_true rfl) dX7_item_129 ?_
            suffices z44 : ∀ q28 : Int32 × mT, q28 = (v_X7_wrong q23.2 (M.1 27)) → narrow .boolean (.int q28.1) = .int q28.1 → Z k_X7_item G Γ (wr G A Γ.2.2.1.1.heap (mW G a q28.2)) 0 0 [(3, .int (M.1 27)), (0, .ref (a 0)), (1, .int v1), (2, .int v2)] 132 [.int q28.1] from z44 _ rfl (nb_X7_wrong q23.2 (M.1 27))
            intro q28 hq28 nq28
            have hv := kk_vq hv hq28
            clear hq28
            subst hv; exact z_zret_W hQ rfl (by (repeat' (first | with_reducible exact nz0 | with_reducible exact nz1 | with_reducible assumption | with_reducible exact nb_X7_isSo .. | with_reducible exact nb_X7_wrong .. | split))) rfl rfl ⟨rfl, rfl⟩ dX7_item_132
        · have hp := ip_t hp c24; have hv := it_t hv c24
          refine z_iconst (v := 0) dX7_item_116 rfl ?_
          subst hv; exact z_zret_W hQ rfl rfl rfl rfl ⟨rfl, rfl⟩ dX7_item_117
      · have hp := ip_f hp c21; have hv := it_f hv c21
        refine z_aload_n dX7_item_54 rfl ?_
        refine mg_27 (v := M.1 27) wr_P rfl rfl dX7_item_55 ?_
        refine z_aload_n dX7_item_58 rfl ?_
        refine mg_28 (v := M.1 28) wr_P rfl rfl dX7_item_59 ?_
        refine z_icmp_ge (tgt := 85) dX7_item_62 (by decide) (fun c29 => ?_) (fun c29 => ?_)
        · have hp := ip_t hp c29; have hv := it_t hv c29
          refine z_aload_n dX7_item_85 rfl ?_
          refine z_aload_n dX7_item_86 rfl ?_
          refine mg_27 (v := M.1 27) wr_P rfl rfl dX7_item_87 ?_
          refine z_caviD hw (fun sz => c_X7_wrong G a hw.1 sz M (M.1 27) ) zc_X7_wrong zv_X7_wrong tw_m_RX7_157 (mrec wr_P) (zroom_of rfl) rfl (Nat.le_of_ble_eq_true rfl) dX7_item_90 ?_
          suffices z45 : ∀ q30 : Int32 × mT, q30 = (v_X7_wrong M (M.1 27)) → narrow .boolean (.int q30.1) = .int q30.1 → Z k_X7_item G Γ (wr G A Γ.2.2.1.1.heap (mW G a q30.2)) 0 0 [(0, .ref (a 0)), (1, .int v1), (2, .int v2)] 93 [.int q30.1] from z45 _ rfl (nb_X7_wrong M (M.1 27))
          intro q30 hq30 nq30
          have hv := kk_vq hv hq30
          clear hq30
          subst hv; exact z_zret_W hQ rfl (by (repeat' (first | with_reducible exact nz0 | with_reducible exact nz1 | with_reducible assumption | with_reducible exact nb_X7_isSo .. | with_reducible exact nb_X7_wrong .. | split))) rfl rfl ⟨rfl, rfl⟩ dX7_item_93
        · have hp := ip_f hp c29; have hv := it_f hv c29
          refine z_aload_n dX7_item_65 rfl ?_
          refine mg_20 wr_P rfl dX7_item_66 ?_
          refine z_aload_n dX7_item_69 rfl ?_
          refine mg_26 (v := M.1 26) wr_P rfl rfl dX7_item_70 ?_
          refine z_aload_n dX7_item_73 rfl ?_
          refine mg_27 (v := M.1 27) wr_P rfl rfl dX7_item_74 ?_
          refine z_iadd dX7_item_77 ?_
          obtain ⟨q31, hp⟩ := hp
          refine ml_20 (x := (M.2.2 20) ((M.1 26) + (M.1 27)).toNatClampNeg) wr_P q31 rfl dX7_item_78 ?_
          refine z_l2i dX7_item_79 ?_
          refine z_bipush (v := 32) dX7_item_80 rfl ?_
          refine z_icmp_eq (tgt := 94) dX7_item_82 (by decide) (fun c32 => ?_) (fun c32 => ?_)
          · have hp := ip_t hp c32; have hv := it_t hv c32
            refine z_aload_n dX7_item_94 rfl ?_
            refine z_dup dX7_item_95 rfl ?_
            refine mg_27 (v := M.1 27) wr_P rfl rfl dX7_item_96 ?_
            refine z_iconst (v := 1) dX7_item_99 rfl ?_
            refine z_iadd dX7_item_100 ?_
            refine mp_27 (v := (M.1 27) + 1) rfl dX7_item_101 ?_
            refine z_aload_n dX7_item_104 rfl ?_
            refine mg_27 (v := (M.1 27) + 1) wr_P rfl rfl dX7_item_105 ?_
            refine z_istore_n (lv' := [(3, .int ((M.1 27) + 1)), (0, .ref (a 0)), (1, .int v1), (2, .int v2)]) dX7_item_108 (Nat.le_of_ble_eq_true rfl) rfl ?_
            refine z_aload_n dX7_item_109 rfl ?_
            obtain ⟨q33, hp⟩ := hp
            refine z_caviD hw (fun sz => c_X7_reads G a hw.1 sz (msf M 27 ((M.1 27) + 1)) q33) zc_X7_reads zv_X7_reads tw_m_RX7_167 (mrec wr_P) (zroom_of rfl) rfl (Nat.le_of_ble_eq_true rfl) dX7_item_110 ?_
            suffices z46 : ∀ q34 : Int32 × mT, q34 = (v_X7_reads (msf M 27 ((M.1 27) + 1))) → Z k_X7_item G Γ (wr G A Γ.2.2.1.1.heap (mW G a q34.2)) 0 0 [(3, .int ((M.1 27) + 1)), (0, .ref (a 0)), (1, .int v1), (2, .int v2)] 113 [.int q34.1] from z46 _ rfl
            intro q34 hq34
            have hp := kk_pq hp hq34
            have hv := kk_vq hv hq34
            clear hq34
            refine z_if_ne (tgt := 118) dX7_item_113 (by decide) (fun c35 => ?_) (fun c35 => ?_)
            · have hp := ip_f hp c35; have hv := it_f hv c35
              refine z_aload_n dX7_item_118 rfl ?_
              refine z_iload_n dX7_item_119 rfl ?_
              refine z_iload_n dX7_item_120 rfl ?_
              obtain ⟨q36, hp⟩ := hp
              refine z_cvi (c_X7_isSo G a q34.2 v1 v2 q36) zc_X7_isSo zv_X7_isSo tw_m_RX7_170 (mrec wr_P) wr_P (zroom_of rfl) rfl (Nat.le_of_ble_eq_true rfl) dX7_item_121 ?_
              refine z_if_ne (tgt := 133) dX7_item_124 (by decide) (fun c37 => ?_) (fun c37 => ?_)
              · have hp := ip_f hp c37; have hv := it_f hv c37
                refine z_aload_n dX7_item_133 rfl ?_
                refine mg_25 wr_P rfl dX7_item_134 ?_
                refine z_iload_n dX7_item_137 rfl ?_
                refine z_aload_n dX7_item_138 rfl ?_
                refine mg_29 (v := q34.2.1 29) wr_P rfl rfl dX7_item_139 ?_
                obtain ⟨q38, hp⟩ := hp
                refine ms_25 (F := upd (q34.2.2.1 25) v2.toNatClampNeg (q34.2.1 29)) q38 rfl dX7_item_142 ?_
                refine z_iinc (v := v2 + 1) (lv' := [(2, .int (v2 + 1)), (3, .int ((M.1 27) + 1)), (0, .ref (a 0)), (1, .int v1)]) dX7_item_143 3 rfl rfl (Nat.le_of_ble_eq_true rfl) rfl ?_
                refine z_goto (tgt := 40) dX7_item_146 (by decide) ?_
                exact z_lv rfl ((ih) (msa q34.2 25 (upd (q34.2.2.1 25) v2.toNatClampNeg (q34.2.1 29))) v1 (v2 + 1) hp hv)
              · have hp := ip_t hp c37; have hv := it_t hv c37
                refine z_aload_n dX7_item_127 rfl ?_
                refine z_iload_n dX7_item_128 rfl ?_
                refine z_caviD hw (fun sz => c_X7_wrong G a hw.1 sz q34.2 ((M.1 27) + 1) ) zc_X7_wrong zv_X7_wrong tw_m_RX7_157 (mrec wr_P) (zroom_of rfl) rfl (Nat.le_of_ble_eq_true rfl) dX7_item_129 ?_
                suffices z47 : ∀ q39 : Int32 × mT, q39 = (v_X7_wrong q34.2 ((M.1 27) + 1)) → narrow .boolean (.int q39.1) = .int q39.1 → Z k_X7_item G Γ (wr G A Γ.2.2.1.1.heap (mW G a q39.2)) 0 0 [(3, .int ((M.1 27) + 1)), (0, .ref (a 0)), (1, .int v1), (2, .int v2)] 132 [.int q39.1] from z47 _ rfl (nb_X7_wrong q34.2 ((M.1 27) + 1))
                intro q39 hq39 nq39
                have hv := kk_vq hv hq39
                clear hq39
                subst hv; exact z_zret_W hQ rfl (by (repeat' (first | with_reducible exact nz0 | with_reducible exact nz1 | with_reducible assumption | with_reducible exact nb_X7_isSo .. | with_reducible exact nb_X7_wrong .. | split))) rfl rfl ⟨rfl, rfl⟩ dX7_item_132
            · have hp := ip_t hp c35; have hv := it_t hv c35
              refine z_iconst (v := 0) dX7_item_116 rfl ?_
              subst hv; exact z_zret_W hQ rfl rfl rfl rfl ⟨rfl, rfl⟩ dX7_item_117
          · have hp := ip_f hp c32; have hv := it_f hv c32
            refine z_aload_n dX7_item_85 rfl ?_
            refine z_aload_n dX7_item_86 rfl ?_
            refine mg_27 (v := M.1 27) wr_P rfl rfl dX7_item_87 ?_
            refine z_caviD hw (fun sz => c_X7_wrong G a hw.1 sz M (M.1 27) ) zc_X7_wrong zv_X7_wrong tw_m_RX7_157 (mrec wr_P) (zroom_of rfl) rfl (Nat.le_of_ble_eq_true rfl) dX7_item_90 ?_
            suffices z48 : ∀ q40 : Int32 × mT, q40 = (v_X7_wrong M (M.1 27)) → narrow .boolean (.int q40.1) = .int q40.1 → Z k_X7_item G Γ (wr G A Γ.2.2.1.1.heap (mW G a q40.2)) 0 0 [(0, .ref (a 0)), (1, .int v1), (2, .int v2)] 93 [.int q40.1] from z48 _ rfl (nb_X7_wrong M (M.1 27))
            intro q40 hq40 nq40
            have hv := kk_vq hv hq40
            clear hq40
            subst hv; exact z_zret_W hQ rfl (by (repeat' (first | with_reducible exact nz0 | with_reducible exact nz1 | with_reducible assumption | with_reducible exact nb_X7_isSo .. | with_reducible exact nb_X7_wrong .. | split))) rfl rfl ⟨rfl, rfl⟩ dX7_item_93
def v_X7_item (M : mT) : Int32 × mT := if (v_X7_stands M 0) = 0 then kk (v_X7_word M) (fun q4 : Int32 × mT => if q4.1 = (-1) then (0, q4.2) else v_X7_item_r 200 q4.2 q4.1 0) else if (M.1 0) = 7 then kk (v_X7_wrong M (M.1 27)) (fun q10 : Int32 × mT => (q10.1, q10.2)) else kk (v_X7_word M) (fun q8 : Int32 × mT => if q8.1 = (-1) then (0, q8.2) else v_X7_item_r 200 q8.2 q8.1 0)
def p_X7_item (M : mT) : Prop := p_X7_stands M 0 ∧ (if (v_X7_stands M 0) = 0 then p_X7_word M ∧ (kk (v_X7_word M) (fun q4 : Int32 × mT => if q4.1 = (-1) then True else p_X7_item_r 200 q4.2 q4.1 0)) else if (M.1 0) = 7 then True else p_X7_word M ∧ (kk (v_X7_word M) (fun q8 : Int32 × mT => if q8.1 = (-1) then True else p_X7_item_r 200 q8.2 q8.1 0)))
set_option maxHeartbeats 4000000 in
theorem c_X7_item {l : Launch} (G : zG) (a : Nat → Nat) {X : zX} (hX : XOK X) (sz : Nat) (M : mT) (hp : p_X7_item M) : Met l yX7_item (.code yX7_item k_X7_item.1 k_X7_item.2.1 k_X7_item.2.2.2.1 :: TS) k_X7_item.2.2.2.2 (Pz G [.ref (a 0)] (Fw G X (mW G a M) sz)) (Qwi G (fun r w => r = (v_X7_item M).1 ∧ w = mW G a (v_X7_item M).2) (va_A (mW G a M) sz)) 0 0 (va_A (mW G a M) sz) := by
  refine zmet (by decide +kernel) rfl rfl (fun Γ hl0 hQ hN hF => ?_)
  refine z_start hX hF (fun hw => ?_)
  generalize va_A (mW G a M) sz = A at hQ hw ⊢
  obtain ⟨res, hv⟩ : ∃ res, v_X7_item M = res := ⟨_, rfl⟩
  rw [hv] at hQ
  unfold v_X7_item at hv
  unfold p_X7_item at hp
  show Z k_X7_item G Γ _ 0 0 [(0, .ref (a 0))] 0 []
  refine z_aload_n dX7_item_0 rfl ?_
  refine z_iconst (v := 0) dX7_item_1 rfl ?_
  obtain ⟨q1, hp⟩ := hp
  refine z_cvi (c_X7_stands G a M 0 q1) zc_X7_stands zv_X7_stands tw_m_RX7_160 (mrec wr_P) wr_P (zroom_of rfl) rfl (Nat.le_of_ble_eq_true rfl) dX7_item_2 ?_
  refine z_if_eq (tgt := 26) dX7_item_5 (by decide) (fun c2 => ?_) (fun c2 => ?_)
  · have hp := ip_t hp c2; have hv := it_t hv c2
    refine z_aload_n dX7_item_26 rfl ?_
    obtain ⟨q3, hp⟩ := hp
    refine z_caviD hw (fun sz => c_X7_word G a hw.1 sz M q3) zc_X7_word zv_X7_word tw_m_RX7_163 (mrec wr_P) (zroom_of rfl) rfl (Nat.le_of_ble_eq_true rfl) dX7_item_27 ?_
    suffices z49 : ∀ q4 : Int32 × mT, q4 = (v_X7_word M) → Z k_X7_item G Γ (wr G A Γ.2.2.1.1.heap (mW G a q4.2)) 0 0 [(0, .ref (a 0))] 30 [.int q4.1] from z49 _ rfl
    intro q4 hq4
    have hp := kk_pq hp hq4
    have hv := kk_vq hv hq4
    clear hq4
    refine z_istore_n (lv' := [(1, .int q4.1), (0, .ref (a 0))]) dX7_item_30 (Nat.le_of_ble_eq_true rfl) rfl ?_
    refine z_iload_n dX7_item_31 rfl ?_
    refine z_iconst (v := (-1)) dX7_item_32 rfl ?_
    refine z_icmp_ne (tgt := 38) dX7_item_33 (by decide) (fun c5 => ?_) (fun c5 => ?_)
    · have hp := ip_f hp c5; have hv := it_f hv c5
      refine z_iconst (v := 0) dX7_item_38 rfl ?_
      refine z_istore_n (lv' := [(2, .int 0), (1, .int q4.1), (0, .ref (a 0))]) dX7_item_39 (Nat.le_of_ble_eq_true rfl) rfl ?_
      exact z_lv rfl ((w_X7_item hw hQ 200) q4.2 q4.1 0 hp hv)
    · have hp := ip_t hp c5; have hv := it_t hv c5
      refine z_iconst (v := 0) dX7_item_36 rfl ?_
      subst hv; exact z_zret_W hQ rfl rfl rfl rfl ⟨rfl, rfl⟩ dX7_item_37
  · have hp := ip_f hp c2; have hv := it_f hv c2
    refine z_aload_n dX7_item_8 rfl ?_
    refine mg_0 (v := M.1 0) wr_P rfl rfl dX7_item_9 ?_
    refine z_bipush (v := 7) dX7_item_12 rfl ?_
    refine z_icmp_ne (tgt := 26) dX7_item_14 (by decide) (fun c6 => ?_) (fun c6 => ?_)
    · have hp := ip_f hp c6; have hv := it_f hv c6
      refine z_aload_n dX7_item_26 rfl ?_
      obtain ⟨q7, hp⟩ := hp
      refine z_caviD hw (fun sz => c_X7_word G a hw.1 sz M q7) zc_X7_word zv_X7_word tw_m_RX7_163 (mrec wr_P) (zroom_of rfl) rfl (Nat.le_of_ble_eq_true rfl) dX7_item_27 ?_
      suffices z50 : ∀ q8 : Int32 × mT, q8 = (v_X7_word M) → Z k_X7_item G Γ (wr G A Γ.2.2.1.1.heap (mW G a q8.2)) 0 0 [(0, .ref (a 0))] 30 [.int q8.1] from z50 _ rfl
      intro q8 hq8
      have hp := kk_pq hp hq8
      have hv := kk_vq hv hq8
      clear hq8
      refine z_istore_n (lv' := [(1, .int q8.1), (0, .ref (a 0))]) dX7_item_30 (Nat.le_of_ble_eq_true rfl) rfl ?_
      refine z_iload_n dX7_item_31 rfl ?_
      refine z_iconst (v := (-1)) dX7_item_32 rfl ?_
      refine z_icmp_ne (tgt := 38) dX7_item_33 (by decide) (fun c9 => ?_) (fun c9 => ?_)
      · have hp := ip_f hp c9; have hv := it_f hv c9
        refine z_iconst (v := 0) dX7_item_38 rfl ?_
        refine z_istore_n (lv' := [(2, .int 0), (1, .int q8.1), (0, .ref (a 0))]) dX7_item_39 (Nat.le_of_ble_eq_true rfl) rfl ?_
        exact z_lv rfl ((w_X7_item hw hQ 200) q8.2 q8.1 0 hp hv)
      · have hp := ip_t hp c9; have hv := it_t hv c9
        refine z_iconst (v := 0) dX7_item_36 rfl ?_
        subst hv; exact z_zret_W hQ rfl rfl rfl rfl ⟨rfl, rfl⟩ dX7_item_37
    · have hp := ip_t hp c6; have hv := it_t hv c6
      refine z_aload_n dX7_item_17 rfl ?_
      refine z_aload_n dX7_item_18 rfl ?_
      refine mg_27 (v := M.1 27) wr_P rfl rfl dX7_item_19 ?_
      refine z_caviD hw (fun sz => c_X7_wrong G a hw.1 sz M (M.1 27) ) zc_X7_wrong zv_X7_wrong tw_m_RX7_157 (mrec wr_P) (zroom_of rfl) rfl (Nat.le_of_ble_eq_true rfl) dX7_item_22 ?_
      suffices z51 : ∀ q10 : Int32 × mT, q10 = (v_X7_wrong M (M.1 27)) → narrow .boolean (.int q10.1) = .int q10.1 → Z k_X7_item G Γ (wr G A Γ.2.2.1.1.heap (mW G a q10.2)) 0 0 [(0, .ref (a 0))] 25 [.int q10.1] from z51 _ rfl (nb_X7_wrong M (M.1 27))
      intro q10 hq10 nq10
      have hv := kk_vq hv hq10
      clear hq10
      subst hv; exact z_zret_W hQ rfl (by (repeat' (first | with_reducible exact nz0 | with_reducible exact nz1 | with_reducible assumption | with_reducible exact nb_X7_wrong .. | split))) rfl rfl ⟨rfl, rfl⟩ dX7_item_25
theorem dX7_carries_0 : decode cX7_carries 0 = .ok (.iconst 0, 1) := by decide +kernel
theorem dX7_carries_1 : decode cX7_carries 1 = .ok (.istore 5, 2) := by decide +kernel
theorem dX7_carries_3 : decode cX7_carries 3 = .ok (.iload 5, 2) := by decide +kernel
theorem dX7_carries_5 : decode cX7_carries 5 = .ok (.bipush 7, 2) := by decide +kernel
theorem dX7_carries_7 : decode cX7_carries 7 = .ok (.if_icmp .ge 37, 3) := by decide +kernel
theorem dX7_carries_10 : decode cX7_carries 10 = .ok (.iload 4, 2) := by decide +kernel
theorem dX7_carries_12 : decode cX7_carries 12 = .ok (.ifCond .eq 16, 3) := by decide +kernel
theorem dX7_carries_15 : decode cX7_carries 15 = .ok (.aload_n 1, 1) := by decide +kernel
theorem dX7_carries_16 : decode cX7_carries 16 = .ok (.iload 5, 2) := by decide +kernel
theorem dX7_carries_18 : decode cX7_carries 18 = .ok (.aload_n 2, 1) := by decide +kernel
theorem dX7_carries_19 : decode cX7_carries 19 = .ok (.iload_n 3, 1) := by decide +kernel
theorem dX7_carries_20 : decode cX7_carries 20 = .ok (.iload 5, 2) := by decide +kernel
theorem dX7_carries_22 : decode cX7_carries 22 = .ok (.iadd, 1) := by decide +kernel
theorem dX7_carries_23 : decode cX7_carries 23 = .ok (.iaload, 1) := by decide +kernel
theorem dX7_carries_24 : decode cX7_carries 24 = .ok (.iastore, 1) := by decide +kernel
theorem dX7_carries_25 : decode cX7_carries 25 = .ok (.goto 13, 3) := by decide +kernel
theorem dX7_carries_28 : decode cX7_carries 28 = .ok (.aload_n 2, 1) := by decide +kernel
theorem dX7_carries_29 : decode cX7_carries 29 = .ok (.iload_n 3, 1) := by decide +kernel
theorem dX7_carries_30 : decode cX7_carries 30 = .ok (.iload 5, 2) := by decide +kernel
theorem dX7_carries_32 : decode cX7_carries 32 = .ok (.iadd, 1) := by decide +kernel
theorem dX7_carries_33 : decode cX7_carries 33 = .ok (.aload_n 1, 1) := by decide +kernel
theorem dX7_carries_34 : decode cX7_carries 34 = .ok (.iload 5, 2) := by decide +kernel
theorem dX7_carries_36 : decode cX7_carries 36 = .ok (.iaload, 1) := by decide +kernel
theorem dX7_carries_37 : decode cX7_carries 37 = .ok (.iastore, 1) := by decide +kernel
theorem dX7_carries_38 : decode cX7_carries 38 = .ok (.iinc 5 1, 3) := by decide +kernel
theorem dX7_carries_41 : decode cX7_carries 41 = .ok (.goto (-38), 3) := by decide +kernel
theorem dX7_carries_44 : decode cX7_carries 44 = .ok (.iload_n 3, 1) := by decide +kernel
theorem dX7_carries_45 : decode cX7_carries 45 = .ok (.bipush 7, 2) := by decide +kernel
theorem dX7_carries_47 : decode cX7_carries 47 = .ok (.iadd, 1) := by decide +kernel
theorem dX7_carries_48 : decode cX7_carries 48 = .ok (.ireturn, 1) := by decide +kernel
abbrev k_X7_carries : zK := (cX7_carries, 6, RX7, (some .int), ({ frames := 0, cells := 0, slots := 0, locals := 0 } : Room))
theorem zc_X7_carries : zcal yX7_carries k_X7_carries.1 k_X7_carries.2.1 k_X7_carries.2.2.2.1 4 := ⟨tw_code_yX7_carries, tw_i_TollForHesitatorsModel, ⟨by decide +kernel, by decide +kernel⟩, by decide +kernel⟩
theorem zv_X7_carries : Cond.instanceMethod yX7_carries ∈ TS ∧ Cond.selects RX7 yX7_carries yX7_carries ∈ TS := ⟨tw_inst_yX7_carries, tw_s_yX7_carries⟩
def v_X7_carries_r (j1 : Nat) (j2 : Nat) : Nat → mT → Int32 → Int32 → Int32 → Int32 × mT
  | 0, M, _, _, _ => (0, M)
  | n + 1, M, v3, v4, v5 => if 7 ≤ v5 then (v3 + 7, M) else kk (if v4 = 0 then msa M j2 (upd (M.2.1 j2) (v3 + v5).toNatClampNeg ((M.2.1 j1) v5.toNatClampNeg)) else msa M j1 (upd (M.2.1 j1) v5.toNatClampNeg ((M.2.1 j2) (v3 + v5).toNatClampNeg))) (fun M21 : mT => v_X7_carries_r j1 j2 n M21 v3 v4 (v5 + 1))
def p_X7_carries_r (j1 : Nat) (j2 : Nat) : Nat → mT → Int32 → Int32 → Int32 → Prop
  | 0, _, _, _, _ => False
  | n + 1, M, v3, v4, v5 => if 7 ≤ v5 then True else (if v4 = 0 then mO7 j1 ∧ (vp_in v5 7 ∧ (mO60 j2 ∧ (vp_in (v3 + v5) 60))) else mO60 j2 ∧ ((vp_in (v3 + v5) 60) ∧ (mO7 j1 ∧ vp_in v5 7))) ∧ (kk (if v4 = 0 then msa M j2 (upd (M.2.1 j2) (v3 + v5).toNatClampNeg ((M.2.1 j1) v5.toNatClampNeg)) else msa M j1 (upd (M.2.1 j1) v5.toNatClampNeg ((M.2.1 j2) (v3 + v5).toNatClampNeg))) (fun M21 : mT => p_X7_carries_r j1 j2 n M21 v3 v4 (v5 + 1)))
set_option maxHeartbeats 4000000 in
theorem w_X7_carries {G : zG} {Γ : zT} {a : Nat → Nat} {A : Nat → Prop} {res : Int32 × mT} (j1 : Nat) (j2 : Nat) {X : zX} (hw : wk X A Γ.2.2.1.1.heap) (hQ : zQ Γ (Qwi G (fun r w => r = res.1 ∧ w = mW G a res.2) A) 0 0 A) : ∀ n : Nat, (∀ (M : mT) (v3 : Int32) (v4 : Int32) (v5 : Int32), p_X7_carries_r j1 j2 n M v3 v4 v5 → v_X7_carries_r j1 j2 n M v3 v4 v5 = res → Z k_X7_carries G Γ (wr G A Γ.2.2.1.1.heap (mW G a M)) 0 0 [(0, .ref (a 0)), (1, .ref (a j1)), (2, .ref (a j2)), (3, .int v3), (4, .int v4), (5, .int v5)] 3 []) := by
  intro n
  induction n with
  | zero => exact fun M v3 v4 v5 hp => absurd hp (by rw [p_X7_carries_r]; exact not_false)
  | succ n ih =>
    intro M v3 v4 v5 hp hv
    rw [p_X7_carries_r] at hp
    rw [v_X7_carries_r] at hv
    refine z_iload dX7_carries_3 rfl ?_
    refine z_bipush (v := 7) dX7_carries_5 rfl ?_
    refine z_icmp_ge (tgt := 44) dX7_carries_7 (by decide) (fun c1 => ?_) (fun c1 => ?_)
    · have hp := ip_t hp c1; have hv := it_t hv c1
      refine z_iload_n dX7_carries_44 rfl ?_
      refine z_bipush (v := 7) dX7_carries_45 rfl ?_
      refine z_iadd dX7_carries_47 ?_
      subst hv; exact z_iret_W hQ rfl rfl rfl ⟨rfl, rfl⟩ dX7_carries_48
    · have hp := ip_f hp c1; have hv := it_f hv c1
      refine z_iload dX7_carries_10 rfl ?_
      obtain ⟨hpm, hp⟩ := hp
      have J22 : ∀ M21 : mT, M21 = (if v4 = 0 then msa M j2 (upd (M.2.1 j2) (v3 + v5).toNatClampNeg ((M.2.1 j1) v5.toNatClampNeg)) else msa M j1 (upd (M.2.1 j1) v5.toNatClampNeg ((M.2.1 j2) (v3 + v5).toNatClampNeg))) → Z k_X7_carries G Γ (wr G A Γ.2.2.1.1.heap (mW G a M21)) 0 0 [(0, .ref (a 0)), (1, .ref (a j1)), (2, .ref (a j2)), (3, .int v3), (4, .int v4), (5, .int v5)] 38 [] := by
        intro M21 eM21
        have hp := kk_pq hp eM21
        have hv := kk_vq hv eM21
        clear eM21
        refine z_iinc (v := v5 + 1) (lv' := [(5, .int (v5 + 1)), (0, .ref (a 0)), (1, .ref (a j1)), (2, .ref (a j2)), (3, .int v3), (4, .int v4)]) dX7_carries_38 5 rfl rfl (Nat.le_of_ble_eq_true rfl) rfl ?_
        refine z_goto (tgt := 3) dX7_carries_41 (by decide) ?_
        exact z_lv rfl ((ih) M21 v3 v4 (v5 + 1) hp hv)
      refine z_if_eq (tgt := 28) dX7_carries_12 (by decide) (fun c12 => ?_) (fun c12 => ?_)
      · have hp := ip_t hpm c12
        refine z_aload_n dX7_carries_28 rfl ?_
        refine z_iload_n dX7_carries_29 rfl ?_
        refine z_iload dX7_carries_30 rfl ?_
        refine z_iadd dX7_carries_32 ?_
        refine z_aload_n dX7_carries_33 rfl ?_
        refine z_iload dX7_carries_34 rfl ?_
        obtain ⟨q14, hp⟩ := hp
        skip
        obtain ⟨q13, hp⟩ := hp
        refine mlv7 (x := (M.2.1 j1) v5.toNatClampNeg) wr_P q14 q13 rfl dX7_carries_36 ?_
        obtain ⟨q16, hp⟩ := hp
        skip
        have q15 := hp
        refine msv60 (F := upd (M.2.1 j2) (v3 + v5).toNatClampNeg ((M.2.1 j1) v5.toNatClampNeg)) q16 q15 (by first | rfl | simp only [msa, va_up_self]) dX7_carries_37 ?_
        exact z_lv rfl (J22 _ (if_pos c12).symm)
      · have hp := ip_f hpm c12
        refine z_aload_n dX7_carries_15 rfl ?_
        refine z_iload dX7_carries_16 rfl ?_
        refine z_aload_n dX7_carries_18 rfl ?_
        refine z_iload_n dX7_carries_19 rfl ?_
        refine z_iload dX7_carries_20 rfl ?_
        refine z_iadd dX7_carries_22 ?_
        obtain ⟨q18, hp⟩ := hp
        skip
        obtain ⟨q17, hp⟩ := hp
        refine mlv60 (x := (M.2.1 j2) (v3 + v5).toNatClampNeg) wr_P q18 q17 rfl dX7_carries_23 ?_
        obtain ⟨q20, hp⟩ := hp
        skip
        have q19 := hp
        refine msv7 (F := upd (M.2.1 j1) v5.toNatClampNeg ((M.2.1 j2) (v3 + v5).toNatClampNeg)) q20 q19 (by first | rfl | simp only [msa, va_up_self]) dX7_carries_24 ?_
        refine z_goto (tgt := 38) dX7_carries_25 (by decide) ?_
        exact z_lv rfl (J22 _ (if_neg c12).symm)
def v_X7_carries (M : mT) (j1 : Nat) (j2 : Nat) (x3 : Int32) (x4 : Int32) : Int32 × mT := v_X7_carries_r j1 j2 200 M x3 x4 0
def p_X7_carries (M : mT) (j1 : Nat) (j2 : Nat) (x3 : Int32) (x4 : Int32) : Prop := p_X7_carries_r j1 j2 200 M x3 x4 0
set_option maxHeartbeats 4000000 in
theorem c_X7_carries {l : Launch} (G : zG) (a : Nat → Nat) {X : zX} (hX : XOK X) (sz : Nat) (M : mT) (j1 : Nat) (j2 : Nat) (x3 : Int32) (x4 : Int32) (hp : p_X7_carries M j1 j2 x3 x4) : Met l yX7_carries (.code yX7_carries k_X7_carries.1 k_X7_carries.2.1 k_X7_carries.2.2.2.1 :: TS) k_X7_carries.2.2.2.2 (Pz G [.ref (a 0), .ref (a j1), .ref (a j2), .int x3, .int x4] (Fw G X (mW G a M) sz)) (Qwi G (fun r w => r = (v_X7_carries M j1 j2 x3 x4).1 ∧ w = mW G a (v_X7_carries M j1 j2 x3 x4).2) (va_A (mW G a M) sz)) 0 0 (va_A (mW G a M) sz) := by
  refine zmet (by decide +kernel) rfl rfl (fun Γ hl0 hQ hN hF => ?_)
  refine z_start hX hF (fun hw => ?_)
  generalize va_A (mW G a M) sz = A at hQ hw ⊢
  obtain ⟨res, hv⟩ : ∃ res, v_X7_carries M j1 j2 x3 x4 = res := ⟨_, rfl⟩
  rw [hv] at hQ
  unfold v_X7_carries at hv
  unfold p_X7_carries at hp
  show Z k_X7_carries G Γ _ 0 0 [(0, .ref (a 0)), (1, .ref (a j1)), (2, .ref (a j2)), (3, .int x3), (4, .int x4)] 0 []
  refine z_iconst (v := 0) dX7_carries_0 rfl ?_
  refine z_istore (lv' := [(5, .int 0), (0, .ref (a 0)), (1, .ref (a j1)), (2, .ref (a j2)), (3, .int x3), (4, .int x4)]) dX7_carries_1 (Nat.le_of_ble_eq_true rfl) rfl ?_
  exact z_lv rfl ((w_X7_carries j1 j2 hw hQ 200) M x3 x4 0 hp hv)
theorem dX7_all_0 : decode cX7_all 0 = .ok (.aload_n 0, 1) := by decide +kernel
theorem dX7_all_1 : decode cX7_all 1 = .ok (.aload_n 0, 1) := by decide +kernel
theorem dX7_all_2 : decode cX7_all 2 = .ok (.getfield 29, 3) := by decide +kernel
theorem dX7_all_5 : decode cX7_all 5 = .ok (.aload_n 1, 1) := by decide +kernel
theorem dX7_all_6 : decode cX7_all 6 = .ok (.iconst 0, 1) := by decide +kernel
theorem dX7_all_7 : decode cX7_all 7 = .ok (.iload_n 2, 1) := by decide +kernel
theorem dX7_all_8 : decode cX7_all 8 = .ok (.invokevirtual 173, 3) := by decide +kernel
theorem dX7_all_11 : decode cX7_all 11 = .ok (.istore_n 3, 1) := by decide +kernel
theorem dX7_all_12 : decode cX7_all 12 = .ok (.aload_n 0, 1) := by decide +kernel
theorem dX7_all_13 : decode cX7_all 13 = .ok (.aload_n 0, 1) := by decide +kernel
theorem dX7_all_14 : decode cX7_all 14 = .ok (.getfield 32, 3) := by decide +kernel
theorem dX7_all_17 : decode cX7_all 17 = .ok (.aload_n 1, 1) := by decide +kernel
theorem dX7_all_18 : decode cX7_all 18 = .ok (.iload_n 3, 1) := by decide +kernel
theorem dX7_all_19 : decode cX7_all 19 = .ok (.iload_n 2, 1) := by decide +kernel
theorem dX7_all_20 : decode cX7_all 20 = .ok (.invokevirtual 173, 3) := by decide +kernel
theorem dX7_all_23 : decode cX7_all 23 = .ok (.istore_n 3, 1) := by decide +kernel
theorem dX7_all_24 : decode cX7_all 24 = .ok (.aload_n 0, 1) := by decide +kernel
theorem dX7_all_25 : decode cX7_all 25 = .ok (.aload_n 0, 1) := by decide +kernel
theorem dX7_all_26 : decode cX7_all 26 = .ok (.getfield 35, 3) := by decide +kernel
theorem dX7_all_29 : decode cX7_all 29 = .ok (.aload_n 1, 1) := by decide +kernel
theorem dX7_all_30 : decode cX7_all 30 = .ok (.iload_n 3, 1) := by decide +kernel
theorem dX7_all_31 : decode cX7_all 31 = .ok (.iload_n 2, 1) := by decide +kernel
theorem dX7_all_32 : decode cX7_all 32 = .ok (.invokevirtual 173, 3) := by decide +kernel
theorem dX7_all_35 : decode cX7_all 35 = .ok (.istore_n 3, 1) := by decide +kernel
theorem dX7_all_36 : decode cX7_all 36 = .ok (.aload_n 0, 1) := by decide +kernel
theorem dX7_all_37 : decode cX7_all 37 = .ok (.aload_n 0, 1) := by decide +kernel
theorem dX7_all_38 : decode cX7_all 38 = .ok (.getfield 38, 3) := by decide +kernel
theorem dX7_all_41 : decode cX7_all 41 = .ok (.aload_n 1, 1) := by decide +kernel
theorem dX7_all_42 : decode cX7_all 42 = .ok (.iload_n 3, 1) := by decide +kernel
theorem dX7_all_43 : decode cX7_all 43 = .ok (.iload_n 2, 1) := by decide +kernel
theorem dX7_all_44 : decode cX7_all 44 = .ok (.invokevirtual 173, 3) := by decide +kernel
theorem dX7_all_47 : decode cX7_all 47 = .ok (.istore_n 3, 1) := by decide +kernel
theorem dX7_all_48 : decode cX7_all 48 = .ok (.aload_n 0, 1) := by decide +kernel
theorem dX7_all_49 : decode cX7_all 49 = .ok (.aload_n 0, 1) := by decide +kernel
theorem dX7_all_50 : decode cX7_all 50 = .ok (.getfield 41, 3) := by decide +kernel
theorem dX7_all_53 : decode cX7_all 53 = .ok (.aload_n 1, 1) := by decide +kernel
theorem dX7_all_54 : decode cX7_all 54 = .ok (.iload_n 3, 1) := by decide +kernel
theorem dX7_all_55 : decode cX7_all 55 = .ok (.iload_n 2, 1) := by decide +kernel
theorem dX7_all_56 : decode cX7_all 56 = .ok (.invokevirtual 173, 3) := by decide +kernel
theorem dX7_all_59 : decode cX7_all 59 = .ok (.istore_n 3, 1) := by decide +kernel
theorem dX7_all_60 : decode cX7_all 60 = .ok (.aload_n 0, 1) := by decide +kernel
theorem dX7_all_61 : decode cX7_all 61 = .ok (.aload_n 0, 1) := by decide +kernel
theorem dX7_all_62 : decode cX7_all 62 = .ok (.getfield 44, 3) := by decide +kernel
theorem dX7_all_65 : decode cX7_all 65 = .ok (.aload_n 1, 1) := by decide +kernel
theorem dX7_all_66 : decode cX7_all 66 = .ok (.iload_n 3, 1) := by decide +kernel
theorem dX7_all_67 : decode cX7_all 67 = .ok (.iload_n 2, 1) := by decide +kernel
theorem dX7_all_68 : decode cX7_all 68 = .ok (.invokevirtual 173, 3) := by decide +kernel
theorem dX7_all_71 : decode cX7_all 71 = .ok (.istore_n 3, 1) := by decide +kernel
theorem dX7_all_72 : decode cX7_all 72 = .ok (.aload_n 0, 1) := by decide +kernel
theorem dX7_all_73 : decode cX7_all 73 = .ok (.aload_n 0, 1) := by decide +kernel
theorem dX7_all_74 : decode cX7_all 74 = .ok (.getfield 47, 3) := by decide +kernel
theorem dX7_all_77 : decode cX7_all 77 = .ok (.aload_n 1, 1) := by decide +kernel
theorem dX7_all_78 : decode cX7_all 78 = .ok (.iload_n 3, 1) := by decide +kernel
theorem dX7_all_79 : decode cX7_all 79 = .ok (.iload_n 2, 1) := by decide +kernel
theorem dX7_all_80 : decode cX7_all 80 = .ok (.invokevirtual 173, 3) := by decide +kernel
theorem dX7_all_83 : decode cX7_all 83 = .ok (.istore_n 3, 1) := by decide +kernel
theorem dX7_all_84 : decode cX7_all 84 = .ok (.iload_n 2, 1) := by decide +kernel
theorem dX7_all_85 : decode cX7_all 85 = .ok (.ifCond .eq 68, 3) := by decide +kernel
theorem dX7_all_88 : decode cX7_all 88 = .ok (.aload_n 0, 1) := by decide +kernel
theorem dX7_all_89 : decode cX7_all 89 = .ok (.aload_n 1, 1) := by decide +kernel
theorem dX7_all_90 : decode cX7_all 90 = .ok (.iload_n 3, 1) := by decide +kernel
theorem dX7_all_91 : decode cX7_all 91 = .ok (.iaload, 1) := by decide +kernel
theorem dX7_all_92 : decode cX7_all 92 = .ok (.putfield 99, 3) := by decide +kernel
theorem dX7_all_95 : decode cX7_all 95 = .ok (.aload_n 0, 1) := by decide +kernel
theorem dX7_all_96 : decode cX7_all 96 = .ok (.aload_n 1, 1) := by decide +kernel
theorem dX7_all_97 : decode cX7_all 97 = .ok (.iload_n 3, 1) := by decide +kernel
theorem dX7_all_98 : decode cX7_all 98 = .ok (.iconst 1, 1) := by decide +kernel
theorem dX7_all_99 : decode cX7_all 99 = .ok (.iadd, 1) := by decide +kernel
theorem dX7_all_100 : decode cX7_all 100 = .ok (.iaload, 1) := by decide +kernel
theorem dX7_all_101 : decode cX7_all 101 = .ok (.putfield 7, 3) := by decide +kernel
theorem dX7_all_104 : decode cX7_all 104 = .ok (.aload_n 0, 1) := by decide +kernel
theorem dX7_all_105 : decode cX7_all 105 = .ok (.aload_n 1, 1) := by decide +kernel
theorem dX7_all_106 : decode cX7_all 106 = .ok (.iload_n 3, 1) := by decide +kernel
theorem dX7_all_107 : decode cX7_all 107 = .ok (.iconst 2, 1) := by decide +kernel
theorem dX7_all_108 : decode cX7_all 108 = .ok (.iadd, 1) := by decide +kernel
theorem dX7_all_109 : decode cX7_all 109 = .ok (.iaload, 1) := by decide +kernel
theorem dX7_all_110 : decode cX7_all 110 = .ok (.putfield 124, 3) := by decide +kernel
theorem dX7_all_113 : decode cX7_all 113 = .ok (.aload_n 0, 1) := by decide +kernel
theorem dX7_all_114 : decode cX7_all 114 = .ok (.aload_n 1, 1) := by decide +kernel
theorem dX7_all_115 : decode cX7_all 115 = .ok (.iload_n 3, 1) := by decide +kernel
theorem dX7_all_116 : decode cX7_all 116 = .ok (.iconst 3, 1) := by decide +kernel
theorem dX7_all_117 : decode cX7_all 117 = .ok (.iadd, 1) := by decide +kernel
theorem dX7_all_118 : decode cX7_all 118 = .ok (.iaload, 1) := by decide +kernel
theorem dX7_all_119 : decode cX7_all 119 = .ok (.putfield 13, 3) := by decide +kernel
theorem dX7_all_122 : decode cX7_all 122 = .ok (.aload_n 0, 1) := by decide +kernel
theorem dX7_all_123 : decode cX7_all 123 = .ok (.aload_n 1, 1) := by decide +kernel
theorem dX7_all_124 : decode cX7_all 124 = .ok (.iload_n 3, 1) := by decide +kernel
theorem dX7_all_125 : decode cX7_all 125 = .ok (.iconst 4, 1) := by decide +kernel
theorem dX7_all_126 : decode cX7_all 126 = .ok (.iadd, 1) := by decide +kernel
theorem dX7_all_127 : decode cX7_all 127 = .ok (.iaload, 1) := by decide +kernel
theorem dX7_all_128 : decode cX7_all 128 = .ok (.putfield 16, 3) := by decide +kernel
theorem dX7_all_131 : decode cX7_all 131 = .ok (.aload_n 0, 1) := by decide +kernel
theorem dX7_all_132 : decode cX7_all 132 = .ok (.aload_n 1, 1) := by decide +kernel
theorem dX7_all_133 : decode cX7_all 133 = .ok (.iload_n 3, 1) := by decide +kernel
theorem dX7_all_134 : decode cX7_all 134 = .ok (.iconst 5, 1) := by decide +kernel
theorem dX7_all_135 : decode cX7_all 135 = .ok (.iadd, 1) := by decide +kernel
theorem dX7_all_136 : decode cX7_all 136 = .ok (.iaload, 1) := by decide +kernel
theorem dX7_all_137 : decode cX7_all 137 = .ok (.putfield 177, 3) := by decide +kernel
theorem dX7_all_140 : decode cX7_all 140 = .ok (.aload_n 0, 1) := by decide +kernel
theorem dX7_all_141 : decode cX7_all 141 = .ok (.aload_n 1, 1) := by decide +kernel
theorem dX7_all_142 : decode cX7_all 142 = .ok (.iload_n 3, 1) := by decide +kernel
theorem dX7_all_143 : decode cX7_all 143 = .ok (.bipush 6, 2) := by decide +kernel
theorem dX7_all_145 : decode cX7_all 145 = .ok (.iadd, 1) := by decide +kernel
theorem dX7_all_146 : decode cX7_all 146 = .ok (.iaload, 1) := by decide +kernel
theorem dX7_all_147 : decode cX7_all 147 = .ok (.putfield 19, 3) := by decide +kernel
theorem dX7_all_150 : decode cX7_all 150 = .ok (.goto 65, 3) := by decide +kernel
theorem dX7_all_153 : decode cX7_all 153 = .ok (.aload_n 1, 1) := by decide +kernel
theorem dX7_all_154 : decode cX7_all 154 = .ok (.iload_n 3, 1) := by decide +kernel
theorem dX7_all_155 : decode cX7_all 155 = .ok (.aload_n 0, 1) := by decide +kernel
theorem dX7_all_156 : decode cX7_all 156 = .ok (.getfield 99, 3) := by decide +kernel
theorem dX7_all_159 : decode cX7_all 159 = .ok (.iastore, 1) := by decide +kernel
theorem dX7_all_160 : decode cX7_all 160 = .ok (.aload_n 1, 1) := by decide +kernel
theorem dX7_all_161 : decode cX7_all 161 = .ok (.iload_n 3, 1) := by decide +kernel
theorem dX7_all_162 : decode cX7_all 162 = .ok (.iconst 1, 1) := by decide +kernel
theorem dX7_all_163 : decode cX7_all 163 = .ok (.iadd, 1) := by decide +kernel
theorem dX7_all_164 : decode cX7_all 164 = .ok (.aload_n 0, 1) := by decide +kernel
theorem dX7_all_165 : decode cX7_all 165 = .ok (.getfield 7, 3) := by decide +kernel
theorem dX7_all_168 : decode cX7_all 168 = .ok (.iastore, 1) := by decide +kernel
theorem dX7_all_169 : decode cX7_all 169 = .ok (.aload_n 1, 1) := by decide +kernel
theorem dX7_all_170 : decode cX7_all 170 = .ok (.iload_n 3, 1) := by decide +kernel
theorem dX7_all_171 : decode cX7_all 171 = .ok (.iconst 2, 1) := by decide +kernel
theorem dX7_all_172 : decode cX7_all 172 = .ok (.iadd, 1) := by decide +kernel
theorem dX7_all_173 : decode cX7_all 173 = .ok (.aload_n 0, 1) := by decide +kernel
theorem dX7_all_174 : decode cX7_all 174 = .ok (.getfield 124, 3) := by decide +kernel
theorem dX7_all_177 : decode cX7_all 177 = .ok (.iastore, 1) := by decide +kernel
theorem dX7_all_178 : decode cX7_all 178 = .ok (.aload_n 1, 1) := by decide +kernel
theorem dX7_all_179 : decode cX7_all 179 = .ok (.iload_n 3, 1) := by decide +kernel
theorem dX7_all_180 : decode cX7_all 180 = .ok (.iconst 3, 1) := by decide +kernel
theorem dX7_all_181 : decode cX7_all 181 = .ok (.iadd, 1) := by decide +kernel
theorem dX7_all_182 : decode cX7_all 182 = .ok (.aload_n 0, 1) := by decide +kernel
theorem dX7_all_183 : decode cX7_all 183 = .ok (.getfield 13, 3) := by decide +kernel
theorem dX7_all_186 : decode cX7_all 186 = .ok (.iastore, 1) := by decide +kernel
theorem dX7_all_187 : decode cX7_all 187 = .ok (.aload_n 1, 1) := by decide +kernel
theorem dX7_all_188 : decode cX7_all 188 = .ok (.iload_n 3, 1) := by decide +kernel
theorem dX7_all_189 : decode cX7_all 189 = .ok (.iconst 4, 1) := by decide +kernel
theorem dX7_all_190 : decode cX7_all 190 = .ok (.iadd, 1) := by decide +kernel
theorem dX7_all_191 : decode cX7_all 191 = .ok (.aload_n 0, 1) := by decide +kernel
theorem dX7_all_192 : decode cX7_all 192 = .ok (.getfield 16, 3) := by decide +kernel
theorem dX7_all_195 : decode cX7_all 195 = .ok (.iastore, 1) := by decide +kernel
theorem dX7_all_196 : decode cX7_all 196 = .ok (.aload_n 1, 1) := by decide +kernel
theorem dX7_all_197 : decode cX7_all 197 = .ok (.iload_n 3, 1) := by decide +kernel
theorem dX7_all_198 : decode cX7_all 198 = .ok (.iconst 5, 1) := by decide +kernel
theorem dX7_all_199 : decode cX7_all 199 = .ok (.iadd, 1) := by decide +kernel
theorem dX7_all_200 : decode cX7_all 200 = .ok (.aload_n 0, 1) := by decide +kernel
theorem dX7_all_201 : decode cX7_all 201 = .ok (.getfield 177, 3) := by decide +kernel
theorem dX7_all_204 : decode cX7_all 204 = .ok (.iastore, 1) := by decide +kernel
theorem dX7_all_205 : decode cX7_all 205 = .ok (.aload_n 1, 1) := by decide +kernel
theorem dX7_all_206 : decode cX7_all 206 = .ok (.iload_n 3, 1) := by decide +kernel
theorem dX7_all_207 : decode cX7_all 207 = .ok (.bipush 6, 2) := by decide +kernel
theorem dX7_all_209 : decode cX7_all 209 = .ok (.iadd, 1) := by decide +kernel
theorem dX7_all_210 : decode cX7_all 210 = .ok (.aload_n 0, 1) := by decide +kernel
theorem dX7_all_211 : decode cX7_all 211 = .ok (.getfield 19, 3) := by decide +kernel
theorem dX7_all_214 : decode cX7_all 214 = .ok (.iastore, 1) := by decide +kernel
theorem dX7_all_215 : decode cX7_all 215 = .ok (.return_, 1) := by decide +kernel
abbrev k_X7_all : zK := (cX7_all, 4, RX7, none, ({ frames := 1, cells := 0, slots := 0, locals := 25 } : Room))
theorem zc_X7_all : zcal yX7_all k_X7_all.1 k_X7_all.2.1 k_X7_all.2.2.2.1 2 := ⟨tw_code_yX7_all, tw_i_TollForHesitatorsModel, ⟨by decide +kernel, by decide +kernel⟩, by decide +kernel⟩
theorem zv_X7_all : Cond.instanceMethod yX7_all ∈ TS ∧ Cond.selects RX7 yX7_all yX7_all ∈ TS := ⟨tw_inst_yX7_all, tw_s_yX7_all⟩
def v_X7_all (M : mT) (j1 : Nat) (x2 : Int32) : mT := kk (v_X7_carries M 9 j1 0 x2) (fun q2 : Int32 × mT => kk (v_X7_carries q2.2 10 j1 q2.1 x2) (fun q4 : Int32 × mT => kk (v_X7_carries q4.2 11 j1 q4.1 x2) (fun q6 : Int32 × mT => kk (v_X7_carries q6.2 12 j1 q6.1 x2) (fun q8 : Int32 × mT => kk (v_X7_carries q8.2 13 j1 q8.1 x2) (fun q10 : Int32 × mT => kk (v_X7_carries q10.2 14 j1 q10.1 x2) (fun q12 : Int32 × mT => kk (v_X7_carries q12.2 15 j1 q12.1 x2) (fun q14 : Int32 × mT => kk (if x2 = 0 then msa (msa (msa (msa (msa (msa (msa q14.2 j1 (upd (q14.2.2.1 j1) q14.1.toNatClampNeg (q14.2.1 0))) j1 (upd (upd (q14.2.2.1 j1) q14.1.toNatClampNeg (q14.2.1 0)) (q14.1 + 1).toNatClampNeg (q14.2.1 1))) j1 (upd (upd (upd (q14.2.2.1 j1) q14.1.toNatClampNeg (q14.2.1 0)) (q14.1 + 1).toNatClampNeg (q14.2.1 1)) (q14.1 + 2).toNatClampNeg (q14.2.1 2))) j1 (upd (upd (upd (upd (q14.2.2.1 j1) q14.1.toNatClampNeg (q14.2.1 0)) (q14.1 + 1).toNatClampNeg (q14.2.1 1)) (q14.1 + 2).toNatClampNeg (q14.2.1 2)) (q14.1 + 3).toNatClampNeg (q14.2.1 3))) j1 (upd (upd (upd (upd (upd (q14.2.2.1 j1) q14.1.toNatClampNeg (q14.2.1 0)) (q14.1 + 1).toNatClampNeg (q14.2.1 1)) (q14.1 + 2).toNatClampNeg (q14.2.1 2)) (q14.1 + 3).toNatClampNeg (q14.2.1 3)) (q14.1 + 4).toNatClampNeg (q14.2.1 4))) j1 (upd (upd (upd (upd (upd (upd (q14.2.2.1 j1) q14.1.toNatClampNeg (q14.2.1 0)) (q14.1 + 1).toNatClampNeg (q14.2.1 1)) (q14.1 + 2).toNatClampNeg (q14.2.1 2)) (q14.1 + 3).toNatClampNeg (q14.2.1 3)) (q14.1 + 4).toNatClampNeg (q14.2.1 4)) (q14.1 + 5).toNatClampNeg (q14.2.1 5))) j1 (upd (upd (upd (upd (upd (upd (upd (q14.2.2.1 j1) q14.1.toNatClampNeg (q14.2.1 0)) (q14.1 + 1).toNatClampNeg (q14.2.1 1)) (q14.1 + 2).toNatClampNeg (q14.2.1 2)) (q14.1 + 3).toNatClampNeg (q14.2.1 3)) (q14.1 + 4).toNatClampNeg (q14.2.1 4)) (q14.1 + 5).toNatClampNeg (q14.2.1 5)) (q14.1 + 6).toNatClampNeg (q14.2.1 6)) else msf (msf (msf (msf (msf (msf (msf q14.2 0 ((q14.2.2.1 j1) q14.1.toNatClampNeg)) 1 ((q14.2.2.1 j1) (q14.1 + 1).toNatClampNeg)) 2 ((q14.2.2.1 j1) (q14.1 + 2).toNatClampNeg)) 3 ((q14.2.2.1 j1) (q14.1 + 3).toNatClampNeg)) 4 ((q14.2.2.1 j1) (q14.1 + 4).toNatClampNeg)) 5 ((q14.2.2.1 j1) (q14.1 + 5).toNatClampNeg)) 6 ((q14.2.2.1 j1) (q14.1 + 6).toNatClampNeg)) (fun M44 : mT => M44))))))))
def p_X7_all (M : mT) (j1 : Nat) (x2 : Int32) : Prop := p_X7_carries M 9 j1 0 x2 ∧ (kk (v_X7_carries M 9 j1 0 x2) (fun q2 : Int32 × mT => p_X7_carries q2.2 10 j1 q2.1 x2 ∧ (kk (v_X7_carries q2.2 10 j1 q2.1 x2) (fun q4 : Int32 × mT => p_X7_carries q4.2 11 j1 q4.1 x2 ∧ (kk (v_X7_carries q4.2 11 j1 q4.1 x2) (fun q6 : Int32 × mT => p_X7_carries q6.2 12 j1 q6.1 x2 ∧ (kk (v_X7_carries q6.2 12 j1 q6.1 x2) (fun q8 : Int32 × mT => p_X7_carries q8.2 13 j1 q8.1 x2 ∧ (kk (v_X7_carries q8.2 13 j1 q8.1 x2) (fun q10 : Int32 × mT => p_X7_carries q10.2 14 j1 q10.1 x2 ∧ (kk (v_X7_carries q10.2 14 j1 q10.1 x2) (fun q12 : Int32 × mT => p_X7_carries q12.2 15 j1 q12.1 x2 ∧ (kk (v_X7_carries q12.2 15 j1 q12.1 x2) (fun q14 : Int32 × mT => if x2 = 0 then mO60 j1 ∧ (vp_in q14.1 60 ∧ (mO60 j1 ∧ ((vp_in (q14.1 + 1) 60) ∧ (mO60 j1 ∧ ((vp_in (q14.1 + 2) 60) ∧ (mO60 j1 ∧ ((vp_in (q14.1 + 3) 60) ∧ (mO60 j1 ∧ ((vp_in (q14.1 + 4) 60) ∧ (mO60 j1 ∧ ((vp_in (q14.1 + 5) 60) ∧ (mO60 j1 ∧ (vp_in (q14.1 + 6) 60))))))))))))) else mO60 j1 ∧ (vp_in q14.1 60 ∧ (mO60 j1 ∧ ((vp_in (q14.1 + 1) 60) ∧ (mO60 j1 ∧ ((vp_in (q14.1 + 2) 60) ∧ (mO60 j1 ∧ ((vp_in (q14.1 + 3) 60) ∧ (mO60 j1 ∧ ((vp_in (q14.1 + 4) 60) ∧ (mO60 j1 ∧ ((vp_in (q14.1 + 5) 60) ∧ (mO60 j1 ∧ (vp_in (q14.1 + 6) 60)))))))))))))))))))))))))))
set_option maxHeartbeats 4000000 in
theorem c_X7_all {l : Launch} (G : zG) (a : Nat → Nat) {X : zX} (hX : XOK X) (sz : Nat) (M : mT) (j1 : Nat) (x2 : Int32) (hp : p_X7_all M j1 x2) : Met l yX7_all (.code yX7_all k_X7_all.1 k_X7_all.2.1 k_X7_all.2.2.2.1 :: TS) k_X7_all.2.2.2.2 (Pz G [.ref (a 0), .ref (a j1), .int x2] (Fw G X (mW G a M) sz)) (Qwv G (fun w => w = mW G a (v_X7_all M j1 x2)) (va_A (mW G a M) sz)) 0 0 (va_A (mW G a M) sz) := by
  refine zmet (by decide +kernel) rfl rfl (fun Γ hl0 hQ hN hF => ?_)
  refine z_start hX hF (fun hw => ?_)
  generalize va_A (mW G a M) sz = A at hQ hw ⊢
  obtain ⟨res, hv⟩ : ∃ res, v_X7_all M j1 x2 = res := ⟨_, rfl⟩
  rw [hv] at hQ
  unfold v_X7_all at hv
  unfold p_X7_all at hp
  show Z k_X7_all G Γ _ 0 0 [(0, .ref (a 0)), (1, .ref (a j1)), (2, .int x2)] 0 []
  refine z_aload_n dX7_all_0 rfl ?_
  refine z_aload_n dX7_all_1 rfl ?_
  refine mg_9 wr_P rfl dX7_all_2 ?_
  refine z_aload_n dX7_all_5 rfl ?_
  refine z_iconst (v := 0) dX7_all_6 rfl ?_
  refine z_iload_n dX7_all_7 rfl ?_
  obtain ⟨q1, hp⟩ := hp
  refine z_caviD hw (fun sz => c_X7_carries G a hw.1 sz M 9 j1 0 x2 q1) zc_X7_carries zv_X7_carries tw_m_RX7_173 (mrec wr_P) (zroom_of rfl) rfl (Nat.le_of_ble_eq_true rfl) dX7_all_8 ?_
  suffices z45 : ∀ q2 : Int32 × mT, q2 = (v_X7_carries M 9 j1 0 x2) → Z k_X7_all G Γ (wr G A Γ.2.2.1.1.heap (mW G a q2.2)) 0 0 [(0, .ref (a 0)), (1, .ref (a j1)), (2, .int x2)] 11 [.int q2.1] from z45 _ rfl
  intro q2 hq2
  have hp := kk_pq hp hq2
  have hv := kk_vq hv hq2
  clear hq2
  refine z_istore_n (lv' := [(3, .int q2.1), (0, .ref (a 0)), (1, .ref (a j1)), (2, .int x2)]) dX7_all_11 (Nat.le_of_ble_eq_true rfl) rfl ?_
  refine z_aload_n dX7_all_12 rfl ?_
  refine z_aload_n dX7_all_13 rfl ?_
  refine mg_10 wr_P rfl dX7_all_14 ?_
  refine z_aload_n dX7_all_17 rfl ?_
  refine z_iload_n dX7_all_18 rfl ?_
  refine z_iload_n dX7_all_19 rfl ?_
  obtain ⟨q3, hp⟩ := hp
  refine z_caviD hw (fun sz => c_X7_carries G a hw.1 sz q2.2 10 j1 q2.1 x2 q3) zc_X7_carries zv_X7_carries tw_m_RX7_173 (mrec wr_P) (zroom_of rfl) rfl (Nat.le_of_ble_eq_true rfl) dX7_all_20 ?_
  suffices z46 : ∀ q4 : Int32 × mT, q4 = (v_X7_carries q2.2 10 j1 q2.1 x2) → Z k_X7_all G Γ (wr G A Γ.2.2.1.1.heap (mW G a q4.2)) 0 0 [(3, .int q2.1), (0, .ref (a 0)), (1, .ref (a j1)), (2, .int x2)] 23 [.int q4.1] from z46 _ rfl
  intro q4 hq4
  have hp := kk_pq hp hq4
  have hv := kk_vq hv hq4
  clear hq4
  refine z_istore_n (lv' := [(3, .int q4.1), (0, .ref (a 0)), (1, .ref (a j1)), (2, .int x2)]) dX7_all_23 (Nat.le_of_ble_eq_true rfl) rfl ?_
  refine z_aload_n dX7_all_24 rfl ?_
  refine z_aload_n dX7_all_25 rfl ?_
  refine mg_11 wr_P rfl dX7_all_26 ?_
  refine z_aload_n dX7_all_29 rfl ?_
  refine z_iload_n dX7_all_30 rfl ?_
  refine z_iload_n dX7_all_31 rfl ?_
  obtain ⟨q5, hp⟩ := hp
  refine z_caviD hw (fun sz => c_X7_carries G a hw.1 sz q4.2 11 j1 q4.1 x2 q5) zc_X7_carries zv_X7_carries tw_m_RX7_173 (mrec wr_P) (zroom_of rfl) rfl (Nat.le_of_ble_eq_true rfl) dX7_all_32 ?_
  suffices z47 : ∀ q6 : Int32 × mT, q6 = (v_X7_carries q4.2 11 j1 q4.1 x2) → Z k_X7_all G Γ (wr G A Γ.2.2.1.1.heap (mW G a q6.2)) 0 0 [(3, .int q4.1), (0, .ref (a 0)), (1, .ref (a j1)), (2, .int x2)] 35 [.int q6.1] from z47 _ rfl
  intro q6 hq6
  have hp := kk_pq hp hq6
  have hv := kk_vq hv hq6
  clear hq6
  refine z_istore_n (lv' := [(3, .int q6.1), (0, .ref (a 0)), (1, .ref (a j1)), (2, .int x2)]) dX7_all_35 (Nat.le_of_ble_eq_true rfl) rfl ?_
  refine z_aload_n dX7_all_36 rfl ?_
  refine z_aload_n dX7_all_37 rfl ?_
  refine mg_12 wr_P rfl dX7_all_38 ?_
  refine z_aload_n dX7_all_41 rfl ?_
  refine z_iload_n dX7_all_42 rfl ?_
  refine z_iload_n dX7_all_43 rfl ?_
  obtain ⟨q7, hp⟩ := hp
  refine z_caviD hw (fun sz => c_X7_carries G a hw.1 sz q6.2 12 j1 q6.1 x2 q7) zc_X7_carries zv_X7_carries tw_m_RX7_173 (mrec wr_P) (zroom_of rfl) rfl (Nat.le_of_ble_eq_true rfl) dX7_all_44 ?_
  suffices z48 : ∀ q8 : Int32 × mT, q8 = (v_X7_carries q6.2 12 j1 q6.1 x2) → Z k_X7_all G Γ (wr G A Γ.2.2.1.1.heap (mW G a q8.2)) 0 0 [(3, .int q6.1), (0, .ref (a 0)), (1, .ref (a j1)), (2, .int x2)] 47 [.int q8.1] from z48 _ rfl
  intro q8 hq8
  have hp := kk_pq hp hq8
  have hv := kk_vq hv hq8
  clear hq8
  refine z_istore_n (lv' := [(3, .int q8.1), (0, .ref (a 0)), (1, .ref (a j1)), (2, .int x2)]) dX7_all_47 (Nat.le_of_ble_eq_true rfl) rfl ?_
  refine z_aload_n dX7_all_48 rfl ?_
  refine z_aload_n dX7_all_49 rfl ?_
  refine mg_13 wr_P rfl dX7_all_50 ?_
  refine z_aload_n dX7_all_53 rfl ?_
  refine z_iload_n dX7_all_54 rfl ?_
  refine z_iload_n dX7_all_55 rfl ?_
  obtain ⟨q9, hp⟩ := hp
  refine z_caviD hw (fun sz => c_X7_carries G a hw.1 sz q8.2 13 j1 q8.1 x2 q9) zc_X7_carries zv_X7_carries tw_m_RX7_173 (mrec wr_P) (zroom_of rfl) rfl (Nat.le_of_ble_eq_true rfl) dX7_all_56 ?_
  suffices z49 : ∀ q10 : Int32 × mT, q10 = (v_X7_carries q8.2 13 j1 q8.1 x2) → Z k_X7_all G Γ (wr G A Γ.2.2.1.1.heap (mW G a q10.2)) 0 0 [(3, .int q8.1), (0, .ref (a 0)), (1, .ref (a j1)), (2, .int x2)] 59 [.int q10.1] from z49 _ rfl
  intro q10 hq10
  have hp := kk_pq hp hq10
  have hv := kk_vq hv hq10
  clear hq10
  refine z_istore_n (lv' := [(3, .int q10.1), (0, .ref (a 0)), (1, .ref (a j1)), (2, .int x2)]) dX7_all_59 (Nat.le_of_ble_eq_true rfl) rfl ?_
  refine z_aload_n dX7_all_60 rfl ?_
  refine z_aload_n dX7_all_61 rfl ?_
  refine mg_14 wr_P rfl dX7_all_62 ?_
  refine z_aload_n dX7_all_65 rfl ?_
  refine z_iload_n dX7_all_66 rfl ?_
  refine z_iload_n dX7_all_67 rfl ?_
  obtain ⟨q11, hp⟩ := hp
  refine z_caviD hw (fun sz => c_X7_carries G a hw.1 sz q10.2 14 j1 q10.1 x2 q11) zc_X7_carries zv_X7_carries tw_m_RX7_173 (mrec wr_P) (zroom_of rfl) rfl (Nat.le_of_ble_eq_true rfl) dX7_all_68 ?_
  suffices z50 : ∀ q12 : Int32 × mT, q12 = (v_X7_carries q10.2 14 j1 q10.1 x2) → Z k_X7_all G Γ (wr G A Γ.2.2.1.1.heap (mW G a q12.2)) 0 0 [(3, .int q10.1), (0, .ref (a 0)), (1, .ref (a j1)), (2, .int x2)] 71 [.int q12.1] from z50 _ rfl
  intro q12 hq12
  have hp := kk_pq hp hq12
  have hv := kk_vq hv hq12
  clear hq12
  refine z_istore_n (lv' := [(3, .int q12.1), (0, .ref (a 0)), (1, .ref (a j1)), (2, .int x2)]) dX7_all_71 (Nat.le_of_ble_eq_true rfl) rfl ?_
  refine z_aload_n dX7_all_72 rfl ?_
  refine z_aload_n dX7_all_73 rfl ?_
  refine mg_15 wr_P rfl dX7_all_74 ?_
  refine z_aload_n dX7_all_77 rfl ?_
  refine z_iload_n dX7_all_78 rfl ?_
  refine z_iload_n dX7_all_79 rfl ?_
  obtain ⟨q13, hp⟩ := hp
  refine z_caviD hw (fun sz => c_X7_carries G a hw.1 sz q12.2 15 j1 q12.1 x2 q13) zc_X7_carries zv_X7_carries tw_m_RX7_173 (mrec wr_P) (zroom_of rfl) rfl (Nat.le_of_ble_eq_true rfl) dX7_all_80 ?_
  suffices z51 : ∀ q14 : Int32 × mT, q14 = (v_X7_carries q12.2 15 j1 q12.1 x2) → Z k_X7_all G Γ (wr G A Γ.2.2.1.1.heap (mW G a q14.2)) 0 0 [(3, .int q12.1), (0, .ref (a 0)), (1, .ref (a j1)), (2, .int x2)] 83 [.int q14.1] from z51 _ rfl
  intro q14 hq14
  have hp := kk_pq hp hq14
  have hv := kk_vq hv hq14
  clear hq14
  refine z_istore_n (lv' := [(3, .int q14.1), (0, .ref (a 0)), (1, .ref (a j1)), (2, .int x2)]) dX7_all_83 (Nat.le_of_ble_eq_true rfl) rfl ?_
  refine z_iload_n dX7_all_84 rfl ?_
  have hpm := hp
  have J52 : ∀ M44 : mT, M44 = (if x2 = 0 then msa (msa (msa (msa (msa (msa (msa q14.2 j1 (upd (q14.2.2.1 j1) q14.1.toNatClampNeg (q14.2.1 0))) j1 (upd (upd (q14.2.2.1 j1) q14.1.toNatClampNeg (q14.2.1 0)) (q14.1 + 1).toNatClampNeg (q14.2.1 1))) j1 (upd (upd (upd (q14.2.2.1 j1) q14.1.toNatClampNeg (q14.2.1 0)) (q14.1 + 1).toNatClampNeg (q14.2.1 1)) (q14.1 + 2).toNatClampNeg (q14.2.1 2))) j1 (upd (upd (upd (upd (q14.2.2.1 j1) q14.1.toNatClampNeg (q14.2.1 0)) (q14.1 + 1).toNatClampNeg (q14.2.1 1)) (q14.1 + 2).toNatClampNeg (q14.2.1 2)) (q14.1 + 3).toNatClampNeg (q14.2.1 3))) j1 (upd (upd (upd (upd (upd (q14.2.2.1 j1) q14.1.toNatClampNeg (q14.2.1 0)) (q14.1 + 1).toNatClampNeg (q14.2.1 1)) (q14.1 + 2).toNatClampNeg (q14.2.1 2)) (q14.1 + 3).toNatClampNeg (q14.2.1 3)) (q14.1 + 4).toNatClampNeg (q14.2.1 4))) j1 (upd (upd (upd (upd (upd (upd (q14.2.2.1 j1) q14.1.toNatClampNeg (q14.2.1 0)) (q14.1 + 1).toNatClampNeg (q14.2.1 1)) (q14.1 + 2).toNatClampNeg (q14.2.1 2)) (q14.1 + 3).toNatClampNeg (q14.2.1 3)) (q14.1 + 4).toNatClampNeg (q14.2.1 4)) (q14.1 + 5).toNatClampNeg (q14.2.1 5))) j1 (upd (upd (upd (upd (upd (upd (upd (q14.2.2.1 j1) q14.1.toNatClampNeg (q14.2.1 0)) (q14.1 + 1).toNatClampNeg (q14.2.1 1)) (q14.1 + 2).toNatClampNeg (q14.2.1 2)) (q14.1 + 3).toNatClampNeg (q14.2.1 3)) (q14.1 + 4).toNatClampNeg (q14.2.1 4)) (q14.1 + 5).toNatClampNeg (q14.2.1 5)) (q14.1 + 6).toNatClampNeg (q14.2.1 6)) else msf (msf (msf (msf (msf (msf (msf q14.2 0 ((q14.2.2.1 j1) q14.1.toNatClampNeg)) 1 ((q14.2.2.1 j1) (q14.1 + 1).toNatClampNeg)) 2 ((q14.2.2.1 j1) (q14.1 + 2).toNatClampNeg)) 3 ((q14.2.2.1 j1) (q14.1 + 3).toNatClampNeg)) 4 ((q14.2.2.1 j1) (q14.1 + 4).toNatClampNeg)) 5 ((q14.2.2.1 j1) (q14.1 + 5).toNatClampNeg)) 6 ((q14.2.2.1 j1) (q14.1 + 6).toNatClampNeg)) → Z k_X7_all G Γ (wr G A Γ.2.2.1.1.heap (mW G a M44)) 0 0 [(3, .int q14.1), (0, .ref (a 0)), (1, .ref (a j1)), (2, .int x2)] 215 [] := by
    intro M44 eM44
    have hv := kk_vq hv eM44
    clear eM44
    subst hv; exact z_vret_W hQ rfl rfl rfl rfl dX7_all_215
  refine z_if_eq (tgt := 153) dX7_all_85 (by decide) (fun c15 => ?_) (fun c15 => ?_)
  · have hp := ip_t hpm c15
    refine z_aload_n dX7_all_153 rfl ?_
    refine z_iload_n dX7_all_154 rfl ?_
    refine z_aload_n dX7_all_155 rfl ?_
    refine mg_0 (v := q14.2.1 0) wr_P rfl rfl dX7_all_156 ?_
    obtain ⟨q17, hp⟩ := hp
    skip
    obtain ⟨q16, hp⟩ := hp
    refine msv60 (F := upd (q14.2.2.1 j1) q14.1.toNatClampNeg (q14.2.1 0)) q17 q16 (by first | rfl | simp only [msa, va_up_self]) dX7_all_159 ?_
    refine z_aload_n dX7_all_160 rfl ?_
    refine z_iload_n dX7_all_161 rfl ?_
    refine z_iconst (v := 1) dX7_all_162 rfl ?_
    refine z_iadd dX7_all_163 ?_
    refine z_aload_n dX7_all_164 rfl ?_
    refine mg_1 (v := q14.2.1 1) wr_P rfl rfl dX7_all_165 ?_
    obtain ⟨q19, hp⟩ := hp
    skip
    obtain ⟨q18, hp⟩ := hp
    refine msv60 (F := upd (upd (q14.2.2.1 j1) q14.1.toNatClampNeg (q14.2.1 0)) (q14.1 + 1).toNatClampNeg (q14.2.1 1)) q19 q18 (by first | rfl | simp only [msa, va_up_self]) dX7_all_168 ?_
    refine z_aload_n dX7_all_169 rfl ?_
    refine z_iload_n dX7_all_170 rfl ?_
    refine z_iconst (v := 2) dX7_all_171 rfl ?_
    refine z_iadd dX7_all_172 ?_
    refine z_aload_n dX7_all_173 rfl ?_
    refine mg_2 (v := q14.2.1 2) wr_P rfl rfl dX7_all_174 ?_
    obtain ⟨q21, hp⟩ := hp
    skip
    obtain ⟨q20, hp⟩ := hp
    refine msv60 (F := upd (upd (upd (q14.2.2.1 j1) q14.1.toNatClampNeg (q14.2.1 0)) (q14.1 + 1).toNatClampNeg (q14.2.1 1)) (q14.1 + 2).toNatClampNeg (q14.2.1 2)) q21 q20 (by first | rfl | simp only [msa, va_up_self]) dX7_all_177 ?_
    refine z_aload_n dX7_all_178 rfl ?_
    refine z_iload_n dX7_all_179 rfl ?_
    refine z_iconst (v := 3) dX7_all_180 rfl ?_
    refine z_iadd dX7_all_181 ?_
    refine z_aload_n dX7_all_182 rfl ?_
    refine mg_3 (v := q14.2.1 3) wr_P rfl rfl dX7_all_183 ?_
    obtain ⟨q23, hp⟩ := hp
    skip
    obtain ⟨q22, hp⟩ := hp
    refine msv60 (F := upd (upd (upd (upd (q14.2.2.1 j1) q14.1.toNatClampNeg (q14.2.1 0)) (q14.1 + 1).toNatClampNeg (q14.2.1 1)) (q14.1 + 2).toNatClampNeg (q14.2.1 2)) (q14.1 + 3).toNatClampNeg (q14.2.1 3)) q23 q22 (by first | rfl | simp only [msa, va_up_self]) dX7_all_186 ?_
    refine z_aload_n dX7_all_187 rfl ?_
    refine z_iload_n dX7_all_188 rfl ?_
    refine z_iconst (v := 4) dX7_all_189 rfl ?_
    refine z_iadd dX7_all_190 ?_
    refine z_aload_n dX7_all_191 rfl ?_
    refine mg_4 (v := q14.2.1 4) wr_P rfl rfl dX7_all_192 ?_
    obtain ⟨q25, hp⟩ := hp
    skip
    obtain ⟨q24, hp⟩ := hp
    refine msv60 (F := upd (upd (upd (upd (upd (q14.2.2.1 j1) q14.1.toNatClampNeg (q14.2.1 0)) (q14.1 + 1).toNatClampNeg (q14.2.1 1)) (q14.1 + 2).toNatClampNeg (q14.2.1 2)) (q14.1 + 3).toNatClampNeg (q14.2.1 3)) (q14.1 + 4).toNatClampNeg (q14.2.1 4)) q25 q24 (by first | rfl | simp only [msa, va_up_self]) dX7_all_195 ?_
    refine z_aload_n dX7_all_196 rfl ?_
    refine z_iload_n dX7_all_197 rfl ?_
    refine z_iconst (v := 5) dX7_all_198 rfl ?_
    refine z_iadd dX7_all_199 ?_
    refine z_aload_n dX7_all_200 rfl ?_
    refine mg_5 (v := q14.2.1 5) wr_P rfl rfl dX7_all_201 ?_
    obtain ⟨q27, hp⟩ := hp
    skip
    obtain ⟨q26, hp⟩ := hp
    refine msv60 (F := upd (upd (upd (upd (upd (upd (q14.2.2.1 j1) q14.1.toNatClampNeg (q14.2.1 0)) (q14.1 + 1).toNatClampNeg (q14.2.1 1)) (q14.1 + 2).toNatClampNeg (q14.2.1 2)) (q14.1 + 3).toNatClampNeg (q14.2.1 3)) (q14.1 + 4).toNatClampNeg (q14.2.1 4)) (q14.1 + 5).toNatClampNeg (q14.2.1 5)) q27 q26 (by first | rfl | simp only [msa, va_up_self]) dX7_all_204 ?_
    refine z_aload_n dX7_all_205 rfl ?_
    refine z_iload_n dX7_all_206 rfl ?_
    refine z_bipush (v := 6) dX7_all_207 rfl ?_
    refine z_iadd dX7_all_209 ?_
    refine z_aload_n dX7_all_210 rfl ?_
    refine mg_6 (v := q14.2.1 6) wr_P rfl rfl dX7_all_211 ?_
    obtain ⟨q29, hp⟩ := hp
    skip
    have q28 := hp
    refine msv60 (F := upd (upd (upd (upd (upd (upd (upd (q14.2.2.1 j1) q14.1.toNatClampNeg (q14.2.1 0)) (q14.1 + 1).toNatClampNeg (q14.2.1 1)) (q14.1 + 2).toNatClampNeg (q14.2.1 2)) (q14.1 + 3).toNatClampNeg (q14.2.1 3)) (q14.1 + 4).toNatClampNeg (q14.2.1 4)) (q14.1 + 5).toNatClampNeg (q14.2.1 5)) (q14.1 + 6).toNatClampNeg (q14.2.1 6)) q29 q28 (by first | rfl | simp only [msa, va_up_self]) dX7_all_214 ?_
    exact z_lv rfl (J52 _ (if_pos c15).symm)
  · have hp := ip_f hpm c15
    refine z_aload_n dX7_all_88 rfl ?_
    refine z_aload_n dX7_all_89 rfl ?_
    refine z_iload_n dX7_all_90 rfl ?_
    obtain ⟨q31, hp⟩ := hp
    skip
    obtain ⟨q30, hp⟩ := hp
    refine mlv60 (x := (q14.2.2.1 j1) q14.1.toNatClampNeg) wr_P q31 q30 rfl dX7_all_91 ?_
    refine mp_0 (v := (q14.2.2.1 j1) q14.1.toNatClampNeg) rfl dX7_all_92 ?_
    refine z_aload_n dX7_all_95 rfl ?_
    refine z_aload_n dX7_all_96 rfl ?_
    refine z_iload_n dX7_all_97 rfl ?_
    refine z_iconst (v := 1) dX7_all_98 rfl ?_
    refine z_iadd dX7_all_99 ?_
    obtain ⟨q33, hp⟩ := hp
    skip
    obtain ⟨q32, hp⟩ := hp
    refine mlv60 (x := (q14.2.2.1 j1) (q14.1 + 1).toNatClampNeg) wr_P q33 q32 rfl dX7_all_100 ?_
    refine mp_1 (v := (q14.2.2.1 j1) (q14.1 + 1).toNatClampNeg) rfl dX7_all_101 ?_
    refine z_aload_n dX7_all_104 rfl ?_
    refine z_aload_n dX7_all_105 rfl ?_
    refine z_iload_n dX7_all_106 rfl ?_
    refine z_iconst (v := 2) dX7_all_107 rfl ?_
    refine z_iadd dX7_all_108 ?_
    obtain ⟨q35, hp⟩ := hp
    skip
    obtain ⟨q34, hp⟩ := hp
    refine mlv60 (x := (q14.2.2.1 j1) (q14.1 + 2).toNatClampNeg) wr_P q35 q34 rfl dX7_all_109 ?_
    refine mp_2 (v := (q14.2.2.1 j1) (q14.1 + 2).toNatClampNeg) rfl dX7_all_110 ?_
    refine z_aload_n dX7_all_113 rfl ?_
    refine z_aload_n dX7_all_114 rfl ?_
    refine z_iload_n dX7_all_115 rfl ?_
    refine z_iconst (v := 3) dX7_all_116 rfl ?_
    refine z_iadd dX7_all_117 ?_
    obtain ⟨q37, hp⟩ := hp
    skip
    obtain ⟨q36, hp⟩ := hp
    refine mlv60 (x := (q14.2.2.1 j1) (q14.1 + 3).toNatClampNeg) wr_P q37 q36 rfl dX7_all_118 ?_
    refine mp_3 (v := (q14.2.2.1 j1) (q14.1 + 3).toNatClampNeg) rfl dX7_all_119 ?_
    refine z_aload_n dX7_all_122 rfl ?_
    refine z_aload_n dX7_all_123 rfl ?_
    refine z_iload_n dX7_all_124 rfl ?_
    refine z_iconst (v := 4) dX7_all_125 rfl ?_
    refine z_iadd dX7_all_126 ?_
    obtain ⟨q39, hp⟩ := hp
    skip
    obtain ⟨q38, hp⟩ := hp
    refine mlv60 (x := (q14.2.2.1 j1) (q14.1 + 4).toNatClampNeg) wr_P q39 q38 rfl dX7_all_127 ?_
    refine mp_4 (v := (q14.2.2.1 j1) (q14.1 + 4).toNatClampNeg) rfl dX7_all_128 ?_
    refine z_aload_n dX7_all_131 rfl ?_
    refine z_aload_n dX7_all_132 rfl ?_
    refine z_iload_n dX7_all_133 rfl ?_
    refine z_iconst (v := 5) dX7_all_134 rfl ?_
    refine z_iadd dX7_all_135 ?_
    obtain ⟨q41, hp⟩ := hp
    skip
    obtain ⟨q40, hp⟩ := hp
    refine mlv60 (x := (q14.2.2.1 j1) (q14.1 + 5).toNatClampNeg) wr_P q41 q40 rfl dX7_all_136 ?_
    refine mp_5 (v := (q14.2.2.1 j1) (q14.1 + 5).toNatClampNeg) rfl dX7_all_137 ?_
    refine z_aload_n dX7_all_140 rfl ?_
    refine z_aload_n dX7_all_141 rfl ?_
    refine z_iload_n dX7_all_142 rfl ?_
    refine z_bipush (v := 6) dX7_all_143 rfl ?_
    refine z_iadd dX7_all_145 ?_
    obtain ⟨q43, hp⟩ := hp
    skip
    have q42 := hp
    refine mlv60 (x := (q14.2.2.1 j1) (q14.1 + 6).toNatClampNeg) wr_P q43 q42 rfl dX7_all_146 ?_
    refine mp_6 (v := (q14.2.2.1 j1) (q14.1 + 6).toNatClampNeg) rfl dX7_all_147 ?_
    refine z_goto (tgt := 215) dX7_all_150 (by decide) ?_
    exact z_lv rfl (J52 _ (if_neg c15).symm)
theorem dX7_road_0 : decode cX7_road 0 = .ok (.aload_n 0, 1) := by decide +kernel
theorem dX7_road_1 : decode cX7_road 1 = .ok (.iload_n 1, 1) := by decide +kernel
theorem dX7_road_2 : decode cX7_road 2 = .ok (.invokevirtual 180, 3) := by decide +kernel
theorem dX7_road_5 : decode cX7_road 5 = .ok (.istore_n 2, 1) := by decide +kernel
theorem dX7_road_6 : decode cX7_road 6 = .ok (.iload_n 2, 1) := by decide +kernel
theorem dX7_road_7 : decode cX7_road 7 = .ok (.ifCond .eq 9, 3) := by decide +kernel
theorem dX7_road_10 : decode cX7_road 10 = .ok (.aload_n 0, 1) := by decide +kernel
theorem dX7_road_11 : decode cX7_road 11 = .ok (.iload_n 2, 1) := by decide +kernel
theorem dX7_road_12 : decode cX7_road 12 = .ok (.invokevirtual 106, 3) := by decide +kernel
theorem dX7_road_15 : decode cX7_road 15 = .ok (.ireturn, 1) := by decide +kernel
theorem dX7_road_16 : decode cX7_road 16 = .ok (.aload_n 0, 1) := by decide +kernel
theorem dX7_road_17 : decode cX7_road 17 = .ok (.aload_n 0, 1) := by decide +kernel
theorem dX7_road_18 : decode cX7_road 18 = .ok (.getfield 81, 3) := by decide +kernel
theorem dX7_road_21 : decode cX7_road 21 = .ok (.iconst 0, 1) := by decide +kernel
theorem dX7_road_22 : decode cX7_road 22 = .ok (.invokevirtual 183, 3) := by decide +kernel
theorem dX7_road_25 : decode cX7_road 25 = .ok (.aload_n 0, 1) := by decide +kernel
theorem dX7_road_26 : decode cX7_road 26 = .ok (.sipush 160, 3) := by decide +kernel
theorem dX7_road_29 : decode cX7_road 29 = .ok (.iload_n 1, 1) := by decide +kernel
theorem dX7_road_30 : decode cX7_road 30 = .ok (.imul, 1) := by decide +kernel
theorem dX7_road_31 : decode cX7_road 31 = .ok (.putfield 147, 3) := by decide +kernel
theorem dX7_road_34 : decode cX7_road 34 = .ok (.aload_n 0, 1) := by decide +kernel
theorem dX7_road_35 : decode cX7_road 35 = .ok (.iconst 0, 1) := by decide +kernel
theorem dX7_road_36 : decode cX7_road 36 = .ok (.putfield 141, 3) := by decide +kernel
theorem dX7_road_39 : decode cX7_road 39 = .ok (.aload_n 0, 1) := by decide +kernel
theorem dX7_road_40 : decode cX7_road 40 = .ok (.aload_n 0, 1) := by decide +kernel
theorem dX7_road_41 : decode cX7_road 41 = .ok (.getfield 56, 3) := by decide +kernel
theorem dX7_road_44 : decode cX7_road 44 = .ok (.iload_n 1, 1) := by decide +kernel
theorem dX7_road_45 : decode cX7_road 45 = .ok (.iaload, 1) := by decide +kernel
theorem dX7_road_46 : decode cX7_road 46 = .ok (.putfield 144, 3) := by decide +kernel
theorem dX7_road_49 : decode cX7_road 49 = .ok (.aload_n 0, 1) := by decide +kernel
theorem dX7_road_50 : decode cX7_road 50 = .ok (.iconst (-1), 1) := by decide +kernel
theorem dX7_road_51 : decode cX7_road 51 = .ok (.putfield 22, 3) := by decide +kernel
theorem dX7_road_54 : decode cX7_road 54 = .ok (.iconst 1, 1) := by decide +kernel
theorem dX7_road_55 : decode cX7_road 55 = .ok (.istore_n 3, 1) := by decide +kernel
theorem dX7_road_56 : decode cX7_road 56 = .ok (.aload_n 0, 1) := by decide +kernel
theorem dX7_road_57 : decode cX7_road 57 = .ok (.invokevirtual 187, 3) := by decide +kernel
theorem dX7_road_60 : decode cX7_road 60 = .ok (.istore 4, 2) := by decide +kernel
theorem dX7_road_62 : decode cX7_road 62 = .ok (.iload 4, 2) := by decide +kernel
theorem dX7_road_64 : decode cX7_road 64 = .ok (.ifCond .eq 69, 3) := by decide +kernel
theorem dX7_road_67 : decode cX7_road 67 = .ok (.aload_n 0, 1) := by decide +kernel
theorem dX7_road_68 : decode cX7_road 68 = .ok (.getfield 141, 3) := by decide +kernel
theorem dX7_road_71 : decode cX7_road 71 = .ok (.aload_n 0, 1) := by decide +kernel
theorem dX7_road_72 : decode cX7_road 72 = .ok (.getfield 144, 3) := by decide +kernel
theorem dX7_road_75 : decode cX7_road 75 = .ok (.if_icmp .ge 58, 3) := by decide +kernel
theorem dX7_road_78 : decode cX7_road 78 = .ok (.aload_n 0, 1) := by decide +kernel
theorem dX7_road_79 : decode cX7_road 79 = .ok (.getfield 62, 3) := by decide +kernel
theorem dX7_road_82 : decode cX7_road 82 = .ok (.aload_n 0, 1) := by decide +kernel
theorem dX7_road_83 : decode cX7_road 83 = .ok (.getfield 147, 3) := by decide +kernel
theorem dX7_road_86 : decode cX7_road 86 = .ok (.aload_n 0, 1) := by decide +kernel
theorem dX7_road_87 : decode cX7_road 87 = .ok (.getfield 141, 3) := by decide +kernel
theorem dX7_road_90 : decode cX7_road 90 = .ok (.iadd, 1) := by decide +kernel
theorem dX7_road_91 : decode cX7_road 91 = .ok (.laload, 1) := by decide +kernel
theorem dX7_road_92 : decode cX7_road 92 = .ok (.l2i, 1) := by decide +kernel
theorem dX7_road_93 : decode cX7_road 93 = .ok (.bipush 59, 2) := by decide +kernel
theorem dX7_road_95 : decode cX7_road 95 = .ok (.if_icmp .eq 16, 3) := by decide +kernel
theorem dX7_road_98 : decode cX7_road 98 = .ok (.aload_n 0, 1) := by decide +kernel
theorem dX7_road_99 : decode cX7_road 99 = .ok (.aload_n 0, 1) := by decide +kernel
theorem dX7_road_100 : decode cX7_road 100 = .ok (.getfield 141, 3) := by decide +kernel
theorem dX7_road_103 : decode cX7_road 103 = .ok (.invokevirtual 157, 3) := by decide +kernel
theorem dX7_road_106 : decode cX7_road 106 = .ok (.istore 4, 2) := by decide +kernel
theorem dX7_road_108 : decode cX7_road 108 = .ok (.goto (-46), 3) := by decide +kernel
theorem dX7_road_111 : decode cX7_road 111 = .ok (.aload_n 0, 1) := by decide +kernel
theorem dX7_road_112 : decode cX7_road 112 = .ok (.dup, 1) := by decide +kernel
theorem dX7_road_113 : decode cX7_road 113 = .ok (.getfield 141, 3) := by decide +kernel
theorem dX7_road_116 : decode cX7_road 116 = .ok (.iconst 1, 1) := by decide +kernel
theorem dX7_road_117 : decode cX7_road 117 = .ok (.iadd, 1) := by decide +kernel
theorem dX7_road_118 : decode cX7_road 118 = .ok (.putfield 141, 3) := by decide +kernel
theorem dX7_road_121 : decode cX7_road 121 = .ok (.iinc 3 1, 3) := by decide +kernel
theorem dX7_road_124 : decode cX7_road 124 = .ok (.aload_n 0, 1) := by decide +kernel
theorem dX7_road_125 : decode cX7_road 125 = .ok (.invokevirtual 187, 3) := by decide +kernel
theorem dX7_road_128 : decode cX7_road 128 = .ok (.istore 4, 2) := by decide +kernel
theorem dX7_road_130 : decode cX7_road 130 = .ok (.goto (-68), 3) := by decide +kernel
theorem dX7_road_133 : decode cX7_road 133 = .ok (.iload 4, 2) := by decide +kernel
theorem dX7_road_135 : decode cX7_road 135 = .ok (.ifCond .eq 5, 3) := by decide +kernel
theorem dX7_road_138 : decode cX7_road 138 = .ok (.iload_n 3, 1) := by decide +kernel
theorem dX7_road_139 : decode cX7_road 139 = .ok (.ireturn, 1) := by decide +kernel
theorem dX7_road_140 : decode cX7_road 140 = .ok (.aload_n 0, 1) := by decide +kernel
theorem dX7_road_141 : decode cX7_road 141 = .ok (.aload_n 0, 1) := by decide +kernel
theorem dX7_road_142 : decode cX7_road 142 = .ok (.getfield 81, 3) := by decide +kernel
theorem dX7_road_145 : decode cX7_road 145 = .ok (.iconst 1, 1) := by decide +kernel
theorem dX7_road_146 : decode cX7_road 146 = .ok (.invokevirtual 183, 3) := by decide +kernel
theorem dX7_road_149 : decode cX7_road 149 = .ok (.aload_n 0, 1) := by decide +kernel
theorem dX7_road_150 : decode cX7_road 150 = .ok (.aload_n 0, 1) := by decide +kernel
theorem dX7_road_151 : decode cX7_road 151 = .ok (.getfield 138, 3) := by decide +kernel
theorem dX7_road_154 : decode cX7_road 154 = .ok (.putfield 22, 3) := by decide +kernel
theorem dX7_road_157 : decode cX7_road 157 = .ok (.aload_n 0, 1) := by decide +kernel
theorem dX7_road_158 : decode cX7_road 158 = .ok (.bipush (-6), 2) := by decide +kernel
theorem dX7_road_160 : decode cX7_road 160 = .ok (.invokevirtual 106, 3) := by decide +kernel
theorem dX7_road_163 : decode cX7_road 163 = .ok (.ireturn, 1) := by decide +kernel
abbrev k_X7_road : zK := (cX7_road, 5, RX7, (some .int), ({ frames := 4, cells := 0, slots := 0, locals := 90 } : Room))
theorem zc_X7_road : zcal yX7_road k_X7_road.1 k_X7_road.2.1 k_X7_road.2.2.2.1 1 := ⟨tw_code_yX7_road, tw_i_TollForHesitatorsModel, ⟨by decide +kernel, by decide +kernel⟩, by decide +kernel⟩
theorem zv_X7_road : Cond.instanceMethod yX7_road ∈ TS ∧ Cond.selects RX7 yX7_road yX7_road ∈ TS := ⟨tw_inst_yX7_road, tw_s_yX7_road⟩
def v_X7_road_r : Nat → mT → Int32 → Int32 → Int32 × mT
  | 0, M, _, _ => (0, M)
  | n + 1, M, v3, v4 => if v4 = 0 then if v4 = 0 then kk (v_X7_all M 31 1) (fun q22 : mT => kk (v_X7_no (msf q22 7 (q22.1 30)) (-6)) (fun q24 : Int32 × mT => (q24.1, q24.2))) else (v3, M) else if (M.1 28) ≤ (M.1 27) then if v4 = 0 then kk (v_X7_all M 31 1) (fun q36 : mT => kk (v_X7_no (msf q36 7 (q36.1 30)) (-6)) (fun q38 : Int32 × mT => (q38.1, q38.2))) else (v3, M) else kk (if (((M.2.2 20) ((M.1 26) + (M.1 27)).toNatClampNeg).toInt32) = 59 then (v_X7_item (msf M 27 ((M.1 27) + 1))).2 else (v_X7_wrong M (M.1 27)).2) (fun M44 : mT => kk (if (((M.2.2 20) ((M.1 26) + (M.1 27)).toNatClampNeg).toInt32) = 59 then (v_X7_item (msf M 27 ((M.1 27) + 1))).1 else (v_X7_wrong M (M.1 27)).1) (fun m45 : Int32 => kk (if (((M.2.2 20) ((M.1 26) + (M.1 27)).toNatClampNeg).toInt32) = 59 then v3 + 1 else v3) (fun m46 : Int32 => v_X7_road_r n M44 m46 m45)))
def p_X7_road_r : Nat → mT → Int32 → Int32 → Prop
  | 0, _, _, _ => False
  | n + 1, M, v3, v4 => if v4 = 0 then if v4 = 0 then p_X7_all M 31 1 ∧ (kk (v_X7_all M 31 1) (fun q22 : mT => p_X7_no (msf q22 7 (q22.1 30)) (-6))) else True else if (M.1 28) ≤ (M.1 27) then if v4 = 0 then p_X7_all M 31 1 ∧ (kk (v_X7_all M 31 1) (fun q36 : mT => p_X7_no (msf q36 7 (q36.1 30)) (-6))) else True else (vp_in ((M.1 26) + (M.1 27)) 1280) ∧ ((if (((M.2.2 20) ((M.1 26) + (M.1 27)).toNatClampNeg).toInt32) = 59 then p_X7_item (msf M 27 ((M.1 27) + 1)) else True) ∧ (kk (if (((M.2.2 20) ((M.1 26) + (M.1 27)).toNatClampNeg).toInt32) = 59 then (v_X7_item (msf M 27 ((M.1 27) + 1))).2 else (v_X7_wrong M (M.1 27)).2) (fun M44 : mT => kk (if (((M.2.2 20) ((M.1 26) + (M.1 27)).toNatClampNeg).toInt32) = 59 then (v_X7_item (msf M 27 ((M.1 27) + 1))).1 else (v_X7_wrong M (M.1 27)).1) (fun m45 : Int32 => kk (if (((M.2.2 20) ((M.1 26) + (M.1 27)).toNatClampNeg).toInt32) = 59 then v3 + 1 else v3) (fun m46 : Int32 => p_X7_road_r n M44 m46 m45)))))
set_option maxHeartbeats 4000000 in
theorem w_X7_road {G : zG} {Γ : zT} {a : Nat → Nat} {A : Nat → Prop} {res : Int32 × mT} {X : zX} (hw : wk X A Γ.2.2.1.1.heap) (hQ : zQ Γ (Qwi G (fun r w => r = res.1 ∧ w = mW G a res.2) A) 0 0 A) : ∀ n : Nat, (∀ (M : mT) (v3 : Int32) (v4 : Int32), p_X7_road_r n M v3 v4 → v_X7_road_r n M v3 v4 = res → Z k_X7_road G Γ (wr G A Γ.2.2.1.1.heap (mW G a M)) 0 0 [(0, .ref (a 0)), (3, .int v3), (4, .int v4)] 62 []) := by
  intro n
  induction n with
  | zero => exact fun M v3 v4 hp => absurd hp (by rw [p_X7_road_r]; exact not_false)
  | succ n ih =>
    intro M v3 v4 hp hv
    rw [p_X7_road_r] at hp
    rw [v_X7_road_r] at hv
    refine z_iload dX7_road_62 rfl ?_
    refine z_if_eq (tgt := 133) dX7_road_64 (by decide) (fun c10 => ?_) (fun c10 => ?_)
    · have hp := ip_t hp c10; have hv := it_t hv c10
      refine z_iload dX7_road_133 rfl ?_
      refine z_if_eq (tgt := 140) dX7_road_135 (by decide) (fun c20 => ?_) (fun c20 => ?_)
      · have hp := ip_t hp c20; have hv := it_t hv c20
        refine z_aload_n dX7_road_140 rfl ?_
        refine z_aload_n dX7_road_141 rfl ?_
        refine mg_31 wr_P rfl dX7_road_142 ?_
        refine z_iconst (v := 1) dX7_road_145 rfl ?_
        obtain ⟨q21, hp⟩ := hp
        refine z_cavvD hw (fun sz => c_X7_all G a hw.1 sz M 31 1 q21) zc_X7_all zv_X7_all tw_m_RX7_183 (mrec wr_P) (zroom_of rfl) rfl (Nat.le_of_ble_eq_true rfl) dX7_road_146 ?_
        suffices z47 : ∀ q22 : mT, q22 = (v_X7_all M 31 1) → Z k_X7_road G Γ (wr G A Γ.2.2.1.1.heap (mW G a q22)) 0 0 [(0, .ref (a 0)), (3, .int v3), (4, .int v4)] 149 [] from z47 _ rfl
        intro q22 hq22
        have hp := kk_pq hp hq22
        have hv := kk_vq hv hq22
        clear hq22
        refine z_aload_n dX7_road_149 rfl ?_
        refine z_aload_n dX7_road_150 rfl ?_
        refine mg_30 (v := q22.1 30) wr_P rfl rfl dX7_road_151 ?_
        refine mp_7 (v := q22.1 30) rfl dX7_road_154 ?_
        refine z_aload_n dX7_road_157 rfl ?_
        refine z_bipush (v := (-6)) dX7_road_158 rfl ?_
        have q23 := hp
        refine z_caviD hw (fun sz => c_X7_no G a hw.1 sz (msf q22 7 (q22.1 30)) (-6) q23) zc_X7_no zv_X7_no tw_m_RX7_106 (mrec wr_P) (zroom_of rfl) rfl (Nat.le_of_ble_eq_true rfl) dX7_road_160 ?_
        suffices z48 : ∀ q24 : Int32 × mT, q24 = (v_X7_no (msf q22 7 (q22.1 30)) (-6)) → Z k_X7_road G Γ (wr G A Γ.2.2.1.1.heap (mW G a q24.2)) 0 0 [(0, .ref (a 0)), (3, .int v3), (4, .int v4)] 163 [.int q24.1] from z48 _ rfl
        intro q24 hq24
        have hv := kk_vq hv hq24
        clear hq24
        subst hv; exact z_iret_W hQ rfl rfl rfl ⟨rfl, rfl⟩ dX7_road_163
      · have hp := ip_f hp c20; have hv := it_f hv c20
        refine z_iload_n dX7_road_138 rfl ?_
        subst hv; exact z_iret_W hQ rfl rfl rfl ⟨rfl, rfl⟩ dX7_road_139
    · have hp := ip_f hp c10; have hv := it_f hv c10
      refine z_aload_n dX7_road_67 rfl ?_
      refine mg_27 (v := M.1 27) wr_P rfl rfl dX7_road_68 ?_
      refine z_aload_n dX7_road_71 rfl ?_
      refine mg_28 (v := M.1 28) wr_P rfl rfl dX7_road_72 ?_
      refine z_icmp_ge (tgt := 133) dX7_road_75 (by decide) (fun c25 => ?_) (fun c25 => ?_)
      · have hp := ip_t hp c25; have hv := it_t hv c25
        refine z_iload dX7_road_133 rfl ?_
        refine z_if_eq (tgt := 140) dX7_road_135 (by decide) (fun c34 => ?_) (fun c34 => ?_)
        · have hp := ip_t hp c34; have hv := it_t hv c34
          refine z_aload_n dX7_road_140 rfl ?_
          refine z_aload_n dX7_road_141 rfl ?_
          refine mg_31 wr_P rfl dX7_road_142 ?_
          refine z_iconst (v := 1) dX7_road_145 rfl ?_
          obtain ⟨q35, hp⟩ := hp
          refine z_cavvD hw (fun sz => c_X7_all G a hw.1 sz M 31 1 q35) zc_X7_all zv_X7_all tw_m_RX7_183 (mrec wr_P) (zroom_of rfl) rfl (Nat.le_of_ble_eq_true rfl) dX7_road_146 ?_
          suffices z49 : ∀ q36 : mT, q36 = (v_X7_all M 31 1) → Z k_X7_road G Γ (wr G A Γ.2.2.1.1.heap (mW G a q36)) 0 0 [(0, .ref (a 0)), (3, .int v3), (4, .int v4)] 149 [] from z49 _ rfl
          intro q36 hq36
          have hp := kk_pq hp hq36
          have hv := kk_vq hv hq36
          clear hq36
          refine z_aload_n dX7_road_149 rfl ?_
          refine z_aload_n dX7_road_150 rfl ?_
          refine mg_30 (v := q36.1 30) wr_P rfl rfl dX7_road_151 ?_
          refine mp_7 (v := q36.1 30) rfl dX7_road_154 ?_
          refine z_aload_n dX7_road_157 rfl ?_
          refine z_bipush (v := (-6)) dX7_road_158 rfl ?_
          have q37 := hp
          refine z_caviD hw (fun sz => c_X7_no G a hw.1 sz (msf q36 7 (q36.1 30)) (-6) q37) zc_X7_no zv_X7_no tw_m_RX7_106 (mrec wr_P) (zroom_of rfl) rfl (Nat.le_of_ble_eq_true rfl) dX7_road_160 ?_
          suffices z50 : ∀ q38 : Int32 × mT, q38 = (v_X7_no (msf q36 7 (q36.1 30)) (-6)) → Z k_X7_road G Γ (wr G A Γ.2.2.1.1.heap (mW G a q38.2)) 0 0 [(0, .ref (a 0)), (3, .int v3), (4, .int v4)] 163 [.int q38.1] from z50 _ rfl
          intro q38 hq38
          have hv := kk_vq hv hq38
          clear hq38
          subst hv; exact z_iret_W hQ rfl rfl rfl ⟨rfl, rfl⟩ dX7_road_163
        · have hp := ip_f hp c34; have hv := it_f hv c34
          refine z_iload_n dX7_road_138 rfl ?_
          subst hv; exact z_iret_W hQ rfl rfl rfl ⟨rfl, rfl⟩ dX7_road_139
      · have hp := ip_f hp c25; have hv := it_f hv c25
        refine z_aload_n dX7_road_78 rfl ?_
        refine mg_20 wr_P rfl dX7_road_79 ?_
        refine z_aload_n dX7_road_82 rfl ?_
        refine mg_26 (v := M.1 26) wr_P rfl rfl dX7_road_83 ?_
        refine z_aload_n dX7_road_86 rfl ?_
        refine mg_27 (v := M.1 27) wr_P rfl rfl dX7_road_87 ?_
        refine z_iadd dX7_road_90 ?_
        obtain ⟨q39, hp⟩ := hp
        refine ml_20 (x := (M.2.2 20) ((M.1 26) + (M.1 27)).toNatClampNeg) wr_P q39 rfl dX7_road_91 ?_
        refine z_l2i dX7_road_92 ?_
        refine z_bipush (v := 59) dX7_road_93 rfl ?_
        obtain ⟨hpm, hp⟩ := hp
        have J51 : ∀ M44 : mT, M44 = (if (((M.2.2 20) ((M.1 26) + (M.1 27)).toNatClampNeg).toInt32) = 59 then (v_X7_item (msf M 27 ((M.1 27) + 1))).2 else (v_X7_wrong M (M.1 27)).2) → ∀ m45 : Int32, m45 = (if (((M.2.2 20) ((M.1 26) + (M.1 27)).toNatClampNeg).toInt32) = 59 then (v_X7_item (msf M 27 ((M.1 27) + 1))).1 else (v_X7_wrong M (M.1 27)).1) → ∀ m46 : Int32, m46 = (if (((M.2.2 20) ((M.1 26) + (M.1 27)).toNatClampNeg).toInt32) = 59 then v3 + 1 else v3) → Z k_X7_road G Γ (wr G A Γ.2.2.1.1.heap (mW G a M44)) 0 0 [(4, .int m45), (3, .int m46), (0, .ref (a 0))] 62 [] := by
          intro M44 eM44 m45 em45 m46 em46
          have hp := kk_pq hp eM44
          have hv := kk_vq hv eM44
          clear eM44
          have hp := kk_pq hp em45
          have hv := kk_vq hv em45
          clear em45
          have hp := kk_pq hp em46
          have hv := kk_vq hv em46
          clear em46
          exact z_lv rfl ((ih) M44 m46 m45 hp hv)
        refine z_icmp_eq (tgt := 111) dX7_road_95 (by decide) (fun c40 => ?_) (fun c40 => ?_)
        · have hp := ip_t hpm c40
          refine z_aload_n dX7_road_111 rfl ?_
          refine z_dup dX7_road_112 rfl ?_
          refine mg_27 (v := M.1 27) wr_P rfl rfl dX7_road_113 ?_
          refine z_iconst (v := 1) dX7_road_116 rfl ?_
          refine z_iadd dX7_road_117 ?_
          refine mp_27 (v := (M.1 27) + 1) rfl dX7_road_118 ?_
          refine z_iinc (v := v3 + 1) (lv' := [(3, .int (v3 + 1)), (0, .ref (a 0)), (4, .int v4)]) dX7_road_121 1 rfl rfl (Nat.le_of_ble_eq_true rfl) rfl ?_
          refine z_aload_n dX7_road_124 rfl ?_
          have q41 := hp
          refine z_caviD hw (fun sz => c_X7_item G a hw.1 sz (msf M 27 ((M.1 27) + 1)) q41) zc_X7_item zv_X7_item tw_m_RX7_187 (mrec wr_P) (zroom_of rfl) rfl (Nat.le_of_ble_eq_true rfl) dX7_road_125 ?_
          refine z_istore (lv' := [(4, .int ((v_X7_item (msf M 27 ((M.1 27) + 1))).1)), (3, .int (v3 + 1)), (0, .ref (a 0))]) dX7_road_128 (Nat.le_of_ble_eq_true rfl) rfl ?_
          refine z_goto (tgt := 62) dX7_road_130 (by decide) ?_
          exact z_lv rfl (J51 _ (if_pos c40).symm _ (if_pos c40).symm _ (if_pos c40).symm)
        · have hp := ip_f hpm c40
          refine z_aload_n dX7_road_98 rfl ?_
          refine z_aload_n dX7_road_99 rfl ?_
          refine mg_27 (v := M.1 27) wr_P rfl rfl dX7_road_100 ?_
          refine z_caviD hw (fun sz => c_X7_wrong G a hw.1 sz M (M.1 27) ) zc_X7_wrong zv_X7_wrong tw_m_RX7_157 (mrec wr_P) (zroom_of rfl) rfl (Nat.le_of_ble_eq_true rfl) dX7_road_103 ?_
          refine z_istore (lv' := [(4, .int ((v_X7_wrong M (M.1 27)).1)), (0, .ref (a 0)), (3, .int v3)]) dX7_road_106 (Nat.le_of_ble_eq_true rfl) rfl ?_
          refine z_goto (tgt := 62) dX7_road_108 (by decide) ?_
          exact z_lv rfl (J51 _ (if_neg c40).symm _ (if_neg c40).symm _ (if_neg c40).symm)
def v_X7_road (M : mT) (x1 : Int32) : Int32 × mT := if (v_X7_wanted M x1) = 0 then kk (v_X7_all M 31 0) (fun q4 : mT => kk (v_X7_item (msf (msf (msf (msf q4 26 (160 * x1)) 27 0) 28 ((q4.2.1 18) x1.toNatClampNeg)) 7 (-1))) (fun q7 : Int32 × mT => v_X7_road_r 200 q7.2 1 q7.1)) else kk (v_X7_no M (v_X7_wanted M x1)) (fun q9 : Int32 × mT => (q9.1, q9.2))
def p_X7_road (M : mT) (x1 : Int32) : Prop := p_X7_wanted M x1 ∧ (if (v_X7_wanted M x1) = 0 then p_X7_all M 31 0 ∧ (kk (v_X7_all M 31 0) (fun q4 : mT => vp_in x1 8 ∧ ((p_X7_item (msf (msf (msf (msf q4 26 (160 * x1)) 27 0) 28 ((q4.2.1 18) x1.toNatClampNeg)) 7 (-1))) ∧ (kk (v_X7_item (msf (msf (msf (msf q4 26 (160 * x1)) 27 0) 28 ((q4.2.1 18) x1.toNatClampNeg)) 7 (-1))) (fun q7 : Int32 × mT => p_X7_road_r 200 q7.2 1 q7.1))))) else p_X7_no M (v_X7_wanted M x1))
set_option maxHeartbeats 4000000 in
theorem c_X7_road {l : Launch} (G : zG) (a : Nat → Nat) {X : zX} (hX : XOK X) (sz : Nat) (M : mT) (x1 : Int32) (hp : p_X7_road M x1) : Met l yX7_road (.code yX7_road k_X7_road.1 k_X7_road.2.1 k_X7_road.2.2.2.1 :: TS) k_X7_road.2.2.2.2 (Pz G [.ref (a 0), .int x1] (Fw G X (mW G a M) sz)) (Qwi G (fun r w => r = (v_X7_road M x1).1 ∧ w = mW G a (v_X7_road M x1).2) (va_A (mW G a M) sz)) 0 0 (va_A (mW G a M) sz) := by
  refine zmet (by decide +kernel) rfl rfl (fun Γ hl0 hQ hN hF => ?_)
  refine z_start hX hF (fun hw => ?_)
  generalize va_A (mW G a M) sz = A at hQ hw ⊢
  obtain ⟨res, hv⟩ : ∃ res, v_X7_road M x1 = res := ⟨_, rfl⟩
  rw [hv] at hQ
  unfold v_X7_road at hv
  unfold p_X7_road at hp
  show Z k_X7_road G Γ _ 0 0 [(0, .ref (a 0)), (1, .int x1)] 0 []
  refine z_aload_n dX7_road_0 rfl ?_
  refine z_iload_n dX7_road_1 rfl ?_
  obtain ⟨q1, hp⟩ := hp
  refine z_cvi (c_X7_wanted G a M x1 q1) zc_X7_wanted zv_X7_wanted tw_m_RX7_180 (mrec wr_P) wr_P (zroom_of rfl) rfl (Nat.le_of_ble_eq_true rfl) dX7_road_2 ?_
  refine z_istore_n (lv' := [(2, .int (v_X7_wanted M x1)), (0, .ref (a 0)), (1, .int x1)]) dX7_road_5 (Nat.le_of_ble_eq_true rfl) rfl ?_
  refine z_iload_n dX7_road_6 rfl ?_
  refine z_if_eq (tgt := 16) dX7_road_7 (by decide) (fun c2 => ?_) (fun c2 => ?_)
  · have hp := ip_t hp c2; have hv := it_t hv c2
    refine z_aload_n dX7_road_16 rfl ?_
    refine z_aload_n dX7_road_17 rfl ?_
    refine mg_31 wr_P rfl dX7_road_18 ?_
    refine z_iconst (v := 0) dX7_road_21 rfl ?_
    obtain ⟨q3, hp⟩ := hp
    refine z_cavvD hw (fun sz => c_X7_all G a hw.1 sz M 31 0 q3) zc_X7_all zv_X7_all tw_m_RX7_183 (mrec wr_P) (zroom_of rfl) rfl (Nat.le_of_ble_eq_true rfl) dX7_road_22 ?_
    suffices z52 : ∀ q4 : mT, q4 = (v_X7_all M 31 0) → Z k_X7_road G Γ (wr G A Γ.2.2.1.1.heap (mW G a q4)) 0 0 [(2, .int (v_X7_wanted M x1)), (0, .ref (a 0)), (1, .int x1)] 25 [] from z52 _ rfl
    intro q4 hq4
    have hp := kk_pq hp hq4
    have hv := kk_vq hv hq4
    clear hq4
    refine z_aload_n dX7_road_25 rfl ?_
    refine z_sipush (v := 160) dX7_road_26 rfl ?_
    refine z_iload_n dX7_road_29 rfl ?_
    refine z_imul dX7_road_30 ?_
    refine mp_26 (v := 160 * x1) rfl dX7_road_31 ?_
    refine z_aload_n dX7_road_34 rfl ?_
    refine z_iconst (v := 0) dX7_road_35 rfl ?_
    refine mp_27 (v := 0) rfl dX7_road_36 ?_
    refine z_aload_n dX7_road_39 rfl ?_
    refine z_aload_n dX7_road_40 rfl ?_
    refine mg_18 wr_P rfl dX7_road_41 ?_
    refine z_iload_n dX7_road_44 rfl ?_
    obtain ⟨q5, hp⟩ := hp
    refine ml_18 (x := (q4.2.1 18) x1.toNatClampNeg) wr_P q5 rfl dX7_road_45 ?_
    refine mp_28 (v := (q4.2.1 18) x1.toNatClampNeg) rfl dX7_road_46 ?_
    refine z_aload_n dX7_road_49 rfl ?_
    refine z_iconst (v := (-1)) dX7_road_50 rfl ?_
    refine mp_7 (v := (-1)) rfl dX7_road_51 ?_
    refine z_iconst (v := 1) dX7_road_54 rfl ?_
    refine z_istore_n (lv' := [(3, .int 1), (2, .int (v_X7_wanted M x1)), (0, .ref (a 0)), (1, .int x1)]) dX7_road_55 (Nat.le_of_ble_eq_true rfl) rfl ?_
    refine z_aload_n dX7_road_56 rfl ?_
    obtain ⟨q6, hp⟩ := hp
    refine z_caviD hw (fun sz => c_X7_item G a hw.1 sz (msf (msf (msf (msf q4 26 (160 * x1)) 27 0) 28 ((q4.2.1 18) x1.toNatClampNeg)) 7 (-1)) q6) zc_X7_item zv_X7_item tw_m_RX7_187 (mrec wr_P) (zroom_of rfl) rfl (Nat.le_of_ble_eq_true rfl) dX7_road_57 ?_
    suffices z53 : ∀ q7 : Int32 × mT, q7 = (v_X7_item (msf (msf (msf (msf q4 26 (160 * x1)) 27 0) 28 ((q4.2.1 18) x1.toNatClampNeg)) 7 (-1))) → Z k_X7_road G Γ (wr G A Γ.2.2.1.1.heap (mW G a q7.2)) 0 0 [(3, .int 1), (2, .int (v_X7_wanted M x1)), (0, .ref (a 0)), (1, .int x1)] 60 [.int q7.1] from z53 _ rfl
    intro q7 hq7
    have hp := kk_pq hp hq7
    have hv := kk_vq hv hq7
    clear hq7
    refine z_istore (lv' := [(4, .int q7.1), (3, .int 1), (2, .int (v_X7_wanted M x1)), (0, .ref (a 0)), (1, .int x1)]) dX7_road_60 (Nat.le_of_ble_eq_true rfl) rfl ?_
    exact z_lv rfl ((w_X7_road hw hQ 200) q7.2 1 q7.1 hp hv)
  · have hp := ip_f hp c2; have hv := it_f hv c2
    refine z_aload_n dX7_road_10 rfl ?_
    refine z_iload_n dX7_road_11 rfl ?_
    have q8 := hp
    refine z_caviD hw (fun sz => c_X7_no G a hw.1 sz M (v_X7_wanted M x1) q8) zc_X7_no zv_X7_no tw_m_RX7_106 (mrec wr_P) (zroom_of rfl) rfl (Nat.le_of_ble_eq_true rfl) dX7_road_12 ?_
    suffices z54 : ∀ q9 : Int32 × mT, q9 = (v_X7_no M (v_X7_wanted M x1)) → Z k_X7_road G Γ (wr G A Γ.2.2.1.1.heap (mW G a q9.2)) 0 0 [(2, .int (v_X7_wanted M x1)), (0, .ref (a 0)), (1, .int x1)] 15 [.int q9.1] from z54 _ rfl
    intro q9 hq9
    have hv := kk_vq hv hq9
    clear hq9
    subst hv; exact z_iret_W hQ rfl rfl rfl ⟨rfl, rfl⟩ dX7_road_15
theorem dX7_fault_0 : decode cX7_fault 0 = .ok (.aload_n 0, 1) := by decide +kernel
theorem dX7_fault_1 : decode cX7_fault 1 = .ok (.getfield 22, 3) := by decide +kernel
theorem dX7_fault_4 : decode cX7_fault 4 = .ok (.ireturn, 1) := by decide +kernel
abbrev k_X7_fault : zK := (cX7_fault, 1, RX7, (some .int), ({ frames := 0, cells := 0, slots := 0, locals := 0 } : Room))
theorem zc_X7_fault : zcal yX7_fault k_X7_fault.1 k_X7_fault.2.1 k_X7_fault.2.2.2.1 0 := ⟨tw_code_yX7_fault, tw_i_TollForHesitatorsModel, ⟨by decide +kernel, by decide +kernel⟩, by decide +kernel⟩
theorem zv_X7_fault : Cond.instanceMethod yX7_fault ∈ TS ∧ Cond.selects RX7 yX7_fault yX7_fault ∈ TS := ⟨tw_inst_yX7_fault, tw_s_yX7_fault⟩
def v_X7_fault (M : mT) : Int32 := M.1 7
set_option maxHeartbeats 4000000 in
theorem c_X7_fault {l : Launch} (G : zG) (a : Nat → Nat) (M : mT) : Met l yX7_fault (.code yX7_fault k_X7_fault.1 k_X7_fault.2.1 k_X7_fault.2.2.2.1 :: TS) k_X7_fault.2.2.2.2 (Pz G [.ref (a 0)] (va_P G.2.1 CL (mW G a M))) (vp_Si (fun r => r = v_X7_fault M)) 0 0 (fun _ => False) := by
  refine zmet (by decide +kernel) rfl rfl (fun Γ hl0 hQ hN hF => ?_)
  have hI := rd_P (G := G) hF
  obtain ⟨res, hv⟩ : ∃ res, v_X7_fault M = res := ⟨_, rfl⟩
  rw [hv] at hQ
  unfold v_X7_fault at hv
  show Z k_X7_fault G Γ _ 0 0 [(0, .ref (a 0))] 0 []
  refine z_aload_n dX7_fault_0 rfl ?_
  refine mg_7 (v := M.1 7) hI rfl rfl dX7_fault_1 ?_
  exact z_iret_S hQ rfl hv dX7_fault_4
