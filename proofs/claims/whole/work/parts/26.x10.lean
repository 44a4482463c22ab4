theorem tw_m_RX0_3 : Cond.methodLink RX0 3 objectInit ∈ TS := ts_mem 422 (by decide +kernel) rfl
theorem tw_inst_objectInit : Cond.instanceMethod objectInit ∈ TS := ts_mem 89 (by decide +kernel) rfl
theorem tw_objcode : Cond.code objectInit ⟨#[0xb1]⟩ 1 none ∈ TS := ts_mem 90 (by decide +kernel) rfl
theorem tw_f_RX0_9 : Cond.fieldLink RX0 9 RX0 "number" "I" ∈ TS := ts_mem 423 (by decide +kernel) rfl
theorem tw_code_yX0_init : Cond.code yX0_init cX0_init 6 none ∈ TS := ts_mem 421 (by decide +kernel) rfl
theorem tw_k_RX4_9 : Cond.classLink RX4 9 RX0 ∈ TS := ts_mem 97 (by decide +kernel) rfl
theorem tw_n_RX0 : Cond.instantiable RX0 5 ∈ TS := ts_mem 418 (by decide +kernel) rfl
theorem tw_inst_yX0_init : Cond.instanceMethod yX0_init ∈ TS := ts_mem 420 (by decide +kernel) rfl
theorem tw_m_RX4_57 : Cond.methodLink RX4 57 yX0_init ∈ TS := ts_mem 419 (by decide +kernel) rfl
theorem tw_code_yX4_add : Cond.code yX4_add cX4_add 7 none ∈ TS := ts_mem 417 (by decide +kernel) rfl
theorem tw_inst_yX4_add : Cond.instanceMethod yX4_add ∈ TS := ts_mem 415 (by decide +kernel) rfl
theorem tw_s_yX4_add : Cond.selects RX4 yX4_add yX4_add ∈ TS := ts_mem 416 (by decide +kernel) rfl
theorem tw_f_RX3_9 : Cond.fieldLink RX3 9 RX3 "numbers" "[I" ∈ TS := ts_mem 181 (by decide +kernel) rfl
theorem tw_m_RX3_112 : Cond.methodLink RX3 112 yX4_add ∈ TS := ts_mem 565 (by decide +kernel) rfl
theorem tw_f_RX3_102 : Cond.fieldLink RX3 102 RX3 "LEAST_OF_COMER" "[I" ∈ TS := ts_mem 553 (by decide +kernel) rfl
theorem tw_f_RX3_105 : Cond.fieldLink RX3 105 RX3 "MOST_OF_COMER" "[I" ∈ TS := ts_mem 555 (by decide +kernel) rfl
theorem tw_code_yX3_comerItem : Cond.code yX3_comerItem cX3_comerItem 3 (some .boolean) ∈ TS := ts_mem 552 (by decide +kernel) rfl
theorem tw_inst_yX3_comerItem : Cond.instanceMethod yX3_comerItem ∈ TS := ts_mem 551 (by decide +kernel) rfl
theorem tw_s_yX3_comerItem : Cond.selects RX3 yX3_comerItem yX3_comerItem ∈ TS := ts_mem 7 (by decide +kernel) rfl
theorem tw_st_yX3_wordFrom : Cond.static yX3_wordFrom ∈ TS := ts_mem 479 (by decide +kernel) rfl
theorem tw_m_RX3_56 : Cond.methodLink RX3 56 yX3_wordFrom ∈ TS := ts_mem 478 (by decide +kernel) rfl
theorem tw_m_RX3_60 : Cond.methodLink RX3 60 yJ0_isEmpty_aae02 ∈ TS := ts_mem 488 (by decide +kernel) rfl
theorem tw_m_RX3_66 : Cond.methodLink RX3 66 yJ0_length_8abf5 ∈ TS := ts_mem 496 (by decide +kernel) rfl
theorem tw_m_RX3_73 : Cond.methodLink RX3 73 yX4_isFull ∈ TS := ts_mem 548 (by decide +kernel) rfl
theorem tw_m_RX3_78 : Cond.methodLink RX3 78 yX3_comerItem ∈ TS := ts_mem 549 (by decide +kernel) rfl
theorem tw_m_RX3_81 : Cond.methodLink RX3 81 yX3_doubtItem ∈ TS := ts_mem 566 (by decide +kernel) rfl
theorem tw_m_RX3_84 : Cond.methodLink RX3 84 yX3_settingItem ∈ TS := ts_mem 571 (by decide +kernel) rfl
theorem tw_m_RX3_69 : Cond.methodLink RX3 69 yJ0_charAt_5068e ∈ TS := ts_mem 506 (by decide +kernel) rfl
theorem tw_code_yX3_item : Cond.code yX3_item cX3_item 6 (some .boolean) ∈ TS := ts_mem 473 (by decide +kernel) rfl
theorem tw_inst_yX3_item : Cond.instanceMethod yX3_item ∈ TS := ts_mem 472 (by decide +kernel) rfl
theorem tw_s_yX3_item : Cond.selects RX3 yX3_item yX3_item ∈ TS := ts_mem 3 (by decide +kernel) rfl
theorem tw_f_RX3_35 : Cond.fieldLink RX3 35 RX5 "elements" "[J" ∈ TS := ts_mem 160 (by decide +kernel) rfl
theorem tw_f_RX3_40 : Cond.fieldLink RX3 40 RX5 "length" "I" ∈ TS := ts_mem 165 (by decide +kernel) rfl
theorem tw_f_RX3_19 : Cond.fieldLink RX3 19 RX3 "items" "I" ∈ TS := ts_mem 184 (by decide +kernel) rfl
theorem tw_m_RX3_41 : Cond.methodLink RX3 41 yX3_item ∈ TS := ts_mem 470 (by decide +kernel) rfl
theorem tw_code_yX3_readAll : Cond.code yX3_readAll cX3_readAll 4 (some .boolean) ∈ TS := ts_mem 469 (by decide +kernel) rfl
theorem tw_inst_yX3_readAll : Cond.instanceMethod yX3_readAll ∈ TS := ts_mem 467 (by decide +kernel) rfl
theorem tw_s_yX3_readAll : Cond.selects RX3 yX3_readAll yX3_readAll ∈ TS := ts_mem 468 (by decide +kernel) rfl
theorem dX0_init_0 : decode cX0_init 0 = .ok (.aload_n 0, 1) := by decide +kernel
theorem dX0_init_1 : decode cX0_init 1 = .ok (.invokespecial 3, 3) := by decide +kernel
theorem dX0_init_4 : decode cX0_init 4 = .ok (.aload_n 0, 1) := by decide +kernel
theorem dX0_init_5 : decode cX0_init 5 = .ok (.iload_n 1, 1) := by decide +kernel
theorem dX0_init_6 : decode cX0_init 6 = .ok (.putfield 9, 3) := by decide +kernel
theorem dX0_init_9 : decode cX0_init 9 = .ok (.aload_n 0, 1) := by decide +kernel
theorem dX0_init_10 : decode cX0_init 10 = .ok (.iload_n 2, 1) := by decide +kernel
theorem dX0_init_11 : decode cX0_init 11 = .ok (.putfield 15, 3) := by decide +kernel
theorem dX0_init_14 : decode cX0_init 14 = .ok (.aload_n 0, 1) := by decide +kernel
theorem dX0_init_15 : decode cX0_init 15 = .ok (.iload_n 3, 1) := by decide +kernel
theorem dX0_init_16 : decode cX0_init 16 = .ok (.putfield 18, 3) := by decide +kernel
theorem dX0_init_19 : decode cX0_init 19 = .ok (.aload_n 0, 1) := by decide +kernel
theorem dX0_init_20 : decode cX0_init 20 = .ok (.iload 4, 2) := by decide +kernel
theorem dX0_init_22 : decode cX0_init 22 = .ok (.putfield 21, 3) := by decide +kernel
theorem dX0_init_25 : decode cX0_init 25 = .ok (.aload_n 0, 1) := by decide +kernel
theorem dX0_init_26 : decode cX0_init 26 = .ok (.iload 5, 2) := by decide +kernel
theorem dX0_init_28 : decode cX0_init 28 = .ok (.putfield 24, 3) := by decide +kernel
theorem dX0_init_31 : decode cX0_init 31 = .ok (.return_, 1) := by decide +kernel
abbrev k_X0_init : zK := (cX0_init, 6, RX0, none, ({ frames := 1, cells := 0, slots := 0, locals := 12 } : Room))
theorem zc_X0_init : zcal yX0_init k_X0_init.1 k_X0_init.2.1 k_X0_init.2.2.2.1 5 := ⟨tw_code_yX0_init, tw_i_TollForHesitators_Comer, ⟨by decide +kernel, by decide +kernel⟩, by decide +kernel⟩
def v_X0_init (o : (Nat → Int32)) (x1 : Int32) (x2 : Int32) (x3 : Int32) (x4 : Int32) (x5 : Int32) : (Nat → Int32) := va_up (va_up (va_up (va_up (va_up o 0 x1) 1 x2) 2 x3) 3 x4) 4 x5
set_option maxHeartbeats 800000 in
theorem c_X0_init {l : Launch} (G : zG) (P : pT) (a : Nat) (sz : Nat) (o : (Nat → Int32)) (x1 : Int32) (x2 : Int32) (x3 : Int32) (x4 : Int32) (x5 : Int32) : Met l yX0_init (.code yX0_init k_X0_init.1 k_X0_init.2.1 k_X0_init.2.2.2.1 :: TS) k_X0_init.2.2.2.2 (Pz G [.ref (a), .int x1, .int x2, .int x3, .int x4, .int x5] (Fw G (gX G P) (cmW a o) sz)) (Qwv G (fun w => w = cmW a (v_X0_init o x1 x2 x3 x4 x5)) (va_A (cmW a o) sz)) 0 0 (va_A (cmW a o) sz) := by
  refine zmet (K := k_X0_init) (by decide +kernel) rfl rfl (fun Γ hl0 hQ hN hF => ?_)
  refine z_start (gX_ok G P) hF (fun hw => ?_)
  generalize va_A (cmW a o) sz = A at hQ hw ⊢
  obtain ⟨res, hv⟩ : ∃ res, v_X0_init o x1 x2 x3 x4 x5 = res := ⟨_, rfl⟩
  rw [hv] at hQ
  unfold v_X0_init at hv
  show Z k_X0_init G Γ _ 0 0 [(0, .ref a), (1, .int x1), (2, .int x2), (3, .int x3), (4, .int x4), (5, .int x5)] 0 []
  refine z_aload_n dX0_init_0 rfl ?_
  refine z_objinit tw_m_RX0_3 tw_inst_objectInit tw_objcode ⟨Nat.le_of_ble_eq_true rfl, Nat.le_of_ble_eq_true rfl⟩ dX0_init_1 ?_
  refine z_aload_n dX0_init_4 rfl ?_
  refine z_iload_n dX0_init_5 rfl ?_
  refine z_putF (fs := cmF o) (v := .int x1) (ws' := cmW a (va_up o 0 x1)) hN 0 rfl rfl uin_X0 tyX0 tyX0_ok nmX0 0 (Nat.le_of_ble_eq_true rfl) tw_f_RX0_9 rfl rfl rfl (ty := .int) rfl rfl rfl (Nat.le_of_ble_eq_true rfl) rfl dX0_init_6 ?_
  refine z_aload_n dX0_init_9 rfl ?_
  refine z_iload_n dX0_init_10 rfl ?_
  refine z_putF (fs := cmF (va_up o 0 x1)) (v := .int x2) (ws' := cmW a (va_up (va_up o 0 x1) 1 x2)) hN 0 rfl rfl uin_X0 tyX0 tyX0_ok nmX0 1 (Nat.le_of_ble_eq_true rfl) tw_f_RX0_15 rfl rfl rfl (ty := .int) rfl rfl rfl (Nat.le_of_ble_eq_true rfl) rfl dX0_init_11 ?_
  refine z_aload_n dX0_init_14 rfl ?_
  refine z_iload_n dX0_init_15 rfl ?_
  refine z_putF (fs := cmF (va_up (va_up o 0 x1) 1 x2)) (v := .int x3) (ws' := cmW a (va_up (va_up (va_up o 0 x1) 1 x2) 2 x3)) hN 0 rfl rfl uin_X0 tyX0 tyX0_ok nmX0 2 (Nat.le_of_ble_eq_true rfl) tw_f_RX0_18 rfl rfl rfl (ty := .int) rfl rfl rfl (Nat.le_of_ble_eq_true rfl) rfl dX0_init_16 ?_
  refine z_aload_n dX0_init_19 rfl ?_
  refine z_iload dX0_init_20 rfl ?_
  refine z_putF (fs := cmF (va_up (va_up (va_up o 0 x1) 1 x2) 2 x3)) (v := .int x4) (ws' := cmW a (va_up (va_up (va_up (va_up o 0 x1) 1 x2) 2 x3) 3 x4)) hN 0 rfl rfl uin_X0 tyX0 tyX0_ok nmX0 3 (Nat.le_of_ble_eq_true rfl) tw_f_RX0_21 rfl rfl rfl (ty := .int) rfl rfl rfl (Nat.le_of_ble_eq_true rfl) rfl dX0_init_22 ?_
  refine z_aload_n dX0_init_25 rfl ?_
  refine z_iload dX0_init_26 rfl ?_
  refine z_putF (fs := cmF (va_up (va_up (va_up (va_up o 0 x1) 1 x2) 2 x3) 3 x4)) (v := .int x5) (ws' := cmW a (va_up (va_up (va_up (va_up (va_up o 0 x1) 1 x2) 2 x3) 3 x4) 4 x5)) hN 0 rfl rfl uin_X0 tyX0 tyX0_ok nmX0 4 (Nat.le_of_ble_eq_true rfl) tw_f_RX0_24 rfl rfl rfl (ty := .int) rfl rfl rfl (Nat.le_of_ble_eq_true rfl) rfl dX0_init_28 ?_
  subst hv; exact z_vret_W hQ rfl rfl rfl rfl dX0_init_31
theorem dX4_add_0 : decode cX4_add 0 = .ok (.aload_n 0, 1) := by decide +kernel
theorem dX4_add_1 : decode cX4_add 1 = .ok (.getfield 27, 3) := by decide +kernel
theorem dX4_add_4 : decode cX4_add 4 = .ok (.ifCond .lt 12, 3) := by decide +kernel
theorem dX4_add_7 : decode cX4_add 7 = .ok (.aload_n 0, 1) := by decide +kernel
theorem dX4_add_8 : decode cX4_add 8 = .ok (.getfield 27, 3) := by decide +kernel
theorem dX4_add_11 : decode cX4_add 11 = .ok (.bipush 7, 2) := by decide +kernel
theorem dX4_add_13 : decode cX4_add 13 = .ok (.if_icmp .lt 4, 3) := by decide +kernel
theorem dX4_add_16 : decode cX4_add 16 = .ok (.return_, 1) := by decide +kernel
theorem dX4_add_17 : decode cX4_add 17 = .ok (.aload_n 0, 1) := by decide +kernel
theorem dX4_add_18 : decode cX4_add 18 = .ok (.getfield 11, 3) := by decide +kernel
theorem dX4_add_21 : decode cX4_add 21 = .ok (.aload_n 0, 1) := by decide +kernel
theorem dX4_add_22 : decode cX4_add 22 = .ok (.getfield 27, 3) := by decide +kernel
theorem dX4_add_25 : decode cX4_add 25 = .ok (.new 9, 3) := by decide +kernel
theorem dX4_add_28 : decode cX4_add 28 = .ok (.dup, 1) := by decide +kernel
theorem dX4_add_29 : decode cX4_add 29 = .ok (.aload_n 0, 1) := by decide +kernel
theorem dX4_add_30 : decode cX4_add 30 = .ok (.getfield 27, 3) := by decide +kernel
theorem dX4_add_33 : decode cX4_add 33 = .ok (.iload_n 1, 1) := by decide +kernel
theorem dX4_add_34 : decode cX4_add 34 = .ok (.iload_n 2, 1) := by decide +kernel
theorem dX4_add_35 : decode cX4_add 35 = .ok (.iload 4, 2) := by decide +kernel
theorem dX4_add_37 : decode cX4_add 37 = .ok (.iload 5, 2) := by decide +kernel
theorem dX4_add_39 : decode cX4_add 39 = .ok (.invokespecial 57, 3) := by decide +kernel
theorem dX4_add_42 : decode cX4_add 42 = .ok (.aastore, 1) := by decide +kernel
theorem dX4_add_43 : decode cX4_add 43 = .ok (.aload_n 0, 1) := by decide +kernel
theorem dX4_add_44 : decode cX4_add 44 = .ok (.getfield 17, 3) := by decide +kernel
theorem dX4_add_47 : decode cX4_add 47 = .ok (.aload_n 0, 1) := by decide +kernel
theorem dX4_add_48 : decode cX4_add 48 = .ok (.getfield 27, 3) := by decide +kernel
theorem dX4_add_51 : decode cX4_add 51 = .ok (.iload_n 3, 1) := by decide +kernel
theorem dX4_add_52 : decode cX4_add 52 = .ok (.iastore, 1) := by decide +kernel
theorem dX4_add_53 : decode cX4_add 53 = .ok (.aload_n 0, 1) := by decide +kernel
theorem dX4_add_54 : decode cX4_add 54 = .ok (.getfield 21, 3) := by decide +kernel
theorem dX4_add_57 : decode cX4_add 57 = .ok (.aload_n 0, 1) := by decide +kernel
theorem dX4_add_58 : decode cX4_add 58 = .ok (.getfield 27, 3) := by decide +kernel
theorem dX4_add_61 : decode cX4_add 61 = .ok (.iload 6, 2) := by decide +kernel
theorem dX4_add_63 : decode cX4_add 63 = .ok (.iastore, 1) := by decide +kernel
theorem dX4_add_64 : decode cX4_add 64 = .ok (.aload_n 0, 1) := by decide +kernel
theorem dX4_add_65 : decode cX4_add 65 = .ok (.getfield 24, 3) := by decide +kernel
theorem dX4_add_68 : decode cX4_add 68 = .ok (.aload_n 0, 1) := by decide +kernel
theorem dX4_add_69 : decode cX4_add 69 = .ok (.getfield 27, 3) := by decide +kernel
theorem dX4_add_72 : decode cX4_add 72 = .ok (.iconst 0, 1) := by decide +kernel
theorem dX4_add_73 : decode cX4_add 73 = .ok (.iastore, 1) := by decide +kernel
theorem dX4_add_74 : decode cX4_add 74 = .ok (.aload_n 0, 1) := by decide +kernel
theorem dX4_add_75 : decode cX4_add 75 = .ok (.dup, 1) := by decide +kernel
theorem dX4_add_76 : decode cX4_add 76 = .ok (.getfield 27, 3) := by decide +kernel
theorem dX4_add_79 : decode cX4_add 79 = .ok (.iconst 1, 1) := by decide +kernel
theorem dX4_add_80 : decode cX4_add 80 = .ok (.iadd, 1) := by decide +kernel
theorem dX4_add_81 : decode cX4_add 81 = .ok (.putfield 27, 3) := by decide +kernel
theorem dX4_add_84 : decode cX4_add 84 = .ok (.return_, 1) := by decide +kernel
abbrev k_X4_add : zK := (cX4_add, 7, RX4, none, ({ frames := 2, cells := 1, slots := 5, locals := 37 } : Room))
theorem zc_X4_add : zcal yX4_add k_X4_add.1 k_X4_add.2.1 k_X4_add.2.2.2.1 6 := ⟨tw_code_yX4_add, tw_i_TollForHesitators_Road, ⟨by decide +kernel, by decide +kernel⟩, by decide +kernel⟩
theorem zv_X4_add : Cond.instanceMethod yX4_add ∈ TS ∧ Cond.selects RX4 yX4_add yX4_add ∈ TS := ⟨tw_inst_yX4_add, tw_s_yX4_add⟩
def g_X4_add (R : rT) (x1 : Int32) (x2 : Int32) (x3 : Int32) (x4 : Int32) (x5 : Int32) (x6 : Int32) (res : rT × LL) : Prop := if (R.1 4) < 0 then res = (R, []) else if (R.1 4) < 7 then ∃ q3 : Nat, (fun _ : Nat => True) q3 ∧ (res = (rsf (rsa (rsa (rsa (rsc R (va_up R.2.2 (R.1 4).toNatClampNeg (some q3))) 1 (upd (R.2.1 1) (R.1 4).toNatClampNeg x3)) 2 (upd (R.2.1 2) (R.1 4).toNatClampNeg x6)) 3 (upd (R.2.1 3) (R.1 4).toNatClampNeg 0)) 4 ((R.1 4) + 1), [(q3, v_X0_init (fun _ => 0) (R.1 4) x1 x2 x4 x5)])) else res = (R, [])
def p_X4_add (R : rT) (x1 : Int32) (x2 : Int32) (x3 : Int32) (x4 : Int32) (x5 : Int32) (x6 : Int32) : Prop := if (R.1 4) < 0 then True else if (R.1 4) < 7 then ∀ q3 : Nat, (fun _ : Nat => True) q3 → ((vp_in (R.1 4) 7) ∧ ((vp_in (R.1 4) 7) ∧ ((vp_in (R.1 4) 7) ∧ (vp_in (R.1 4) 7)))) else True
set_option maxHeartbeats 800000 in
theorem c_X4_add {l : Launch} (G : zG) (P : pT) (a : Nat → Nat) (sz : Nat) (R : rT) (x1 : Int32) (x2 : Int32) (x3 : Int32) (x4 : Int32) (x5 : Int32) (x6 : Int32) (hp : p_X4_add R x1 x2 x3 x4 x5 x6) : Met l yX4_add (.code yX4_add k_X4_add.1 k_X4_add.2.1 k_X4_add.2.2.2.1 :: TS) k_X4_add.2.2.2.2 (Pz G [.ref (a 0), .int x1, .int x2, .int x3, .int x4, .int x5, .int x6] (Fw G (gX G P) (rdW G a R) sz)) (Qwv G (fun w => ∃ res : rT × LL, g_X4_add R x1 x2 x3 x4 x5 x6 res ∧ w = rdW G a res.1 ++ cmL res.2) (va_A (rdW G a R) sz)) 1 5 (va_A (rdW G a R) sz) := by
  refine zmet (K := k_X4_add) (by decide +kernel) rfl rfl (fun Γ hl0 hQ hN hF => ?_)
  refine z_start (gX_ok G P) hF (fun hw => ?_)
  generalize va_A (rdW G a R) sz = A at hQ hw ⊢
  obtain ⟨G0, hG0⟩ : ∃ G0, G0 = g_X4_add R x1 x2 x3 x4 x5 x6 := ⟨_, rfl⟩
  rw [← hG0] at hQ
  have hv : ∀ res, g_X4_add R x1 x2 x3 x4 x5 x6 res → G0 res := fun _ h => by rw [hG0]; exact h
  clear hG0
  unfold g_X4_add at hv
  unfold p_X4_add at hp
  refine z_nil ?_
  show Z k_X4_add G Γ _ 0 0 [(0, .ref (a 0)), (1, .int x1), (2, .int x2), (3, .int x3), (4, .int x4), (5, .int x5), (6, .int x6)] 0 []
  refine z_aload_n dX4_add_0 rfl ?_
  refine z_get (v := .int (R.1 4)) wr_P 0 rfl rfl uin_X4 4 (Nat.le_of_ble_eq_true rfl) tw_f_RX4_27 rfl rfl dX4_add_1 ?_
  refine z_if_lt (tgt := 16) dX4_add_4 (by decide) (fun c1 => ?_) (fun c1 => ?_)
  · have hp := ip_t hp c1; have hv := gt_t hv c1
    exact z_vret_W hQ rfl rfl rfl ⟨(R, []), hv _ rfl, rfl⟩ dX4_add_16
  · have hp := ip_f hp c1; have hv := gt_f hv c1
    refine z_aload_n dX4_add_7 rfl ?_
    refine z_get (v := .int (R.1 4)) wr_P 0 rfl rfl uin_X4 4 (Nat.le_of_ble_eq_true rfl) tw_f_RX4_27 rfl rfl dX4_add_8 ?_
    refine z_bipush (v := 7) dX4_add_11 rfl ?_
    refine z_icmp_lt (tgt := 17) dX4_add_13 (by decide) (fun c2 => ?_) (fun c2 => ?_)
    · have hp := ip_t hp c2; have hv := gt_t hv c2
      refine z_aload_n dX4_add_17 rfl ?_
      refine z_get (v := .ref (a 1)) wr_P 0 rfl rfl uin_X4 0 (Nat.le_of_ble_eq_true rfl) tw_f_RX4_11 rfl rfl dX4_add_18 ?_
      refine z_aload_n dX4_add_21 rfl ?_
      refine z_get (v := .int (R.1 4)) wr_P 0 rfl rfl uin_X4 4 (Nat.le_of_ble_eq_true rfl) tw_f_RX4_27 rfl rfl dX4_add_22 ?_
      refine z_nil' ?_
      refine z_newT (ci := 0) (fs := cmF (fun _ => 0)) hw rfl uin_X0 tyX0 tyX0_ok tw_k_RX4_9 tw_n_RX0 tw_i_TollForHesitators_Comer (fun j hj => by rcases (show j = 0 ∨ j = 1 ∨ j = 2 ∨ j = 3 ∨ j = 4 by omega) with rfl | rfl | rfl | rfl | rfl <;> rfl) (Nat.le_of_ble_eq_true rfl) (Nat.le_of_ble_eq_true rfl) dX4_add_25 ?_
      intro q3 gq3
      have hp := hp q3 gq3
      have hv := ge_q (q := q3) hv gq3
      refine z_dup dX4_add_28 rfl ?_
      refine z_aload_n dX4_add_29 rfl ?_
      refine z_get (v := .int (R.1 4)) wr_P 0 rfl rfl uin_X4 4 (Nat.le_of_ble_eq_true rfl) tw_f_RX4_27 rfl rfl dX4_add_30 ?_
      refine z_iload_n dX4_add_33 rfl ?_
      refine z_iload_n dX4_add_34 rfl ?_
      refine z_iload dX4_add_35 rfl ?_
      refine z_iload dX4_add_37 rfl ?_
      refine z_cinit (wc := cmW q3 (fun _ => 0)) hw (fun sz => c_X0_init G P q3 sz (fun _ => 0) (R.1 4) x1 x2 x4 x5) zc_X0_init ⟨rfl, tw_inst_yX0_init⟩ tw_m_RX4_57 (zroom_of rfl) rfl (Nat.le_of_ble_eq_true rfl) dX4_add_39 (fun w1 hw1 => ?_)
      subst hw1
      refine z_eqw (ws' := rdW G a R ++ cmL ([(q3, v_X0_init (fun _ => 0) (R.1 4) x1 x2 x4 x5)])) rfl ?_
      obtain ⟨q4, hp⟩ := hp
      refine z_aastn (F := va_up R.2.2 (R.1 4).toNatClampNeg (some q3)) (ws' := rdW G a (rsc R (va_up R.2.2 (R.1 4).toNatClampNeg (some q3))) ++ cmL ([(q3, v_X0_init (fun _ => 0) (R.1 4) x1 x2 x4 x5)])) 2 (fun _ => rfl) rfl 1 rfl q4 5 rfl rfl rfl dX4_add_42 ?_
      refine z_aload_n dX4_add_43 rfl ?_
      refine z_get (v := .ref (a 2)) wr_P 0 rfl rfl uin_X4 1 (Nat.le_of_ble_eq_true rfl) tw_f_RX4_17 rfl rfl dX4_add_44 ?_
      refine z_aload_n dX4_add_47 rfl ?_
      refine z_get (v := .int (R.1 4)) wr_P 0 rfl rfl uin_X4 4 (Nat.le_of_ble_eq_true rfl) tw_f_RX4_27 rfl rfl dX4_add_48 ?_
      refine z_iload_n dX4_add_51 rfl ?_
      obtain ⟨q5, hp⟩ := hp
      refine z_iastx (F := upd (R.2.1 1) (R.1 4).toNatClampNeg x3) (ws' := rdW G a (rsa (rsc R (va_up R.2.2 (R.1 4).toNatClampNeg (some q3))) 1 (upd (R.2.1 1) (R.1 4).toNatClampNeg x3)) ++ cmL ([(q3, v_X0_init (fun _ => 0) (R.1 4) x1 x2 x4 x5)])) 2 rfl q5 rfl rfl dX4_add_52 ?_
      refine z_aload_n dX4_add_53 rfl ?_
      refine z_get (v := .ref (a 3)) wr_P 0 rfl rfl uin_X4 2 (Nat.le_of_ble_eq_true rfl) tw_f_RX4_21 rfl rfl dX4_add_54 ?_
      refine z_aload_n dX4_add_57 rfl ?_
      refine z_get (v := .int (R.1 4)) wr_P 0 rfl rfl uin_X4 4 (Nat.le_of_ble_eq_true rfl) tw_f_RX4_27 rfl rfl dX4_add_58 ?_
      refine z_iload dX4_add_61 rfl ?_
      obtain ⟨q6, hp⟩ := hp
      refine z_iastx (F := upd (R.2.1 2) (R.1 4).toNatClampNeg x6) (ws' := rdW G a (rsa (rsa (rsc R (va_up R.2.2 (R.1 4).toNatClampNeg (some q3))) 1 (upd (R.2.1 1) (R.1 4).toNatClampNeg x3)) 2 (upd (R.2.1 2) (R.1 4).toNatClampNeg x6)) ++ cmL ([(q3, v_X0_init (fun _ => 0) (R.1 4) x1 x2 x4 x5)])) 3 rfl q6 rfl rfl dX4_add_63 ?_
      refine z_aload_n dX4_add_64 rfl ?_
      refine z_get (v := .ref (a 4)) wr_P 0 rfl rfl uin_X4 3 (Nat.le_of_ble_eq_true rfl) tw_f_RX4_24 rfl rfl dX4_add_65 ?_
      refine z_aload_n dX4_add_68 rfl ?_
      refine z_get (v := .int (R.1 4)) wr_P 0 rfl rfl uin_X4 4 (Nat.le_of_ble_eq_true rfl) tw_f_RX4_27 rfl rfl dX4_add_69 ?_
      refine z_iconst (v := 0) dX4_add_72 rfl ?_
      have q7 := hp
      refine z_iastx (F := upd (R.2.1 3) (R.1 4).toNatClampNeg 0) (ws' := rdW G a (rsa (rsa (rsa (rsc R (va_up R.2.2 (R.1 4).toNatClampNeg (some q3))) 1 (upd (R.2.1 1) (R.1 4).toNatClampNeg x3)) 2 (upd (R.2.1 2) (R.1 4).toNatClampNeg x6)) 3 (upd (R.2.1 3) (R.1 4).toNatClampNeg 0)) ++ cmL ([(q3, v_X0_init (fun _ => 0) (R.1 4) x1 x2 x4 x5)])) 4 rfl q7 rfl rfl dX4_add_73 ?_
      refine z_aload_n dX4_add_74 rfl ?_
      refine z_dup dX4_add_75 rfl ?_
      refine z_get (v := .int (R.1 4)) wr_P 0 rfl rfl uin_X4 4 (Nat.le_of_ble_eq_true rfl) tw_f_RX4_27 rfl rfl dX4_add_76 ?_
      refine z_iconst (v := 1) dX4_add_79 rfl ?_
      refine z_iadd dX4_add_80 ?_
      refine z_put (fs := rdF a (rsa (rsa (rsa (rsc R (va_up R.2.2 (R.1 4).toNatClampNeg (some q3))) 1 (upd (R.2.1 1) (R.1 4).toNatClampNeg x3)) 2 (upd (R.2.1 2) (R.1 4).toNatClampNeg x6)) 3 (upd (R.2.1 3) (R.1 4).toNatClampNeg 0))) (v := .int ((R.1 4) + 1)) (ws' := rdW G a (rsf (rsa (rsa (rsa (rsc R (va_up R.2.2 (R.1 4).toNatClampNeg (some q3))) 1 (upd (R.2.1 1) (R.1 4).toNatClampNeg x3)) 2 (upd (R.2.1 2) (R.1 4).toNatClampNeg x6)) 3 (upd (R.2.1 3) (R.1 4).toNatClampNeg 0)) 4 ((R.1 4) + 1)) ++ cmL ([(q3, v_X0_init (fun _ => 0) (R.1 4) x1 x2 x4 x5)])) 0 rfl rfl uin_X4 tyX4 tyX4_ok nmX4 4 (Nat.le_of_ble_eq_true rfl) tw_f_RX4_27 rfl rfl (ty := .int) rfl rfl rfl (Nat.le_of_ble_eq_true rfl) rfl dX4_add_81 ?_
      exact z_vret_W hQ rfl rfl rfl ⟨(rsf (rsa (rsa (rsa (rsc R (va_up R.2.2 (R.1 4).toNatClampNeg (some q3))) 1 (upd (R.2.1 1) (R.1 4).toNatClampNeg x3)) 2 (upd (R.2.1 2) (R.1 4).toNatClampNeg x6)) 3 (upd (R.2.1 3) (R.1 4).toNatClampNeg 0)) 4 ((R.1 4) + 1), [(q3, v_X0_init (fun _ => 0) (R.1 4) x1 x2 x4 x5)]), hv _ rfl, rfl⟩ dX4_add_84
    · have hp := ip_f hp c2; have hv := gt_f hv c2
      exact z_vret_W hQ rfl rfl rfl ⟨(R, []), hv _ rfl, rfl⟩ dX4_add_16
theorem dX3_comerItem_0 : decode cX3_comerItem 0 = .ok (.iconst 0, 1) := by decide +kernel
theorem dX3_comerItem_1 : decode cX3_comerItem 1 = .ok (.istore_n 2, 1) := by decide +kernel
theorem dX3_comerItem_2 : decode cX3_comerItem 2 = .ok (.iload_n 2, 1) := by decide +kernel
theorem dX3_comerItem_3 : decode cX3_comerItem 3 = .ok (.aload_n 0, 1) := by decide +kernel
theorem dX3_comerItem_4 : decode cX3_comerItem 4 = .ok (.getfield 9, 3) := by decide +kernel
theorem dX3_comerItem_7 : decode cX3_comerItem 7 = .ok (.arraylength, 1) := by decide +kernel
theorem dX3_comerItem_8 : decode cX3_comerItem 8 = .ok (.if_icmp .ge 38, 3) := by decide +kernel
theorem dX3_comerItem_11 : decode cX3_comerItem 11 = .ok (.aload_n 0, 1) := by decide +kernel
theorem dX3_comerItem_12 : decode cX3_comerItem 12 = .ok (.getstatic 102, 3) := by decide +kernel
theorem dX3_comerItem_15 : decode cX3_comerItem 15 = .ok (.iload_n 2, 1) := by decide +kernel
theorem dX3_comerItem_16 : decode cX3_comerItem 16 = .ok (.iaload, 1) := by decide +kernel
theorem dX3_comerItem_17 : decode cX3_comerItem 17 = .ok (.getstatic 105, 3) := by decide +kernel
theorem dX3_comerItem_20 : decode cX3_comerItem 20 = .ok (.iload_n 2, 1) := by decide +kernel
theorem dX3_comerItem_21 : decode cX3_comerItem 21 = .ok (.iaload, 1) := by decide +kernel
theorem dX3_comerItem_22 : decode cX3_comerItem 22 = .ok (.invokevirtual 108, 3) := by decide +kernel
theorem dX3_comerItem_25 : decode cX3_comerItem 25 = .ok (.ifCond .ne 5, 3) := by decide +kernel
theorem dX3_comerItem_28 : decode cX3_comerItem 28 = .ok (.iconst 0, 1) := by decide +kernel
theorem dX3_comerItem_29 : decode cX3_comerItem 29 = .ok (.ireturn, 1) := by decide +kernel
theorem dX3_comerItem_30 : decode cX3_comerItem 30 = .ok (.aload_n 0, 1) := by decide +kernel
theorem dX3_comerItem_31 : decode cX3_comerItem 31 = .ok (.getfield 9, 3) := by decide +kernel
theorem dX3_comerItem_34 : decode cX3_comerItem 34 = .ok (.iload_n 2, 1) := by decide +kernel
theorem dX3_comerItem_35 : decode cX3_comerItem 35 = .ok (.aload_n 0, 1) := by decide +kernel
theorem dX3_comerItem_36 : decode cX3_comerItem 36 = .ok (.getfield 32, 3) := by decide +kernel
theorem dX3_comerItem_39 : decode cX3_comerItem 39 = .ok (.iastore, 1) := by decide +kernel
theorem dX3_comerItem_40 : decode cX3_comerItem 40 = .ok (.iinc 2 1, 3) := by decide +kernel
theorem dX3_comerItem_43 : decode cX3_comerItem 43 = .ok (.goto (-41), 3) := by decide +kernel
theorem dX3_comerItem_46 : decode cX3_comerItem 46 = .ok (.aload_n 1, 1) := by decide +kernel
theorem dX3_comerItem_47 : decode cX3_comerItem 47 = .ok (.aload_n 0, 1) := by decide +kernel
theorem dX3_comerItem_48 : decode cX3_comerItem 48 = .ok (.getfield 9, 3) := by decide +kernel
theorem dX3_comerItem_51 : decode cX3_comerItem 51 = .ok (.iconst 0, 1) := by decide +kernel
theorem dX3_comerItem_52 : decode cX3_comerItem 52 = .ok (.iaload, 1) := by decide +kernel
theorem dX3_comerItem_53 : decode cX3_comerItem 53 = .ok (.aload_n 0, 1) := by decide +kernel
theorem dX3_comerItem_54 : decode cX3_comerItem 54 = .ok (.getfield 9, 3) := by decide +kernel
theorem dX3_comerItem_57 : decode cX3_comerItem 57 = .ok (.iconst 1, 1) := by decide +kernel
theorem dX3_comerItem_58 : decode cX3_comerItem 58 = .ok (.iaload, 1) := by decide +kernel
theorem dX3_comerItem_59 : decode cX3_comerItem 59 = .ok (.aload_n 0, 1) := by decide +kernel
theorem dX3_comerItem_60 : decode cX3_comerItem 60 = .ok (.getfield 9, 3) := by decide +kernel
theorem dX3_comerItem_63 : decode cX3_comerItem 63 = .ok (.iconst 2, 1) := by decide +kernel
theorem dX3_comerItem_64 : decode cX3_comerItem 64 = .ok (.iaload, 1) := by decide +kernel
theorem dX3_comerItem_65 : decode cX3_comerItem 65 = .ok (.aload_n 0, 1) := by decide +kernel
theorem dX3_comerItem_66 : decode cX3_comerItem 66 = .ok (.getfield 9, 3) := by decide +kernel
theorem dX3_comerItem_69 : decode cX3_comerItem 69 = .ok (.iconst 3, 1) := by decide +kernel
theorem dX3_comerItem_70 : decode cX3_comerItem 70 = .ok (.iaload, 1) := by decide +kernel
theorem dX3_comerItem_71 : decode cX3_comerItem 71 = .ok (.aload_n 0, 1) := by decide +kernel
theorem dX3_comerItem_72 : decode cX3_comerItem 72 = .ok (.getfield 9, 3) := by decide +kernel
theorem dX3_comerItem_75 : decode cX3_comerItem 75 = .ok (.iconst 4, 1) := by decide +kernel
theorem dX3_comerItem_76 : decode cX3_comerItem 76 = .ok (.iaload, 1) := by decide +kernel
theorem dX3_comerItem_77 : decode cX3_comerItem 77 = .ok (.aload_n 0, 1) := by decide +kernel
theorem dX3_comerItem_78 : decode cX3_comerItem 78 = .ok (.getfield 9, 3) := by decide +kernel
theorem dX3_comerItem_81 : decode cX3_comerItem 81 = .ok (.iconst 5, 1) := by decide +kernel
theorem dX3_comerItem_82 : decode cX3_comerItem 82 = .ok (.iaload, 1) := by decide +kernel
theorem dX3_comerItem_83 : decode cX3_comerItem 83 = .ok (.invokevirtual 112, 3) := by decide +kernel
theorem dX3_comerItem_86 : decode cX3_comerItem 86 = .ok (.iconst 1, 1) := by decide +kernel
theorem dX3_comerItem_87 : decode cX3_comerItem 87 = .ok (.ireturn, 1) := by decide +kernel
abbrev k_X3_comerItem : zK := (cX3_comerItem, 3, RX3, (some .boolean), ({ frames := 3, cells := 1, slots := 5, locals := 65 } : Room))
theorem zc_X3_comerItem : zcal yX3_comerItem k_X3_comerItem.1 k_X3_comerItem.2.1 k_X3_comerItem.2.2.2.1 1 := ⟨tw_code_yX3_comerItem, tw_i_TollForHesitators_Reader, ⟨by decide +kernel, by decide +kernel⟩, by decide +kernel⟩
theorem zv_X3_comerItem : Cond.instanceMethod yX3_comerItem ∈ TS ∧ Cond.selects RX3 yX3_comerItem yX3_comerItem ∈ TS := ⟨tw_inst_yX3_comerItem, tw_s_yX3_comerItem⟩
def g_X3_comerItem_r (f : (Nat → Int64)) : Nat → e2T → rT → Int32 → Int32 × e2T × rT × LL → Prop
  | 0, _, _, _, _ => False
  | n + 1, E, R, v2, res => if 6 ≤ v2 then ∃ q3 : rT × LL, g_X4_add R (E.2 ((0 : Int32)).toNatClampNeg) (E.2 ((1 : Int32)).toNatClampNeg) (E.2 ((2 : Int32)).toNatClampNeg) (E.2 ((3 : Int32)).toNatClampNeg) (E.2 ((4 : Int32)).toNatClampNeg) (E.2 ((5 : Int32)).toNatClampNeg) q3 ∧ (res = (1, E, q3.1, [] ++ q3.2)) else kk (v_X3_numeral E f (t_least v2.toNatClampNeg) (t_most v2.toNatClampNeg)) (fun q7 : Int32 × e2T => if q7.1 = 0 then res = (0, q7.2, R, []) else g_X3_comerItem_r f n (e2a q7.2 (upd q7.2.2 v2.toNatClampNeg (q7.2.1 6))) R (v2 + 1) res)
def p_X3_comerItem_r (f : (Nat → Int64)) : Nat → e2T → rT → Int32 → Prop
  | 0, _, _, _ => False
  | n + 1, E, R, v2 => if 6 ≤ v2 then p_X4_add R (E.2 ((0 : Int32)).toNatClampNeg) (E.2 ((1 : Int32)).toNatClampNeg) (E.2 ((2 : Int32)).toNatClampNeg) (E.2 ((3 : Int32)).toNatClampNeg) (E.2 ((4 : Int32)).toNatClampNeg) (E.2 ((5 : Int32)).toNatClampNeg) else vp_in v2 6 ∧ (vp_in v2 6 ∧ ((p_X3_numeral E f (t_least v2.toNatClampNeg) (t_most v2.toNatClampNeg)) ∧ (kk (v_X3_numeral E f (t_least v2.toNatClampNeg) (t_most v2.toNatClampNeg)) (fun q7 : Int32 × e2T => if q7.1 = 0 then True else vp_in v2 6 ∧ (p_X3_comerItem_r f n (e2a q7.2 (upd q7.2.2 v2.toNatClampNeg (q7.2.1 6))) R (v2 + 1))))))
def g_X3_comerItem (E : e2T) (f : (Nat → Int64)) (R : rT) (res : Int32 × e2T × rT × LL) : Prop := g_X3_comerItem_r f 200 E R 0 res
def p_X3_comerItem (E : e2T) (f : (Nat → Int64)) (R : rT) : Prop := p_X3_comerItem_r f 200 E R 0
set_option maxHeartbeats 800000 in
theorem w_X3_comerItem {G : zG} {P : pT} {Γ : zT} {A : Nat → Prop} {G0 : Int32 × e2T × rT × LL → Prop} (a : Nat → Nat) (q : Nat) (b : Nat → Nat) (f : (Nat → Int64)) (hw : wk (gX G P) A Γ.2.2.1.1.heap) (hQ : zQ Γ (Qwi G (fun r w => ∃ res : Int32 × e2T × rT × LL, G0 res ∧ r = res.1 ∧ narrow .boolean (.int res.1) = .int res.1 ∧ w = re2W G a q res.2.1 ++ ltW G q f ++ rdW G b res.2.2.1 ++ cmL res.2.2.2) A) 1 5 A) : ∀ n : Nat, (∀ (E : e2T) (R : rT) (v2 : Int32), p_X3_comerItem_r f n E R v2 → (∀ res, g_X3_comerItem_r f n E R v2 res → G0 res) → Z k_X3_comerItem G Γ (wr G A Γ.2.2.1.1.heap (re2W G a q E ++ ltW G q f ++ rdW G b R ++ cmL ([]))) 0 0 [(0, .ref (a 0)), (1, .ref (b 0)), (2, .int v2)] 2 []) := by
  intro n
  induction n with
  | zero => exact fun E R v2 hp => absurd hp (by rw [p_X3_comerItem_r]; exact not_false)
  | succ n ih =>
    intro E R v2 hp hv
    rw [p_X3_comerItem_r] at hp
    simp only [g_X3_comerItem_r] at hv
    refine z_iload_n dX3_comerItem_2 rfl ?_
    refine z_aload_n dX3_comerItem_3 rfl ?_
    refine z_get (v := .ref (a 1)) wr_P 0 rfl rfl uin_X3 0 (Nat.le_of_ble_eq_true rfl) tw_f_RX3_9 rfl rfl dX3_comerItem_4 ?_
    refine z_alen (cA := G.2.2.1 0) (v := 6) 0 (fun _ => rfl) wr_P 1 rfl rfl dX3_comerItem_7 ?_
    refine z_icmp_ge (tgt := 46) dX3_comerItem_8 (by decide) (fun c1 => ?_) (fun c1 => ?_)
    · have hp := ip_t hp c1; have hv := gt_t hv c1
      refine z_aload_n dX3_comerItem_46 rfl ?_
      refine z_aload_n dX3_comerItem_47 rfl ?_
      refine z_get (v := .ref (a 1)) wr_P 0 rfl rfl uin_X3 0 (Nat.le_of_ble_eq_true rfl) tw_f_RX3_9 rfl rfl dX3_comerItem_48 ?_
      refine z_iconst (v := 0) dX3_comerItem_51 rfl ?_
      refine z_ialdx (x := E.2 ((0 : Int32)).toNatClampNeg) wr_P 1 rfl (vin rfl) rfl dX3_comerItem_52 ?_
      refine z_aload_n dX3_comerItem_53 rfl ?_
      refine z_get (v := .ref (a 1)) wr_P 0 rfl rfl uin_X3 0 (Nat.le_of_ble_eq_true rfl) tw_f_RX3_9 rfl rfl dX3_comerItem_54 ?_
      refine z_iconst (v := 1) dX3_comerItem_57 rfl ?_
      refine z_ialdx (x := E.2 ((1 : Int32)).toNatClampNeg) wr_P 1 rfl (vin rfl) rfl dX3_comerItem_58 ?_
      refine z_aload_n dX3_comerItem_59 rfl ?_
      refine z_get (v := .ref (a 1)) wr_P 0 rfl rfl uin_X3 0 (Nat.le_of_ble_eq_true rfl) tw_f_RX3_9 rfl rfl dX3_comerItem_60 ?_
      refine z_iconst (v := 2) dX3_comerItem_63 rfl ?_
      refine z_ialdx (x := E.2 ((2 : Int32)).toNatClampNeg) wr_P 1 rfl (vin rfl) rfl dX3_comerItem_64 ?_
      refine z_aload_n dX3_comerItem_65 rfl ?_
      refine z_get (v := .ref (a 1)) wr_P 0 rfl rfl uin_X3 0 (Nat.le_of_ble_eq_true rfl) tw_f_RX3_9 rfl rfl dX3_comerItem_66 ?_
      refine z_iconst (v := 3) dX3_comerItem_69 rfl ?_
      refine z_ialdx (x := E.2 ((3 : Int32)).toNatClampNeg) wr_P 1 rfl (vin rfl) rfl dX3_comerItem_70 ?_
      refine z_aload_n dX3_comerItem_71 rfl ?_
      refine z_get (v := .ref (a 1)) wr_P 0 rfl rfl uin_X3 0 (Nat.le_of_ble_eq_true rfl) tw_f_RX3_9 rfl rfl dX3_comerItem_72 ?_
      refine z_iconst (v := 4) dX3_comerItem_75 rfl ?_
      refine z_ialdx (x := E.2 ((4 : Int32)).toNatClampNeg) wr_P 1 rfl (vin rfl) rfl dX3_comerItem_76 ?_
      refine z_aload_n dX3_comerItem_77 rfl ?_
      refine z_get (v := .ref (a 1)) wr_P 0 rfl rfl uin_X3 0 (Nat.le_of_ble_eq_true rfl) tw_f_RX3_9 rfl rfl dX3_comerItem_78 ?_
      refine z_iconst (v := 5) dX3_comerItem_81 rfl ?_
      refine z_ialdx (x := E.2 ((5 : Int32)).toNatClampNeg) wr_P 1 rfl (vin rfl) rfl dX3_comerItem_82 ?_
      have q2 := hp
      refine z_ctvvR (T := cmL ([])) (R0 := pick (re2W G a q E ++ ltW G q f ++ rdW G b R) [0, 1, 2]) (W1 := fun q3 : rT × LL => re2W G a q E ++ ltW G q f ++ rdW G b q3.1) hw (fun sz => c_X4_add G P b sz R (E.2 ((0 : Int32)).toNatClampNeg) (E.2 ((1 : Int32)).toNatClampNeg) (E.2 ((2 : Int32)).toNatClampNeg) (E.2 ((3 : Int32)).toNatClampNeg) (E.2 ((4 : Int32)).toNatClampNeg) (E.2 ((5 : Int32)).toNatClampNeg) q2) [3, 4, 5, 6, 7] [0, 1, 2] [0, 1, 2, 3, 4, 5, 6, 7] 8 (by decide +kernel) rfl rfl rfl (fun _ => rfl) (fun _ => rfl) zc_X4_add zv_X4_add tw_m_RX3_112 (zrec_of wr_P 3 rfl rfl) (zroom_of rfl) rfl (Nat.le_of_ble_eq_true rfl) dX3_comerItem_83 ?_
      intro q3 gq3
      have hv := ge_q (q := q3) hv gq3
      refine z_capp ?_
      refine z_iconst (v := 1) dX3_comerItem_86 rfl ?_
      have nz : narrow .boolean (.int (1)) = .int (1) := rfl; exact z_zret_W hQ rfl nz rfl rfl ⟨(1, E, q3.1, [] ++ q3.2), hv _ rfl, rfl, nz, rfl⟩ dX3_comerItem_87
    · have hp := ip_f hp c1; have hv := gt_f hv c1
      refine z_aload_n dX3_comerItem_11 rfl ?_
      refine z_gsrow (fun H locs hi => ((wr_G hw) H locs hi).1.2.2.1) tw_f_RX3_102 dX3_comerItem_12 ?_
      refine z_iload_n dX3_comerItem_15 rfl ?_
      obtain ⟨q4, hp⟩ := hp
      refine z_tald (x := t_least v2.toNatClampNeg) (fun H locs hi => ((wr_G hw) H locs hi).1.2.2.1) q4 rfl dX3_comerItem_16 ?_
      refine z_gsrow (fun H locs hi => ((wr_G hw) H locs hi).1.2.2.2.1) tw_f_RX3_105 dX3_comerItem_17 ?_
      refine z_iload_n dX3_comerItem_20 rfl ?_
      obtain ⟨q5, hp⟩ := hp
      refine z_tald (x := t_most v2.toNatClampNeg) (fun H locs hi => ((wr_G hw) H locs hi).1.2.2.2.1) q5 rfl dX3_comerItem_21 ?_
      obtain ⟨q6, hp⟩ := hp
      refine z_ctviD (T := cmL ([])) (R0 := pick (re2W G a q E ++ ltW G q f ++ rdW G b R) [3, 4, 5, 6, 7]) (W1 := re2W G a q ((v_X3_numeral E f (t_least v2.toNatClampNeg) (t_most v2.toNatClampNeg)).2) ++ ltW G q f ++ rdW G b R) hw (fun sz => c_X3_numeral G P a q sz E f (t_least v2.toNatClampNeg) (t_most v2.toNatClampNeg) q6) [0, 1, 2] [3, 4, 5, 6, 7] [5, 6, 7, 0, 1, 2, 3, 4] 8 (by decide +kernel) rfl rfl rfl rfl rfl zc_X3_numeral zv_X3_numeral tw_m_RX3_108 (zrec_of wr_P 0 rfl rfl) (zroom_of rfl) rfl (Nat.le_of_ble_eq_true rfl) dX3_comerItem_22 ?_
      suffices z10 : ∀ q7 : Int32 × e2T, q7 = (v_X3_numeral E f (t_least v2.toNatClampNeg) (t_most v2.toNatClampNeg)) → narrow .boolean (.int q7.1) = .int q7.1 → Z k_X3_comerItem G Γ (wr G A Γ.2.2.1.1.heap (re2W G a q q7.2 ++ ltW G q f ++ rdW G b R ++ cmL ([]))) 0 0 [(0, .ref (a 0)), (1, .ref (b 0)), (2, .int v2)] 25 [.int q7.1] from z10 _ rfl (nb_X3_numeral E f (t_least v2.toNatClampNeg) (t_most v2.toNatClampNeg))
      intro q7 hq7 nq7
      have hp := kk_pq hp hq7
      have hv := gk_q hv hq7
      clear hq7
      refine z_if_ne (tgt := 30) dX3_comerItem_25 (by decide) (fun c8 => ?_) (fun c8 => ?_)
      · have hp := ip_f hp c8; have hv := gt_f hv c8
        refine z_aload_n dX3_comerItem_30 rfl ?_
        refine z_get (v := .ref (a 1)) wr_P 0 rfl rfl uin_X3 0 (Nat.le_of_ble_eq_true rfl) tw_f_RX3_9 rfl rfl dX3_comerItem_31 ?_
        refine z_iload_n dX3_comerItem_34 rfl ?_
        refine z_aload_n dX3_comerItem_35 rfl ?_
        refine z_get (v := .int (q7.2.1 6)) wr_P 0 rfl rfl uin_X3 6 (Nat.le_of_ble_eq_true rfl) tw_f_RX3_32 rfl rfl dX3_comerItem_36 ?_
        obtain ⟨q9, hp⟩ := hp
        refine z_iastx (F := upd q7.2.2 v2.toNatClampNeg (q7.2.1 6)) (ws' := re2W G a q (e2a q7.2 (upd q7.2.2 v2.toNatClampNeg (q7.2.1 6))) ++ ltW G q f ++ rdW G b R ++ cmL ([])) 1 rfl q9 rfl rfl dX3_comerItem_39 ?_
        refine z_iinc (v := v2 + 1) (lv' := [(2, .int (v2 + 1)), (0, .ref (a 0)), (1, .ref (b 0))]) dX3_comerItem_40 2 rfl rfl (Nat.le_of_ble_eq_true rfl) rfl ?_
        refine z_goto (tgt := 2) dX3_comerItem_43 (by decide) ?_
        exact z_lv rfl ((ih) (e2a q7.2 (upd q7.2.2 v2.toNatClampNeg (q7.2.1 6))) R (v2 + 1) hp hv)
      · have hp := ip_t hp c8; have hv := gt_t hv c8
        refine z_iconst (v := 0) dX3_comerItem_28 rfl ?_
        have nz : narrow .boolean (.int (0)) = .int (0) := rfl; exact z_zret_W hQ rfl nz rfl rfl ⟨(0, q7.2, R, []), hv _ rfl, rfl, nz, rfl⟩ dX3_comerItem_29
set_option maxHeartbeats 800000 in
theorem c_X3_comerItem {l : Launch} (G : zG) (P : pT) (a : Nat → Nat) (q : Nat) (b : Nat → Nat) (sz : Nat) (E : e2T) (f : (Nat → Int64)) (R : rT) (hp : p_X3_comerItem E f R) : Met l yX3_comerItem (.code yX3_comerItem k_X3_comerItem.1 k_X3_comerItem.2.1 k_X3_comerItem.2.2.2.1 :: TS) k_X3_comerItem.2.2.2.2 (Pz G [.ref (a 0), .ref (b 0)] (Fw G (gX G P) (re2W G a q E ++ ltW G q f ++ rdW G b R) sz)) (Qwi G (fun r w => ∃ res : Int32 × e2T × rT × LL, g_X3_comerItem E f R res ∧ r = res.1 ∧ narrow .boolean (.int res.1) = .int res.1 ∧ w = re2W G a q res.2.1 ++ ltW G q f ++ rdW G b res.2.2.1 ++ cmL res.2.2.2) (va_A (re2W G a q E ++ ltW G q f ++ rdW G b R) sz)) 1 5 (va_A (re2W G a q E ++ ltW G q f ++ rdW G b R) sz) := by
  refine zmet (K := k_X3_comerItem) (by decide +kernel) rfl rfl (fun Γ hl0 hQ hN hF => ?_)
  refine z_start (gX_ok G P) hF (fun hw => ?_)
  generalize va_A (re2W G a q E ++ ltW G q f ++ rdW G b R) sz = A at hQ hw ⊢
  obtain ⟨G0, hG0⟩ : ∃ G0, G0 = g_X3_comerItem E f R := ⟨_, rfl⟩
  rw [← hG0] at hQ
  have hv : ∀ res, g_X3_comerItem E f R res → G0 res := fun _ h => by rw [hG0]; exact h
  clear hG0
  unfold g_X3_comerItem at hv
  unfold p_X3_comerItem at hp
  refine z_nil ?_
  show Z k_X3_comerItem G Γ _ 0 0 [(0, .ref (a 0)), (1, .ref (b 0))] 0 []
  refine z_iconst (v := 0) dX3_comerItem_0 rfl ?_
  refine z_istore_n (lv' := [(2, .int 0), (0, .ref (a 0)), (1, .ref (b 0))]) dX3_comerItem_1 (Nat.le_of_ble_eq_true rfl) rfl ?_
  exact z_lv rfl ((w_X3_comerItem a q b f hw hQ 200) E R 0 hp hv)
theorem dX3_item_0 : decode cX3_item 0 = .ok (.aload_n 0, 1) := by decide +kernel
theorem dX3_item_1 : decode cX3_item 1 = .ok (.getfield 29, 3) := by decide +kernel
theorem dX3_item_4 : decode cX3_item 4 = .ok (.istore_n 2, 1) := by decide +kernel
theorem dX3_item_5 : decode cX3_item 5 = .ok (.aload_n 0, 1) := by decide +kernel
theorem dX3_item_6 : decode cX3_item 6 = .ok (.iload_n 2, 1) := by decide +kernel
theorem dX3_item_7 : decode cX3_item 7 = .ok (.invokevirtual 52, 3) := by decide +kernel
theorem dX3_item_10 : decode cX3_item 10 = .ok (.istore_n 3, 1) := by decide +kernel
theorem dX3_item_11 : decode cX3_item 11 = .ok (.iload_n 3, 1) := by decide +kernel
theorem dX3_item_12 : decode cX3_item 12 = .ok (.invokestatic 56, 3) := by decide +kernel
theorem dX3_item_15 : decode cX3_item 15 = .ok (.astore 4, 2) := by decide +kernel
theorem dX3_item_17 : decode cX3_item 17 = .ok (.aload 4, 2) := by decide +kernel
theorem dX3_item_19 : decode cX3_item 19 = .ok (.invokevirtual 60, 3) := by decide +kernel
theorem dX3_item_22 : decode cX3_item 22 = .ok (.ifCond .eq 9, 3) := by decide +kernel
theorem dX3_item_25 : decode cX3_item 25 = .ok (.aload_n 0, 1) := by decide +kernel
theorem dX3_item_26 : decode cX3_item 26 = .ok (.iload_n 2, 1) := by decide +kernel
theorem dX3_item_27 : decode cX3_item 27 = .ok (.invokevirtual 49, 3) := by decide +kernel
theorem dX3_item_30 : decode cX3_item 30 = .ok (.ireturn, 1) := by decide +kernel
theorem dX3_item_31 : decode cX3_item 31 = .ok (.iconst 0, 1) := by decide +kernel
theorem dX3_item_32 : decode cX3_item 32 = .ok (.istore 5, 2) := by decide +kernel
theorem dX3_item_34 : decode cX3_item 34 = .ok (.iload 5, 2) := by decide +kernel
theorem dX3_item_36 : decode cX3_item 36 = .ok (.aload 4, 2) := by decide +kernel
theorem dX3_item_38 : decode cX3_item 38 = .ok (.invokevirtual 66, 3) := by decide +kernel
theorem dX3_item_41 : decode cX3_item 41 = .ok (.if_icmp .ge 25, 3) := by decide +kernel
theorem dX3_item_44 : decode cX3_item 44 = .ok (.aload_n 0, 1) := by decide +kernel
theorem dX3_item_45 : decode cX3_item 45 = .ok (.aload 4, 2) := by decide +kernel
theorem dX3_item_47 : decode cX3_item 47 = .ok (.iload 5, 2) := by decide +kernel
theorem dX3_item_49 : decode cX3_item 49 = .ok (.invokevirtual 69, 3) := by decide +kernel
theorem dX3_item_52 : decode cX3_item 52 = .ok (.invokevirtual 45, 3) := by decide +kernel
theorem dX3_item_55 : decode cX3_item 55 = .ok (.ifCond .ne 5, 3) := by decide +kernel
theorem dX3_item_58 : decode cX3_item 58 = .ok (.iconst 0, 1) := by decide +kernel
theorem dX3_item_59 : decode cX3_item 59 = .ok (.ireturn, 1) := by decide +kernel
theorem dX3_item_60 : decode cX3_item 60 = .ok (.iinc 5 1, 3) := by decide +kernel
theorem dX3_item_63 : decode cX3_item 63 = .ok (.goto (-29), 3) := by decide +kernel
theorem dX3_item_66 : decode cX3_item 66 = .ok (.iload_n 3, 1) := by decide +kernel
theorem dX3_item_67 : decode cX3_item 67 = .ok (.lookupswitch 52 #[(99, 25), (100, 46)], 25) := by decide +kernel
theorem dX3_item_92 : decode cX3_item 92 = .ok (.aload_n 1, 1) := by decide +kernel
theorem dX3_item_93 : decode cX3_item 93 = .ok (.invokevirtual 73, 3) := by decide +kernel
theorem dX3_item_96 : decode cX3_item 96 = .ok (.ifCond .eq 11, 3) := by decide +kernel
theorem dX3_item_99 : decode cX3_item 99 = .ok (.aload_n 0, 1) := by decide +kernel
theorem dX3_item_100 : decode cX3_item 100 = .ok (.iload_n 2, 1) := by decide +kernel
theorem dX3_item_101 : decode cX3_item 101 = .ok (.invokevirtual 49, 3) := by decide +kernel
theorem dX3_item_104 : decode cX3_item 104 = .ok (.goto 8, 3) := by decide +kernel
theorem dX3_item_107 : decode cX3_item 107 = .ok (.aload_n 0, 1) := by decide +kernel
theorem dX3_item_108 : decode cX3_item 108 = .ok (.aload_n 1, 1) := by decide +kernel
theorem dX3_item_109 : decode cX3_item 109 = .ok (.invokevirtual 78, 3) := by decide +kernel
theorem dX3_item_112 : decode cX3_item 112 = .ok (.ireturn, 1) := by decide +kernel
theorem dX3_item_113 : decode cX3_item 113 = .ok (.aload_n 0, 1) := by decide +kernel
theorem dX3_item_114 : decode cX3_item 114 = .ok (.aload_n 1, 1) := by decide +kernel
theorem dX3_item_115 : decode cX3_item 115 = .ok (.invokevirtual 81, 3) := by decide +kernel
theorem dX3_item_118 : decode cX3_item 118 = .ok (.ireturn, 1) := by decide +kernel
theorem dX3_item_119 : decode cX3_item 119 = .ok (.aload_n 0, 1) := by decide +kernel
theorem dX3_item_120 : decode cX3_item 120 = .ok (.iload_n 3, 1) := by decide +kernel
theorem dX3_item_121 : decode cX3_item 121 = .ok (.aload_n 1, 1) := by decide +kernel
theorem dX3_item_122 : decode cX3_item 122 = .ok (.invokevirtual 84, 3) := by decide +kernel
theorem dX3_item_125 : decode cX3_item 125 = .ok (.ireturn, 1) := by decide +kernel
abbrev k_X3_item : zK := (cX3_item, 6, RX3, (some .boolean), ({ frames := 4, cells := 1, slots := 5, locals := 88 } : Room))
theorem zc_X3_item : zcal yX3_item k_X3_item.1 k_X3_item.2.1 k_X3_item.2.2.2.1 1 := ⟨tw_code_yX3_item, tw_i_TollForHesitators_Reader, ⟨by decide +kernel, by decide +kernel⟩, by decide +kernel⟩
theorem zv_X3_item : Cond.instanceMethod yX3_item ∈ TS ∧ Cond.selects RX3 yX3_item yX3_item ∈ TS := ⟨tw_inst_yX3_item, tw_s_yX3_item⟩
def g_X3_item_r (f : (Nat → Int64)) : Nat → e2T → rT → Int32 → Int32 → Nat → Int32 → Int32 × e2T × rT × LL → Prop
  | 0, _, _, _, _, _, _, _ => False
  | n + 1, E, R, v2, v3, v4, v5, res => if (Int32.ofNat (s_len.getD v4 0) >>> ((0 : Int32) &&& 31)) ≤ v5 then if v3 = 99 then if (v_X4_isFull R) = 0 then ∃ q9 : Int32 × e2T × rT × LL, g_X3_comerItem E f R q9 ∧ (res = (q9.1, q9.2.1, q9.2.2.1, [] ++ q9.2.2.2)) else kk (v_X3_fail E v2) (fun q10 : Int32 × e2T => res = (q10.1, q10.2, R, [])) else if v3 = 100 then kk (v_X3_doubtItem E f R) (fun q13 : Int32 × e2T × rT => res = (q13.1, q13.2.1, q13.2.2, [])) else kk (v_X3_settingItem E f R v3) (fun q16 : Int32 × e2T × rT => res = (q16.1, q16.2.1, q16.2.2, [])) else kk (v_X3_sign E f (v_str v4 v5)) (fun q21 : Int32 × e2T => if q21.1 = 0 then res = (0, q21.2, R, []) else g_X3_item_r f n q21.2 R v2 v3 v4 (v5 + 1) res)
def p_X3_item_r (f : (Nat → Int64)) : Nat → e2T → rT → Int32 → Int32 → Nat → Int32 → Prop
  | 0, _, _, _, _, _, _ => False
  | n + 1, E, R, v2, v3, v4, v5 => if (Int32.ofNat (s_len.getD v4 0) >>> ((0 : Int32) &&& 31)) ≤ v5 then if v3 = 99 then if (v_X4_isFull R) = 0 then p_X3_comerItem E f R else True else if v3 = 100 then p_X3_doubtItem E f R else p_X3_settingItem E f R v3 else (¬ v5 < 0) ∧ ((v5 < Int32.ofNat (s_len.getD v4 0)) ∧ ((vp_in v5 (s_len.getD v4 0)) ∧ ((p_X3_sign E f (v_str v4 v5)) ∧ (kk (v_X3_sign E f (v_str v4 v5)) (fun q21 : Int32 × e2T => if q21.1 = 0 then True else p_X3_item_r f n q21.2 R v2 v3 v4 (v5 + 1))))))
def g_X3_item (E : e2T) (f : (Nat → Int64)) (R : rT) (res : Int32 × e2T × rT × LL) : Prop := kk (v_X3_wordFrom (v_X3_letter E f (E.1 5))) (fun r2 : Nat => if (v_isEmpty r2) = 0 then g_X3_item_r f 200 E R (E.1 5) (v_X3_letter E f (E.1 5)) r2 0 res else kk (v_X3_fail E (E.1 5)) (fun q4 : Int32 × e2T => res = (q4.1, q4.2, R, [])))
def p_X3_item (E : e2T) (f : (Nat → Int64)) (R : rT) : Prop := (p_X3_letter E f (E.1 5)) ∧ (kk (v_X3_wordFrom (v_X3_letter E f (E.1 5))) (fun r2 : Nat => if (v_isEmpty r2) = 0 then p_X3_item_r f 200 E R (E.1 5) (v_X3_letter E f (E.1 5)) r2 0 else True))
set_option maxHeartbeats 800000 in
theorem w_X3_item {G : zG} {P : pT} {Γ : zT} {A : Nat → Prop} {G0 : Int32 × e2T × rT × LL → Prop} (a : Nat → Nat) (q : Nat) (b : Nat → Nat) (f : (Nat → Int64)) (hw : wk (gX G P) A Γ.2.2.1.1.heap) (hQ : zQ Γ (Qwi G (fun r w => ∃ res : Int32 × e2T × rT × LL, G0 res ∧ r = res.1 ∧ narrow .boolean (.int res.1) = .int res.1 ∧ w = re2W G a q res.2.1 ++ ltW G q f ++ rdW G b res.2.2.1 ++ cmL res.2.2.2) A) 1 5 A) : ∀ n : Nat, (∀ (E : e2T) (R : rT) (v2 : Int32) (v3 : Int32) (v4 : Nat) (v5 : Int32), v4 < 7 → p_X3_item_r f n E R v2 v3 v4 v5 → (∀ res, g_X3_item_r f n E R v2 v3 v4 v5 res → G0 res) → Z k_X3_item G Γ (wr G A Γ.2.2.1.1.heap (re2W G a q E ++ ltW G q f ++ rdW G b R ++ cmL ([]))) 0 0 [(0, .ref (a 0)), (1, .ref (b 0)), (2, .int v2), (3, .int v3), (4, .ref (G.2.2.2 (10 + v4))), (5, .int v5)] 34 []) := by
  intro n
  induction n with
  | zero => exact fun E R v2 v3 v4 v5 hv4 hp => absurd hp (by rw [p_X3_item_r]; exact not_false)
  | succ n ih =>
    intro E R v2 v3 v4 v5 hv4 hp hv
    rw [p_X3_item_r] at hp
    simp only [g_X3_item_r] at hv
    refine z_iload dX3_item_34 rfl ?_
    refine z_aload dX3_item_36 rfl ?_
    refine z_cviO (c_J0_length_8abf5 G P v4 hv4) zc_J0_length_8abf5 zv_J0_length_8abf5 tw_m_RX3_66 (str_O (wr_G hw) hv4) (fr_N (fr_all wr_P (wr_G hw))) (zroom_of rfl) rfl (Nat.le_of_ble_eq_true rfl) dX3_item_38 ?_
    refine z_icmp_ge (tgt := 66) dX3_item_41 (by decide) (fun c5 => ?_) (fun c5 => ?_)
    · have hp := ip_t hp c5; have hv := gt_t hv c5
      refine z_iload_n dX3_item_66 rfl ?_
      by_cases c11 : v3 = 99
      · have hp := ip_t hp c11; have hv := gt_t hv c11
        refine z_lookup (tgt := 92) dX3_item_67 (by decide) (look_in c11 rfl) (by decide) ?_
        refine z_aload_n dX3_item_92 rfl ?_
        refine z_cvi (c_X4_isFull G P b R ) zc_X4_isFull zv_X4_isFull tw_m_RX3_73 (zrec_of wr_P 3 rfl rfl) (fr_all (sub_P wr_P [3, 4, 5, 6, 7] rfl) (wr_G hw)) (zroom_of rfl) rfl (Nat.le_of_ble_eq_true rfl) dX3_item_93 ?_
        refine z_if_eq (tgt := 107) dX3_item_96 (by decide) (fun c6 => ?_) (fun c6 => ?_)
        · have hp := ip_t hp c6; have hv := gt_t hv c6
          refine z_aload_n dX3_item_107 rfl ?_
          refine z_aload_n dX3_item_108 rfl ?_
          have q8 := hp
          refine z_ctviR (T := cmL ([])) (R0 := pick (re2W G a q E ++ ltW G q f ++ rdW G b R) []) (W1 := fun q9 : Int32 × e2T × rT × LL => re2W G a q q9.2.1 ++ ltW G q f ++ rdW G b q9.2.2.1) hw (fun sz => c_X3_comerItem G P a q b sz E f R q8) [0, 1, 2, 3, 4, 5, 6, 7] [] [0, 1, 2, 3, 4, 5, 6, 7] 8 (by decide +kernel) rfl rfl rfl (fun _ => rfl) (fun _ => rfl) zc_X3_comerItem zv_X3_comerItem tw_m_RX3_78 (zrec_of wr_P 0 rfl rfl) (zroom_of rfl) rfl (Nat.le_of_ble_eq_true rfl) dX3_item_109 ?_
          intro q9 gq9 nq9
          have hv := ge_q (q := q9) hv gq9
          refine z_capp ?_
          have nz : narrow .boolean (.int (q9.1)) = .int (q9.1) := nq9; exact z_zret_W hQ rfl nz rfl rfl ⟨(q9.1, q9.2.1, q9.2.2.1, [] ++ q9.2.2.2), hv _ rfl, rfl, nz, rfl⟩ dX3_item_112
        · have hp := ip_f hp c6; have hv := gt_f hv c6
          refine z_aload_n dX3_item_99 rfl ?_
          refine z_iload_n dX3_item_100 rfl ?_
          refine z_ctviD (T := cmL ([])) (R0 := pick (re2W G a q E ++ ltW G q f ++ rdW G b R) [2, 3, 4, 5, 6, 7]) (W1 := re2W G a q ((v_X3_fail E v2).2) ++ ltW G q f ++ rdW G b R) hw (fun sz => c_X3_fail G P a q sz E v2 ) [0, 1] [2, 3, 4, 5, 6, 7] [6, 7, 0, 1, 2, 3, 4, 5] 8 (by decide +kernel) rfl rfl rfl rfl rfl zc_X3_fail zv_X3_fail tw_m_RX3_49 (zrec_of wr_P 0 rfl rfl) (zroom_of rfl) rfl (Nat.le_of_ble_eq_true rfl) dX3_item_101 ?_
          suffices z23 : ∀ q10 : Int32 × e2T, q10 = (v_X3_fail E v2) → narrow .boolean (.int q10.1) = .int q10.1 → Z k_X3_item G Γ (wr G A Γ.2.2.1.1.heap (re2W G a q q10.2 ++ ltW G q f ++ rdW G b R ++ cmL ([]))) 0 0 [(0, .ref (a 0)), (1, .ref (b 0)), (2, .int v2), (3, .int v3), (4, .ref (G.2.2.2 (10 + v4))), (5, .int v5)] 104 [.int q10.1] from z23 _ rfl (nb_X3_fail E v2)
          intro q10 hq10 nq10
          have hv := gk_q hv hq10
          clear hq10
          refine z_goto (tgt := 112) dX3_item_104 (by decide) ?_
          have nz : narrow .boolean (.int (q10.1)) = .int (q10.1) := nq10; exact z_zret_W hQ rfl nz rfl rfl ⟨(q10.1, q10.2, R, []), hv _ rfl, rfl, nz, rfl⟩ dX3_item_112
      have hp := ip_f hp c11
      have hv := gt_f hv c11
      by_cases c14 : v3 = 100
      · have hp := ip_t hp c14; have hv := gt_t hv c14
        refine z_lookup (tgt := 113) dX3_item_67 (by decide) (look_in c14 rfl) (by decide) ?_
        refine z_aload_n dX3_item_113 rfl ?_
        refine z_aload_n dX3_item_114 rfl ?_
        have q12 := hp
        refine z_ctviD (T := cmL ([])) (R0 := pick (re2W G a q E ++ ltW G q f ++ rdW G b R) []) (W1 := re2W G a q (((v_X3_doubtItem E f R).2).1) ++ ltW G q f ++ rdW G b (((v_X3_doubtItem E f R).2).2)) hw (fun sz => c_X3_doubtItem G P a q b sz E f R q12) [0, 1, 2, 3, 4, 5, 6, 7] [] [0, 1, 2, 3, 4, 5, 6, 7] 8 (by decide +kernel) rfl rfl rfl rfl rfl zc_X3_doubtItem zv_X3_doubtItem tw_m_RX3_81 (zrec_of wr_P 0 rfl rfl) (zroom_of rfl) rfl (Nat.le_of_ble_eq_true rfl) dX3_item_115 ?_
        suffices z24 : ∀ q13 : Int32 × e2T × rT, q13 = (v_X3_doubtItem E f R) → narrow .boolean (.int q13.1) = .int q13.1 → Z k_X3_item G Γ (wr G A Γ.2.2.1.1.heap (re2W G a q q13.2.1 ++ ltW G q f ++ rdW G b q13.2.2 ++ cmL ([]))) 0 0 [(0, .ref (a 0)), (1, .ref (b 0)), (2, .int v2), (3, .int v3), (4, .ref (G.2.2.2 (10 + v4))), (5, .int v5)] 118 [.int q13.1] from z24 _ rfl (nb_X3_doubtItem E f R)
        intro q13 hq13 nq13
        have hv := gk_q hv hq13
        clear hq13
        have nz : narrow .boolean (.int (q13.1)) = .int (q13.1) := nq13; exact z_zret_W hQ rfl nz rfl rfl ⟨(q13.1, q13.2.1, q13.2.2, []), hv _ rfl, rfl, nz, rfl⟩ dX3_item_118
      have hp := ip_f hp c14
      have hv := gt_f hv c14
      refine z_lookup (tgt := 119) dX3_item_67 (by decide) (look_c c11 rfl (look_c c14 rfl look_n)) (by decide) ?_
      refine z_aload_n dX3_item_119 rfl ?_
      refine z_iload_n dX3_item_120 rfl ?_
      refine z_aload_n dX3_item_121 rfl ?_
      have q15 := hp
      refine z_ctviD (T := cmL ([])) (R0 := pick (re2W G a q E ++ ltW G q f ++ rdW G b R) []) (W1 := re2W G a q (((v_X3_settingItem E f R v3).2).1) ++ ltW G q f ++ rdW G b (((v_X3_settingItem E f R v3).2).2)) hw (fun sz => c_X3_settingItem G P a q b sz E f R v3 q15) [0, 1, 2, 3, 4, 5, 6, 7] [] [0, 1, 2, 3, 4, 5, 6, 7] 8 (by decide +kernel) rfl rfl rfl rfl rfl zc_X3_settingItem zv_X3_settingItem tw_m_RX3_84 (zrec_of wr_P 0 rfl rfl) (zroom_of rfl) rfl (Nat.le_of_ble_eq_true rfl) dX3_item_122 ?_
      suffices z25 : ∀ q16 : Int32 × e2T × rT, q16 = (v_X3_settingItem E f R v3) → narrow .boolean (.int q16.1) = .int q16.1 → Z k_X3_item G Γ (wr G A Γ.2.2.1.1.heap (re2W G a q q16.2.1 ++ ltW G q f ++ rdW G b q16.2.2 ++ cmL ([]))) 0 0 [(0, .ref (a 0)), (1, .ref (b 0)), (2, .int v2), (3, .int v3), (4, .ref (G.2.2.2 (10 + v4))), (5, .int v5)] 125 [.int q16.1] from z25 _ rfl (nb_X3_settingItem E f R v3)
      intro q16 hq16 nq16
      have hv := gk_q hv hq16
      clear hq16
      have nz : narrow .boolean (.int (q16.1)) = .int (q16.1) := nq16; exact z_zret_W hQ rfl nz rfl rfl ⟨(q16.1, q16.2.1, q16.2.2, []), hv _ rfl, rfl, nz, rfl⟩ dX3_item_125
    · have hp := ip_f hp c5; have hv := gt_f hv c5
      refine z_aload_n dX3_item_44 rfl ?_
      refine z_aload dX3_item_45 rfl ?_
      refine z_iload dX3_item_47 rfl ?_
      obtain ⟨q17, hp⟩ := hp
      skip
      obtain ⟨q18, hp⟩ := hp
      skip
      obtain ⟨q19, hp⟩ := hp
      skip
      refine z_cviO (c_J0_charAt_5068e G P v4 v5 hv4 q17 q18 q19) zc_J0_charAt_5068e zv_J0_charAt_5068e tw_m_RX3_69 (str_O (wr_G hw) hv4) (fr_N (fr_all wr_P (wr_G hw))) (zroom_of rfl) rfl (Nat.le_of_ble_eq_true rfl) dX3_item_49 ?_
      obtain ⟨q20, hp⟩ := hp
      refine z_ctviD (T := cmL ([])) (R0 := pick (re2W G a q E ++ ltW G q f ++ rdW G b R) [3, 4, 5, 6, 7]) (W1 := re2W G a q ((v_X3_sign E f (v_str v4 v5)).2) ++ ltW G q f ++ rdW G b R) hw (fun sz => c_X3_sign G P a q sz E f (v_str v4 v5) q20) [0, 1, 2] [3, 4, 5, 6, 7] [5, 6, 7, 0, 1, 2, 3, 4] 8 (by decide +kernel) rfl rfl rfl rfl rfl zc_X3_sign zv_X3_sign tw_m_RX3_45 (zrec_of wr_P 0 rfl rfl) (zroom_of rfl) rfl (Nat.le_of_ble_eq_true rfl) dX3_item_52 ?_
      suffices z26 : ∀ q21 : Int32 × e2T, q21 = (v_X3_sign E f (v_str v4 v5)) → narrow .boolean (.int q21.1) = .int q21.1 → Z k_X3_item G Γ (wr G A Γ.2.2.1.1.heap (re2W G a q q21.2 ++ ltW G q f ++ rdW G b R ++ cmL ([]))) 0 0 [(0, .ref (a 0)), (1, .ref (b 0)), (2, .int v2), (3, .int v3), (4, .ref (G.2.2.2 (10 + v4))), (5, .int v5)] 55 [.int q21.1] from z26 _ rfl (nb_X3_sign E f (v_str v4 v5))
      intro q21 hq21 nq21
      have hp := kk_pq hp hq21
      have hv := gk_q hv hq21
      clear hq21
      refine z_if_ne (tgt := 60) dX3_item_55 (by decide) (fun c22 => ?_) (fun c22 => ?_)
      · have hp := ip_f hp c22; have hv := gt_f hv c22
        refine z_iinc (v := v5 + 1) (lv' := [(5, .int (v5 + 1)), (0, .ref (a 0)), (1, .ref (b 0)), (2, .int v2), (3, .int v3), (4, .ref (G.2.2.2 (10 + v4)))]) dX3_item_60 5 rfl rfl (Nat.le_of_ble_eq_true rfl) rfl ?_
        refine z_goto (tgt := 34) dX3_item_63 (by decide) ?_
        exact z_lv rfl ((ih) q21.2 R v2 v3 v4 (v5 + 1) hv4 hp hv)
      · have hp := ip_t hp c22; have hv := gt_t hv c22
        refine z_iconst (v := 0) dX3_item_58 rfl ?_
        have nz : narrow .boolean (.int (0)) = .int (0) := rfl; exact z_zret_W hQ rfl nz rfl rfl ⟨(0, q21.2, R, []), hv _ rfl, rfl, nz, rfl⟩ dX3_item_59
set_option maxHeartbeats 800000 in
theorem c_X3_item {l : Launch} (G : zG) (P : pT) (a : Nat → Nat) (q : Nat) (b : Nat → Nat) (sz : Nat) (E : e2T) (f : (Nat → Int64)) (R : rT) (hp : p_X3_item E f R) : Met l yX3_item (.code yX3_item k_X3_item.1 k_X3_item.2.1 k_X3_item.2.2.2.1 :: TS) k_X3_item.2.2.2.2 (Pz G [.ref (a 0), .ref (b 0)] (Fw G (gX G P) (re2W G a q E ++ ltW G q f ++ rdW G b R) sz)) (Qwi G (fun r w => ∃ res : Int32 × e2T × rT × LL, g_X3_item E f R res ∧ r = res.1 ∧ narrow .boolean (.int res.1) = .int res.1 ∧ w = re2W G a q res.2.1 ++ ltW G q f ++ rdW G b res.2.2.1 ++ cmL res.2.2.2) (va_A (re2W G a q E ++ ltW G q f ++ rdW G b R) sz)) 1 5 (va_A (re2W G a q E ++ ltW G q f ++ rdW G b R) sz) := by
  refine zmet (K := k_X3_item) (by decide +kernel) rfl rfl (fun Γ hl0 hQ hN hF => ?_)
  refine z_start (gX_ok G P) hF (fun hw => ?_)
  generalize va_A (re2W G a q E ++ ltW G q f ++ rdW G b R) sz = A at hQ hw ⊢
  obtain ⟨G0, hG0⟩ : ∃ G0, G0 = g_X3_item E f R := ⟨_, rfl⟩
  rw [← hG0] at hQ
  have hv : ∀ res, g_X3_item E f R res → G0 res := fun _ h => by rw [hG0]; exact h
  clear hG0
  unfold g_X3_item at hv
  unfold p_X3_item at hp
  refine z_nil ?_
  show Z k_X3_item G Γ _ 0 0 [(0, .ref (a 0)), (1, .ref (b 0))] 0 []
  refine z_aload_n dX3_item_0 rfl ?_
  refine z_get (v := .int (E.1 5)) wr_P 0 rfl rfl uin_X3 5 (Nat.le_of_ble_eq_true rfl) tw_f_RX3_29 rfl rfl dX3_item_1 ?_
  refine z_istore_n (lv' := [(2, .int (E.1 5)), (0, .ref (a 0)), (1, .ref (b 0))]) dX3_item_4 (Nat.le_of_ble_eq_true rfl) rfl ?_
  refine z_aload_n dX3_item_5 rfl ?_
  refine z_iload_n dX3_item_6 rfl ?_
  obtain ⟨q1, hp⟩ := hp
  refine z_cvi (c_X3_letter G P a q E f (E.1 5) q1) zc_X3_letter zv_X3_letter tw_m_RX3_52 (zrec_of wr_P 0 rfl rfl) (fr_all (sub_P wr_P [0, 1, 2] rfl) (wr_G hw)) (zroom_of rfl) rfl (Nat.le_of_ble_eq_true rfl) dX3_item_7 ?_
  refine z_istore_n (lv' := [(3, .int (v_X3_letter E f (E.1 5))), (2, .int (E.1 5)), (0, .ref (a 0)), (1, .ref (b 0))]) dX3_item_10 (Nat.le_of_ble_eq_true rfl) rfl ?_
  refine z_iload_n dX3_item_11 rfl ?_
  refine z_csq (c_X3_wordFrom G P (v_X3_letter E f (E.1 5)) ) zc_X3_wordFrom tw_st_yX3_wordFrom tw_m_RX3_56 (fr_all (sub_P wr_P [] rfl) (wr_G hw)) (zroom_of rfl) rfl (Nat.le_of_ble_eq_true rfl) dX3_item_12 ?_
  suffices z27 : ∀ r2 : Nat, r2 = (v_X3_wordFrom (v_X3_letter E f (E.1 5))) → r2 < 7 → Z k_X3_item G Γ (wr G A Γ.2.2.1.1.heap (re2W G a q E ++ ltW G q f ++ rdW G b R ++ cmL ([]))) 0 0 [(3, .int (v_X3_letter E f (E.1 5))), (2, .int (E.1 5)), (0, .ref (a 0)), (1, .ref (b 0))] 15 [.ref (G.2.2.2 (10 + r2))] from z27 _ rfl (wordFrom_lt (v_X3_letter E f (E.1 5)))
  intro r2 hr2 nr2
  have hp := kk_pq hp hr2
  have hv := gk_q hv hr2
  clear hr2
  refine z_astore (lv' := [(4, .ref (G.2.2.2 (10 + r2))), (3, .int (v_X3_letter E f (E.1 5))), (2, .int (E.1 5)), (0, .ref (a 0)), (1, .ref (b 0))]) dX3_item_15 (Nat.le_of_ble_eq_true rfl) rfl ?_
  refine z_aload dX3_item_17 rfl ?_
  refine z_cviO (c_J0_isEmpty_aae02 G P r2 nr2) zc_J0_isEmpty_aae02 zv_J0_isEmpty_aae02 tw_m_RX3_60 (str_O (wr_G hw) nr2) (fr_N (fr_all wr_P (wr_G hw))) (zroom_of rfl) rfl (Nat.le_of_ble_eq_true rfl) dX3_item_19 ?_
  refine z_if_eq (tgt := 31) dX3_item_22 (by decide) (fun c3 => ?_) (fun c3 => ?_)
  · have hp := ip_t hp c3; have hv := gt_t hv c3
    refine z_iconst (v := 0) dX3_item_31 rfl ?_
    refine z_istore (lv' := [(5, .int 0), (4, .ref (G.2.2.2 (10 + r2))), (3, .int (v_X3_letter E f (E.1 5))), (2, .int (E.1 5)), (0, .ref (a 0)), (1, .ref (b 0))]) dX3_item_32 (Nat.le_of_ble_eq_true rfl) rfl ?_
    exact z_lv rfl ((w_X3_item a q b f hw hQ 200) E R (E.1 5) (v_X3_letter E f (E.1 5)) r2 0 nr2 hp hv)
  · have hp := ip_f hp c3; have hv := gt_f hv c3
    refine z_aload_n dX3_item_25 rfl ?_
    refine z_iload_n dX3_item_26 rfl ?_
    refine z_ctviD (T := cmL ([])) (R0 := pick (re2W G a q E ++ ltW G q f ++ rdW G b R) [2, 3, 4, 5, 6, 7]) (W1 := re2W G a q ((v_X3_fail E (E.1 5)).2) ++ ltW G q f ++ rdW G b R) hw (fun sz => c_X3_fail G P a q sz E (E.1 5) ) [0, 1] [2, 3, 4, 5, 6, 7] [6, 7, 0, 1, 2, 3, 4, 5] 8 (by decide +kernel) rfl rfl rfl rfl rfl zc_X3_fail zv_X3_fail tw_m_RX3_49 (zrec_of wr_P 0 rfl rfl) (zroom_of rfl) rfl (Nat.le_of_ble_eq_true rfl) dX3_item_27 ?_
    suffices z28 : ∀ q4 : Int32 × e2T, q4 = (v_X3_fail E (E.1 5)) → narrow .boolean (.int q4.1) = .int q4.1 → Z k_X3_item G Γ (wr G A Γ.2.2.1.1.heap (re2W G a q q4.2 ++ ltW G q f ++ rdW G b R ++ cmL ([]))) 0 0 [(4, .ref (G.2.2.2 (10 + r2))), (3, .int (v_X3_letter E f (E.1 5))), (2, .int (E.1 5)), (0, .ref (a 0)), (1, .ref (b 0))] 30 [.int q4.1] from z28 _ rfl (nb_X3_fail E (E.1 5))
    intro q4 hq4 nq4
    have hv := gk_q hv hq4
    clear hq4
    have nz : narrow .boolean (.int (q4.1)) = .int (q4.1) := nq4; exact z_zret_W hQ rfl nz rfl rfl ⟨(q4.1, q4.2, R, []), hv _ rfl, rfl, nz, rfl⟩ dX3_item_30
theorem dX3_readAll_0 : decode cX3_readAll 0 = .ok (.aload_n 0, 1) := by decide +kernel
theorem dX3_readAll_1 : decode cX3_readAll 1 = .ok (.aload_n 1, 1) := by decide +kernel
theorem dX3_readAll_2 : decode cX3_readAll 2 = .ok (.getfield 35, 3) := by decide +kernel
theorem dX3_readAll_5 : decode cX3_readAll 5 = .ok (.putfield 22, 3) := by decide +kernel
theorem dX3_readAll_8 : decode cX3_readAll 8 = .ok (.aload_n 0, 1) := by decide +kernel
theorem dX3_readAll_9 : decode cX3_readAll 9 = .ok (.aload_n 1, 1) := by decide +kernel
theorem dX3_readAll_10 : decode cX3_readAll 10 = .ok (.getfield 40, 3) := by decide +kernel
theorem dX3_readAll_13 : decode cX3_readAll 13 = .ok (.putfield 26, 3) := by decide +kernel
theorem dX3_readAll_16 : decode cX3_readAll 16 = .ok (.aload_n 0, 1) := by decide +kernel
theorem dX3_readAll_17 : decode cX3_readAll 17 = .ok (.iconst 0, 1) := by decide +kernel
theorem dX3_readAll_18 : decode cX3_readAll 18 = .ok (.putfield 29, 3) := by decide +kernel
theorem dX3_readAll_21 : decode cX3_readAll 21 = .ok (.aload_n 0, 1) := by decide +kernel
theorem dX3_readAll_22 : decode cX3_readAll 22 = .ok (.iconst 0, 1) := by decide +kernel
theorem dX3_readAll_23 : decode cX3_readAll 23 = .ok (.putfield 19, 3) := by decide +kernel
theorem dX3_readAll_26 : decode cX3_readAll 26 = .ok (.aload_n 0, 1) := by decide +kernel
theorem dX3_readAll_27 : decode cX3_readAll 27 = .ok (.iconst (-1), 1) := by decide +kernel
theorem dX3_readAll_28 : decode cX3_readAll 28 = .ok (.putfield 15, 3) := by decide +kernel
theorem dX3_readAll_31 : decode cX3_readAll 31 = .ok (.iconst 0, 1) := by decide +kernel
theorem dX3_readAll_32 : decode cX3_readAll 32 = .ok (.istore_n 3, 1) := by decide +kernel
theorem dX3_readAll_33 : decode cX3_readAll 33 = .ok (.iload_n 3, 1) := by decide +kernel
theorem dX3_readAll_34 : decode cX3_readAll 34 = .ok (.sipush 160, 3) := by decide +kernel
theorem dX3_readAll_37 : decode cX3_readAll 37 = .ok (.if_icmp .gt 53, 3) := by decide +kernel
theorem dX3_readAll_40 : decode cX3_readAll 40 = .ok (.aload_n 0, 1) := by decide +kernel
theorem dX3_readAll_41 : decode cX3_readAll 41 = .ok (.aload_n 2, 1) := by decide +kernel
theorem dX3_readAll_42 : decode cX3_readAll 42 = .ok (.invokevirtual 41, 3) := by decide +kernel
theorem dX3_readAll_45 : decode cX3_readAll 45 = .ok (.ifCond .ne 5, 3) := by decide +kernel
theorem dX3_readAll_48 : decode cX3_readAll 48 = .ok (.iconst 0, 1) := by decide +kernel
theorem dX3_readAll_49 : decode cX3_readAll 49 = .ok (.ireturn, 1) := by decide +kernel
theorem dX3_readAll_50 : decode cX3_readAll 50 = .ok (.aload_n 0, 1) := by decide +kernel
theorem dX3_readAll_51 : decode cX3_readAll 51 = .ok (.dup, 1) := by decide +kernel
theorem dX3_readAll_52 : decode cX3_readAll 52 = .ok (.getfield 19, 3) := by decide +kernel
theorem dX3_readAll_55 : decode cX3_readAll 55 = .ok (.iconst 1, 1) := by decide +kernel
theorem dX3_readAll_56 : decode cX3_readAll 56 = .ok (.iadd, 1) := by decide +kernel
theorem dX3_readAll_57 : decode cX3_readAll 57 = .ok (.putfield 19, 3) := by decide +kernel
theorem dX3_readAll_60 : decode cX3_readAll 60 = .ok (.aload_n 0, 1) := by decide +kernel
theorem dX3_readAll_61 : decode cX3_readAll 61 = .ok (.getfield 29, 3) := by decide +kernel
theorem dX3_readAll_64 : decode cX3_readAll 64 = .ok (.aload_n 0, 1) := by decide +kernel
theorem dX3_readAll_65 : decode cX3_readAll 65 = .ok (.getfield 26, 3) := by decide +kernel
theorem dX3_readAll_68 : decode cX3_readAll 68 = .ok (.if_icmp .lt 5, 3) := by decide +kernel
theorem dX3_readAll_71 : decode cX3_readAll 71 = .ok (.iconst 1, 1) := by decide +kernel
theorem dX3_readAll_72 : decode cX3_readAll 72 = .ok (.ireturn, 1) := by decide +kernel
theorem dX3_readAll_73 : decode cX3_readAll 73 = .ok (.aload_n 0, 1) := by decide +kernel
theorem dX3_readAll_74 : decode cX3_readAll 74 = .ok (.bipush 59, 2) := by decide +kernel
theorem dX3_readAll_76 : decode cX3_readAll 76 = .ok (.invokevirtual 45, 3) := by decide +kernel
theorem dX3_readAll_79 : decode cX3_readAll 79 = .ok (.ifCond .ne 5, 3) := by decide +kernel
theorem dX3_readAll_82 : decode cX3_readAll 82 = .ok (.iconst 0, 1) := by decide +kernel
theorem dX3_readAll_83 : decode cX3_readAll 83 = .ok (.ireturn, 1) := by decide +kernel
theorem dX3_readAll_84 : decode cX3_readAll 84 = .ok (.iinc 3 1, 3) := by decide +kernel
theorem dX3_readAll_87 : decode cX3_readAll 87 = .ok (.goto (-54), 3) := by decide +kernel
theorem dX3_readAll_90 : decode cX3_readAll 90 = .ok (.aload_n 0, 1) := by decide +kernel
theorem dX3_readAll_91 : decode cX3_readAll 91 = .ok (.aload_n 0, 1) := by decide +kernel
theorem dX3_readAll_92 : decode cX3_readAll 92 = .ok (.getfield 29, 3) := by decide +kernel
theorem dX3_readAll_95 : decode cX3_readAll 95 = .ok (.invokevirtual 49, 3) := by decide +kernel
theorem dX3_readAll_98 : decode cX3_readAll 98 = .ok (.ireturn, 1) := by decide +kernel
abbrev k_X3_readAll : zK := (cX3_readAll, 4, RX3, (some .boolean), ({ frames := 5, cells := 162, slots := 810, locals := 113 } : Room))
theorem zc_X3_readAll : zcal yX3_readAll k_X3_readAll.1 k_X3_readAll.2.1 k_X3_readAll.2.2.2.1 2 := ⟨tw_code_yX3_readAll, tw_i_TollForHesitators_Reader, ⟨by decide +kernel, by decide +kernel⟩, by decide +kernel⟩
theorem zv_X3_readAll : Cond.instanceMethod yX3_readAll ∈ TS ∧ Cond.selects RX3 yX3_readAll yX3_readAll ∈ TS := ⟨tw_inst_yX3_readAll, tw_s_yX3_readAll⟩
def g_X3_readAll_r (S : sT) : Nat → e2T → rT → LL → Int32 → Int32 × e2T × rT × LL → Prop
  | 0, _, _, _, _, _ => False
  | n + 1, E, R, L, v3, res => if 160 < v3 then kk (v_X3_fail E (E.1 5)) (fun q2 : Int32 × e2T => res = (q2.1, q2.2, R, L)) else ∃ q4 : Int32 × e2T × rT × LL, g_X3_item E S.2 R q4 ∧ (if q4.1 = 0 then res = (0, q4.2.1, q4.2.2.1, L ++ q4.2.2.2) else if (q4.2.1.1 5) < (q4.2.1.1 4) then kk (v_X3_sign (e2f q4.2.1 2 ((q4.2.1.1 2) + 1)) S.2 59) (fun q8 : Int32 × e2T => if q8.1 = 0 then res = (0, q8.2, q4.2.2.1, L ++ q4.2.2.2) else g_X3_readAll_r S n q8.2 q4.2.2.1 (L ++ q4.2.2.2) (v3 + 1) res) else res = (1, e2f q4.2.1 2 ((q4.2.1.1 2) + 1), q4.2.2.1, L ++ q4.2.2.2))
def p_X3_readAll_r (S : sT) : Nat → e2T → rT → LL → Int32 → Prop
  | 0, _, _, _, _ => False
  | n + 1, E, R, L, v3 => if 160 < v3 then True else p_X3_item E S.2 R ∧ (∀ q4 : Int32 × e2T × rT × LL, g_X3_item E S.2 R q4 → (if q4.1 = 0 then True else if (q4.2.1.1 5) < (q4.2.1.1 4) then (p_X3_sign (e2f q4.2.1 2 ((q4.2.1.1 2) + 1)) S.2 59) ∧ (kk (v_X3_sign (e2f q4.2.1 2 ((q4.2.1.1 2) + 1)) S.2 59) (fun q8 : Int32 × e2T => if q8.1 = 0 then True else p_X3_readAll_r S n q8.2 q4.2.2.1 (L ++ q4.2.2.2) (v3 + 1))) else True))
def g_X3_readAll (E : e2T) (R : rT) (S : sT) (res : Int32 × e2T × rT × LL) : Prop := g_X3_readAll_r S 162 (e2f (e2f (e2f (e2f E 4 (S.1 2)) 5 0) 2 0) 1 (-1)) R ([]) 0 res
def p_X3_readAll (E : e2T) (R : rT) (S : sT) : Prop := p_X3_readAll_r S 162 (e2f (e2f (e2f (e2f E 4 (S.1 2)) 5 0) 2 0) 1 (-1)) R ([]) 0
set_option maxHeartbeats 800000 in
theorem w_X3_readAll {G : zG} {P : pT} {Γ : zT} {A : Nat → Prop} {G0 : Int32 × e2T × rT × LL → Prop} (a : Nat → Nat) (q : Nat) (b : Nat → Nat) (c : Nat → Nat) (S : sT) (hw : wk (gX G P) A Γ.2.2.1.1.heap) (hQ : zQ Γ (Qwi G (fun r w => ∃ res : Int32 × e2T × rT × LL, G0 res ∧ r = res.1 ∧ narrow .boolean (.int res.1) = .int res.1 ∧ w = re2W G a (c 1) res.2.1 ++ rdW G b res.2.2.1 ++ shW G c S ++ cmL res.2.2.2) A) 162 810 A) : ∀ n : Nat, (∀ (E : e2T) (R : rT) (L : LL) (kc : Nat) (v3 : Int32), kc + n ≤ 162 → p_X3_readAll_r S n E R L v3 → (∀ res, g_X3_readAll_r S n E R L v3 res → G0 res) → Z k_X3_readAll G Γ (wr G A Γ.2.2.1.1.heap (re2W G a (c 1) E ++ rdW G b R ++ shW G c S ++ cmL L)) kc (5 * kc) [(0, .ref (a 0)), (1, .ref (c 0)), (2, .ref (b 0)), (3, .int v3)] 33 []) := by
  intro n
  induction n with
  | zero => exact fun E R L kc v3 hkc hp => absurd hp (by rw [p_X3_readAll_r]; exact not_false)
  | succ n ih =>
    intro E R L kc v3 hkc hp hv
    rw [p_X3_readAll_r] at hp
    simp only [g_X3_readAll_r] at hv
    refine z_iload_n dX3_readAll_33 rfl ?_
    refine z_sipush (v := 160) dX3_readAll_34 rfl ?_
    refine z_icmp_gt (tgt := 90) dX3_readAll_37 (by decide) (fun c1 => ?_) (fun c1 => ?_)
    · have hp := ip_t hp c1; have hv := gt_t hv c1
      refine z_aload_n dX3_readAll_90 rfl ?_
      refine z_aload_n dX3_readAll_91 rfl ?_
      refine z_get (v := .int (E.1 5)) wr_P 0 rfl rfl uin_X3 5 (Nat.le_of_ble_eq_true rfl) tw_f_RX3_29 rfl rfl dX3_readAll_92 ?_
      refine z_ctviD (T := cmL L) (R0 := pick (re2W G a (c 1) E ++ rdW G b R ++ shW G c S) [2, 3, 4, 5, 6, 7, 8]) (W1 := re2W G a (c 1) ((v_X3_fail E (E.1 5)).2) ++ rdW G b R ++ shW G c S) hw (fun sz => c_X3_fail G P a (c 1) sz E (E.1 5) ) [0, 1] [2, 3, 4, 5, 6, 7, 8] [7, 8, 0, 1, 2, 3, 4, 5, 6] 9 (by decide +kernel) rfl rfl rfl rfl rfl zc_X3_fail zv_X3_fail tw_m_RX3_49 (zrec_of wr_P 0 rfl rfl) ⟨rfl, rfl, ⟨Nat.le_of_ble_eq_true rfl, Nat.le_of_ble_eq_true rfl⟩, ⟨by show kc + 0 ≤ 162; omega, by show 5 * kc + 0 ≤ 810; omega⟩⟩ rfl (Nat.le_of_ble_eq_true rfl) dX3_readAll_95 ?_
      suffices z10 : ∀ q2 : Int32 × e2T, q2 = (v_X3_fail E (E.1 5)) → narrow .boolean (.int q2.1) = .int q2.1 → Z k_X3_readAll G Γ (wr G A Γ.2.2.1.1.heap (re2W G a (c 1) q2.2 ++ rdW G b R ++ shW G c S ++ cmL L)) kc (5 * kc) [(0, .ref (a 0)), (1, .ref (c 0)), (2, .ref (b 0)), (3, .int v3)] 98 [.int q2.1] from z10 _ rfl (nb_X3_fail E (E.1 5))
      intro q2 hq2 nq2
      have hv := gk_q hv hq2
      clear hq2
      have nz : narrow .boolean (.int (q2.1)) = .int (q2.1) := nq2; refine z_widen (k' := 162) (n' := 810) (by omega) (by omega) ?_; exact z_zret_W hQ rfl nz rfl rfl ⟨(q2.1, q2.2, R, L), hv _ rfl, rfl, nz, rfl⟩ dX3_readAll_98
    · have hp := ip_f hp c1; have hv := gt_f hv c1
      refine z_aload_n dX3_readAll_40 rfl ?_
      refine z_aload_n dX3_readAll_41 rfl ?_
      obtain ⟨q3, hp⟩ := hp
      refine z_ctviR (T := cmL L) (R0 := pick (re2W G a (c 1) E ++ rdW G b R ++ shW G c S) [7]) (W1 := fun q4 : Int32 × e2T × rT × LL => re2W G a (c 1) q4.2.1 ++ rdW G b q4.2.2.1 ++ shW G c S) hw (fun sz => c_X3_item G P a (c 1) b sz E S.2 R q3) [0, 1, 8, 2, 3, 4, 5, 6] [7] [1, 2, 4, 5, 6, 7, 8, 0, 3] 9 (by decide +kernel) rfl rfl rfl (fun _ => rfl) (fun _ => rfl) zc_X3_item zv_X3_item tw_m_RX3_41 (zrec_of wr_P 0 rfl rfl) ⟨rfl, rfl, ⟨Nat.le_of_ble_eq_true rfl, Nat.le_of_ble_eq_true rfl⟩, ⟨by show kc + 1 ≤ 162; omega, by show 5 * kc + 5 ≤ 810; omega⟩⟩ rfl (Nat.le_of_ble_eq_true rfl) dX3_readAll_42 ?_
      intro q4 gq4 nq4
      have hp := hp q4 gq4
      have hv := ge_q (q := q4) hv gq4
      refine z_capp ?_
      refine z_if_ne (tgt := 50) dX3_readAll_45 (by decide) (fun c5 => ?_) (fun c5 => ?_)
      · have hp := ip_f hp c5; have hv := gt_f hv c5
        refine z_aload_n dX3_readAll_50 rfl ?_
        refine z_dup dX3_readAll_51 rfl ?_
        refine z_get (v := .int (q4.2.1.1 2)) wr_P 0 rfl rfl uin_X3 2 (Nat.le_of_ble_eq_true rfl) tw_f_RX3_19 rfl rfl dX3_readAll_52 ?_
        refine z_iconst (v := 1) dX3_readAll_55 rfl ?_
        refine z_iadd dX3_readAll_56 ?_
        refine z_put (fs := re2F a (c 1) q4.2.1) (v := .int ((q4.2.1.1 2) + 1)) (ws' := re2W G a (c 1) (e2f q4.2.1 2 ((q4.2.1.1 2) + 1)) ++ rdW G b q4.2.2.1 ++ shW G c S ++ cmL (L ++ q4.2.2.2)) 0 rfl rfl uin_X3 tyX3 tyX3_ok nmX3 2 (Nat.le_of_ble_eq_true rfl) tw_f_RX3_19 rfl rfl (ty := .int) rfl rfl rfl (Nat.le_of_ble_eq_true rfl) rfl dX3_readAll_57 ?_
        refine z_aload_n dX3_readAll_60 rfl ?_
        refine z_get (v := .int (q4.2.1.1 5)) wr_P 0 rfl rfl uin_X3 5 (Nat.le_of_ble_eq_true rfl) tw_f_RX3_29 rfl rfl dX3_readAll_61 ?_
        refine z_aload_n dX3_readAll_64 rfl ?_
        refine z_get (v := .int (q4.2.1.1 4)) wr_P 0 rfl rfl uin_X3 4 (Nat.le_of_ble_eq_true rfl) tw_f_RX3_26 rfl rfl dX3_readAll_65 ?_
        refine z_icmp_lt (tgt := 73) dX3_readAll_68 (by decide) (fun c6 => ?_) (fun c6 => ?_)
        · have hp := ip_t hp c6; have hv := gt_t hv c6
          refine z_aload_n dX3_readAll_73 rfl ?_
          refine z_bipush (v := 59) dX3_readAll_74 rfl ?_
          obtain ⟨q7, hp⟩ := hp
          refine z_ctviD (T := cmL (L ++ q4.2.2.2)) (R0 := pick (re2W G a (c 1) (e2f q4.2.1 2 ((q4.2.1.1 2) + 1)) ++ rdW G b q4.2.2.1 ++ shW G c S) [2, 3, 4, 5, 6, 7]) (W1 := re2W G a (c 1) ((v_X3_sign (e2f q4.2.1 2 ((q4.2.1.1 2) + 1)) S.2 59).2) ++ rdW G b q4.2.2.1 ++ shW G c S) hw (fun sz => c_X3_sign G P a (c 1) sz (e2f q4.2.1 2 ((q4.2.1.1 2) + 1)) S.2 59 q7) [0, 1, 8] [2, 3, 4, 5, 6, 7] [6, 7, 0, 1, 2, 3, 4, 5, 8] 9 (by decide +kernel) rfl rfl rfl rfl rfl zc_X3_sign zv_X3_sign tw_m_RX3_45 (zrec_of wr_P 0 rfl rfl) ⟨rfl, rfl, ⟨Nat.le_of_ble_eq_true rfl, Nat.le_of_ble_eq_true rfl⟩, ⟨by show kc + 1 + 0 ≤ 162; omega, by show 5 * kc + 5 + 0 ≤ 810; omega⟩⟩ rfl (Nat.le_of_ble_eq_true rfl) dX3_readAll_76 ?_
          suffices z11 : ∀ q8 : Int32 × e2T, q8 = (v_X3_sign (e2f q4.2.1 2 ((q4.2.1.1 2) + 1)) S.2 59) → narrow .boolean (.int q8.1) = .int q8.1 → Z k_X3_readAll G Γ (wr G A Γ.2.2.1.1.heap (re2W G a (c 1) q8.2 ++ rdW G b q4.2.2.1 ++ shW G c S ++ cmL (L ++ q4.2.2.2))) (kc + 1) (5 * kc + 5) [(0, .ref (a 0)), (1, .ref (c 0)), (2, .ref (b 0)), (3, .int v3)] 79 [.int q8.1] from z11 _ rfl (nb_X3_sign (e2f q4.2.1 2 ((q4.2.1.1 2) + 1)) S.2 59)
          intro q8 hq8 nq8
          have hp := kk_pq hp hq8
          have hv := gk_q hv hq8
          clear hq8
          refine z_if_ne (tgt := 84) dX3_readAll_79 (by decide) (fun c9 => ?_) (fun c9 => ?_)
          · have hp := ip_f hp c9; have hv := gt_f hv c9
            refine z_iinc (v := v3 + 1) (lv' := [(3, .int (v3 + 1)), (0, .ref (a 0)), (1, .ref (c 0)), (2, .ref (b 0))]) dX3_readAll_84 3 rfl rfl (Nat.le_of_ble_eq_true rfl) rfl ?_
            refine z_goto (tgt := 33) dX3_readAll_87 (by decide) ?_
            exact z_lv rfl ((ih) q8.2 q4.2.2.1 (L ++ q4.2.2.2) (kc + 1) (v3 + 1) (by omega) hp hv)
          · have hp := ip_t hp c9; have hv := gt_t hv c9
            refine z_iconst (v := 0) dX3_readAll_82 rfl ?_
            have nz : narrow .boolean (.int (0)) = .int (0) := rfl; refine z_widen (k' := 162) (n' := 810) (by omega) (by omega) ?_; exact z_zret_W hQ rfl nz rfl rfl ⟨(0, q8.2, q4.2.2.1, L ++ q4.2.2.2), hv _ rfl, rfl, nz, rfl⟩ dX3_readAll_83
        · have hp := ip_f hp c6; have hv := gt_f hv c6
          refine z_iconst (v := 1) dX3_readAll_71 rfl ?_
          have nz : narrow .boolean (.int (1)) = .int (1) := rfl; refine z_widen (k' := 162) (n' := 810) (by omega) (by omega) ?_; exact z_zret_W hQ rfl nz rfl rfl ⟨(1, e2f q4.2.1 2 ((q4.2.1.1 2) + 1), q4.2.2.1, L ++ q4.2.2.2), hv _ rfl, rfl, nz, rfl⟩ dX3_readAll_72
      · have hp := ip_t hp c5; have hv := gt_t hv c5
        refine z_iconst (v := 0) dX3_readAll_48 rfl ?_
        have nz : narrow .boolean (.int (0)) = .int (0) := rfl; refine z_widen (k' := 162) (n' := 810) (by omega) (by omega) ?_; exact z_zret_W hQ rfl nz rfl rfl ⟨(0, q4.2.1, q4.2.2.1, L ++ q4.2.2.2), hv _ rfl, rfl, nz, rfl⟩ dX3_readAll_49
set_option maxHeartbeats 800000 in
theorem c_X3_readAll {l : Launch} (G : zG) (P : pT) (a : Nat → Nat) (q : Nat) (b : Nat → Nat) (c : Nat → Nat) (sz : Nat) (E : e2T) (R : rT) (S : sT) (hp : p_X3_readAll E R S) : Met l yX3_readAll (.code yX3_readAll k_X3_readAll.1 k_X3_readAll.2.1 k_X3_readAll.2.2.2.1 :: TS) k_X3_readAll.2.2.2.2 (Pz G [.ref (a 0), .ref (c 0), .ref (b 0)] (Fw G (gX G P) (re2W G a q E ++ rdW G b R ++ shW G c S) sz)) (Qwi G (fun r w => ∃ res : Int32 × e2T × rT × LL, g_X3_readAll E R S res ∧ r = res.1 ∧ narrow .boolean (.int res.1) = .int res.1 ∧ w = re2W G a (c 1) res.2.1 ++ rdW G b res.2.2.1 ++ shW G c S ++ cmL res.2.2.2) (va_A (re2W G a q E ++ rdW G b R ++ shW G c S) sz)) 162 810 (va_A (re2W G a q E ++ rdW G b R ++ shW G c S) sz) := by
  refine zmet (K := k_X3_readAll) (by decide +kernel) rfl rfl (fun Γ hl0 hQ hN hF => ?_)
  refine z_start (gX_ok G P) hF (fun hw => ?_)
  generalize va_A (re2W G a q E ++ rdW G b R ++ shW G c S) sz = A at hQ hw ⊢
  obtain ⟨G0, hG0⟩ : ∃ G0, G0 = g_X3_readAll E R S := ⟨_, rfl⟩
  rw [← hG0] at hQ
  have hv : ∀ res, g_X3_readAll E R S res → G0 res := fun _ h => by rw [hG0]; exact h
  clear hG0
  unfold g_X3_readAll at hv
  unfold p_X3_readAll at hp
  refine z_nil ?_
  show Z k_X3_readAll G Γ _ 0 0 [(0, .ref (a 0)), (1, .ref (c 0)), (2, .ref (b 0))] 0 []
  refine z_aload_n dX3_readAll_0 rfl ?_
  refine z_aload_n dX3_readAll_1 rfl ?_
  refine z_get (v := .ref (c 1)) wr_P 7 rfl rfl uin_X5 0 (Nat.le_of_ble_eq_true rfl) tw_f_RX3_35 rfl rfl dX3_readAll_2 ?_
  refine z_put (fs := re2F a q E) (v := .ref (c 1)) (ws' := re2W G a (c 1) E ++ rdW G b R ++ shW G c S ++ cmL ([])) 0 rfl rfl uin_X3 tyX3 tyX3_ok nmX3 3 (Nat.le_of_ble_eq_true rfl) tw_f_RX3_22 rfl rfl (ty := (.array .long)) rfl rfl rfl (Nat.le_of_ble_eq_true rfl) rfl dX3_readAll_5 ?_
  refine z_aload_n dX3_readAll_8 rfl ?_
  refine z_aload_n dX3_readAll_9 rfl ?_
  refine z_get (v := .int (S.1 2)) wr_P 7 rfl rfl uin_X5 2 (Nat.le_of_ble_eq_true rfl) tw_f_RX3_40 rfl rfl dX3_readAll_10 ?_
  refine z_put (fs := re2F a (c 1) E) (v := .int (S.1 2)) (ws' := re2W G a (c 1) (e2f E 4 (S.1 2)) ++ rdW G b R ++ shW G c S ++ cmL ([])) 0 rfl rfl uin_X3 tyX3 tyX3_ok nmX3 4 (Nat.le_of_ble_eq_true rfl) tw_f_RX3_26 rfl rfl (ty := .int) rfl rfl rfl (Nat.le_of_ble_eq_true rfl) rfl dX3_readAll_13 ?_
  refine z_aload_n dX3_readAll_16 rfl ?_
  refine z_iconst (v := 0) dX3_readAll_17 rfl ?_
  refine z_put (fs := re2F a (c 1) (e2f E 4 (S.1 2))) (v := .int 0) (ws' := re2W G a (c 1) (e2f (e2f E 4 (S.1 2)) 5 0) ++ rdW G b R ++ shW G c S ++ cmL ([])) 0 rfl rfl uin_X3 tyX3 tyX3_ok nmX3 5 (Nat.le_of_ble_eq_true rfl) tw_f_RX3_29 rfl rfl (ty := .int) rfl rfl rfl (Nat.le_of_ble_eq_true rfl) rfl dX3_readAll_18 ?_
  refine z_aload_n dX3_readAll_21 rfl ?_
  refine z_iconst (v := 0) dX3_readAll_22 rfl ?_
  refine z_put (fs := re2F a (c 1) (e2f (e2f E 4 (S.1 2)) 5 0)) (v := .int 0) (ws' := re2W G a (c 1) (e2f (e2f (e2f E 4 (S.1 2)) 5 0) 2 0) ++ rdW G b R ++ shW G c S ++ cmL ([])) 0 rfl rfl uin_X3 tyX3 tyX3_ok nmX3 2 (Nat.le_of_ble_eq_true rfl) tw_f_RX3_19 rfl rfl (ty := .int) rfl rfl rfl (Nat.le_of_ble_eq_true rfl) rfl dX3_readAll_23 ?_
  refine z_aload_n dX3_readAll_26 rfl ?_
  refine z_iconst (v := (-1)) dX3_readAll_27 rfl ?_
  refine z_put (fs := re2F a (c 1) (e2f (e2f (e2f E 4 (S.1 2)) 5 0) 2 0)) (v := .int (-1)) (ws' := re2W G a (c 1) (e2f (e2f (e2f (e2f E 4 (S.1 2)) 5 0) 2 0) 1 (-1)) ++ rdW G b R ++ shW G c S ++ cmL ([])) 0 rfl rfl uin_X3 tyX3 tyX3_ok nmX3 1 (Nat.le_of_ble_eq_true rfl) tw_f_RX3_15 rfl rfl (ty := .int) rfl rfl rfl (Nat.le_of_ble_eq_true rfl) rfl dX3_readAll_28 ?_
  refine z_iconst (v := 0) dX3_readAll_31 rfl ?_
  refine z_istore_n (lv' := [(3, .int 0), (0, .ref (a 0)), (1, .ref (c 0)), (2, .ref (b 0))]) dX3_readAll_32 (Nat.le_of_ble_eq_true rfl) rfl ?_
  exact z_lv rfl ((w_X3_readAll a q b c S hw hQ 162) (e2f (e2f (e2f (e2f E 4 (S.1 2)) 5 0) 2 0) 1 (-1)) R ([]) 0 0 (by omega) hp hv)
