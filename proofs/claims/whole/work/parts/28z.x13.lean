theorem tw_m_RX6_1 : Cond.methodLink RX6 1 objectInit ∈ TS := ts_mem 88 (by decide +kernel) rfl
theorem tw_k_RX6_7 : Cond.classLink RX6 7 RX4 ∈ TS := ts_mem 91 (by decide +kernel) rfl
theorem tw_n_RX4 : Cond.instantiable RX4 11 ∈ TS := ts_mem 92 (by decide +kernel) rfl
theorem tw_inst_yX4_init : Cond.instanceMethod yX4_init ∈ TS := ts_mem 94 (by decide +kernel) rfl
theorem tw_k_RX6_22 : Cond.classLink RX6 22 RX5 ∈ TS := ts_mem 152 (by decide +kernel) rfl
theorem tw_n_RX5 : Cond.instantiable RX5 3 ∈ TS := ts_mem 154 (by decide +kernel) rfl
theorem tw_inst_yX5_init : Cond.instanceMethod yX5_init ∈ TS := ts_mem 156 (by decide +kernel) rfl
theorem tw_k_RX6_29 : Cond.classLink RX6 29 RX3 ∈ TS := ts_mem 175 (by decide +kernel) rfl
theorem tw_n_RX3 : Cond.instantiable RX3 7 ∈ TS := ts_mem 176 (by decide +kernel) rfl
theorem tw_inst_yX3_init : Cond.instanceMethod yX3_init ∈ TS := ts_mem 178 (by decide +kernel) rfl
theorem tw_k_RX6_36 : Cond.classLink RX6 36 RX2 ∈ TS := ts_mem 205 (by decide +kernel) rfl
theorem tw_n_RX2 : Cond.instantiable RX2 8 ∈ TS := ts_mem 206 (by decide +kernel) rfl
theorem tw_m_RX6_38 : Cond.methodLink RX6 38 yX2_init ∈ TS := ts_mem 207 (by decide +kernel) rfl
theorem tw_inst_yX2_init : Cond.instanceMethod yX2_init ∈ TS := ts_mem 208 (by decide +kernel) rfl
theorem tw_k_RX6_51 : Cond.classLink RX6 51 RX1 ∈ TS := ts_mem 240 (by decide +kernel) rfl
theorem tw_n_RX1 : Cond.instantiable RX1 3 ∈ TS := ts_mem 241 (by decide +kernel) rfl
theorem tw_inst_yX1_init : Cond.instanceMethod yX1_init ∈ TS := ts_mem 243 (by decide +kernel) rfl
theorem tw_code_yX6_init : Cond.code yX6_init cX6_init 2 none ∈ TS := ts_mem 87 (by decide +kernel) rfl
theorem dX6_init_0 : decode cX6_init 0 = .ok (.aload_n 0, 1) := by decide +kernel
theorem dX6_init_1 : decode cX6_init 1 = .ok (.invokespecial 1, 3) := by decide +kernel
theorem dX6_init_4 : decode cX6_init 4 = .ok (.aload_n 0, 1) := by decide +kernel
theorem dX6_init_5 : decode cX6_init 5 = .ok (.new 7, 3) := by decide +kernel
theorem dX6_init_8 : decode cX6_init 8 = .ok (.dup, 1) := by decide +kernel
theorem dX6_init_9 : decode cX6_init 9 = .ok (.invokespecial 9, 3) := by decide +kernel
theorem dX6_init_12 : decode cX6_init 12 = .ok (.putfield 10, 3) := by decide +kernel
theorem dX6_init_15 : decode cX6_init 15 = .ok (.aload_n 0, 1) := by decide +kernel
theorem dX6_init_16 : decode cX6_init 16 = .ok (.new 7, 3) := by decide +kernel
theorem dX6_init_19 : decode cX6_init 19 = .ok (.dup, 1) := by decide +kernel
theorem dX6_init_20 : decode cX6_init 20 = .ok (.invokespecial 9, 3) := by decide +kernel
theorem dX6_init_23 : decode cX6_init 23 = .ok (.putfield 16, 3) := by decide +kernel
theorem dX6_init_26 : decode cX6_init 26 = .ok (.aload_n 0, 1) := by decide +kernel
theorem dX6_init_27 : decode cX6_init 27 = .ok (.new 7, 3) := by decide +kernel
theorem dX6_init_30 : decode cX6_init 30 = .ok (.dup, 1) := by decide +kernel
theorem dX6_init_31 : decode cX6_init 31 = .ok (.invokespecial 9, 3) := by decide +kernel
theorem dX6_init_34 : decode cX6_init 34 = .ok (.putfield 19, 3) := by decide +kernel
theorem dX6_init_37 : decode cX6_init 37 = .ok (.aload_n 0, 1) := by decide +kernel
theorem dX6_init_38 : decode cX6_init 38 = .ok (.bipush 8, 2) := by decide +kernel
theorem dX6_init_40 : decode cX6_init 40 = .ok (.anewarray 22, 3) := by decide +kernel
theorem dX6_init_43 : decode cX6_init 43 = .ok (.putfield 24, 3) := by decide +kernel
theorem dX6_init_46 : decode cX6_init 46 = .ok (.iconst 0, 1) := by decide +kernel
theorem dX6_init_47 : decode cX6_init 47 = .ok (.istore_n 1, 1) := by decide +kernel
theorem dX6_init_48 : decode cX6_init 48 = .ok (.iload_n 1, 1) := by decide +kernel
theorem dX6_init_49 : decode cX6_init 49 = .ok (.aload_n 0, 1) := by decide +kernel
theorem dX6_init_50 : decode cX6_init 50 = .ok (.getfield 24, 3) := by decide +kernel
theorem dX6_init_53 : decode cX6_init 53 = .ok (.arraylength, 1) := by decide +kernel
theorem dX6_init_54 : decode cX6_init 54 = .ok (.if_icmp .ge 22, 3) := by decide +kernel
theorem dX6_init_57 : decode cX6_init 57 = .ok (.aload_n 0, 1) := by decide +kernel
theorem dX6_init_58 : decode cX6_init 58 = .ok (.getfield 24, 3) := by decide +kernel
theorem dX6_init_61 : decode cX6_init 61 = .ok (.iload_n 1, 1) := by decide +kernel
theorem dX6_init_62 : decode cX6_init 62 = .ok (.new 22, 3) := by decide +kernel
theorem dX6_init_65 : decode cX6_init 65 = .ok (.dup, 1) := by decide +kernel
theorem dX6_init_66 : decode cX6_init 66 = .ok (.invokespecial 28, 3) := by decide +kernel
theorem dX6_init_69 : decode cX6_init 69 = .ok (.aastore, 1) := by decide +kernel
theorem dX6_init_70 : decode cX6_init 70 = .ok (.iinc 1 1, 3) := by decide +kernel
theorem dX6_init_73 : decode cX6_init 73 = .ok (.goto (-25), 3) := by decide +kernel
theorem dX6_init_76 : decode cX6_init 76 = .ok (.aload_n 0, 1) := by decide +kernel
theorem dX6_init_77 : decode cX6_init 77 = .ok (.new 29, 3) := by decide +kernel
theorem dX6_init_80 : decode cX6_init 80 = .ok (.dup, 1) := by decide +kernel
theorem dX6_init_81 : decode cX6_init 81 = .ok (.invokespecial 31, 3) := by decide +kernel
theorem dX6_init_84 : decode cX6_init 84 = .ok (.putfield 32, 3) := by decide +kernel
theorem dX6_init_87 : decode cX6_init 87 = .ok (.aload_n 0, 1) := by decide +kernel
theorem dX6_init_88 : decode cX6_init 88 = .ok (.new 36, 3) := by decide +kernel
theorem dX6_init_91 : decode cX6_init 91 = .ok (.dup, 1) := by decide +kernel
theorem dX6_init_92 : decode cX6_init 92 = .ok (.aload_n 0, 1) := by decide +kernel
theorem dX6_init_93 : decode cX6_init 93 = .ok (.getfield 10, 3) := by decide +kernel
theorem dX6_init_96 : decode cX6_init 96 = .ok (.invokespecial 38, 3) := by decide +kernel
theorem dX6_init_99 : decode cX6_init 99 = .ok (.putfield 41, 3) := by decide +kernel
theorem dX6_init_102 : decode cX6_init 102 = .ok (.aload_n 0, 1) := by decide +kernel
theorem dX6_init_103 : decode cX6_init 103 = .ok (.new 36, 3) := by decide +kernel
theorem dX6_init_106 : decode cX6_init 106 = .ok (.dup, 1) := by decide +kernel
theorem dX6_init_107 : decode cX6_init 107 = .ok (.aload_n 0, 1) := by decide +kernel
theorem dX6_init_108 : decode cX6_init 108 = .ok (.getfield 10, 3) := by decide +kernel
theorem dX6_init_111 : decode cX6_init 111 = .ok (.invokespecial 38, 3) := by decide +kernel
theorem dX6_init_114 : decode cX6_init 114 = .ok (.putfield 45, 3) := by decide +kernel
theorem dX6_init_117 : decode cX6_init 117 = .ok (.aload_n 0, 1) := by decide +kernel
theorem dX6_init_118 : decode cX6_init 118 = .ok (.new 36, 3) := by decide +kernel
theorem dX6_init_121 : decode cX6_init 121 = .ok (.dup, 1) := by decide +kernel
theorem dX6_init_122 : decode cX6_init 122 = .ok (.aload_n 0, 1) := by decide +kernel
theorem dX6_init_123 : decode cX6_init 123 = .ok (.getfield 10, 3) := by decide +kernel
theorem dX6_init_126 : decode cX6_init 126 = .ok (.invokespecial 38, 3) := by decide +kernel
theorem dX6_init_129 : decode cX6_init 129 = .ok (.putfield 48, 3) := by decide +kernel
theorem dX6_init_132 : decode cX6_init 132 = .ok (.aload_n 0, 1) := by decide +kernel
theorem dX6_init_133 : decode cX6_init 133 = .ok (.new 51, 3) := by decide +kernel
theorem dX6_init_136 : decode cX6_init 136 = .ok (.dup, 1) := by decide +kernel
theorem dX6_init_137 : decode cX6_init 137 = .ok (.invokespecial 53, 3) := by decide +kernel
theorem dX6_init_140 : decode cX6_init 140 = .ok (.putfield 54, 3) := by decide +kernel
theorem dX6_init_143 : decode cX6_init 143 = .ok (.aload_n 0, 1) := by decide +kernel
theorem dX6_init_144 : decode cX6_init 144 = .ok (.bipush 8, 2) := by decide +kernel
theorem dX6_init_146 : decode cX6_init 146 = .ok (.newarray .int, 2) := by decide +kernel
theorem dX6_init_148 : decode cX6_init 148 = .ok (.putfield 58, 3) := by decide +kernel
theorem dX6_init_151 : decode cX6_init 151 = .ok (.aload_n 0, 1) := by decide +kernel
theorem dX6_init_152 : decode cX6_init 152 = .ok (.iconst (-1), 1) := by decide +kernel
theorem dX6_init_153 : decode cX6_init 153 = .ok (.putfield 62, 3) := by decide +kernel
theorem dX6_init_156 : decode cX6_init 156 = .ok (.return_, 1) := by decide +kernel
abbrev k_X6_init : zK := (cX6_init, 2, RX6, none, ({ frames := 2, cells := 47, slots := 1539, locals := 33 } : Room))
theorem zc_X6_init : zcal yX6_init k_X6_init.1 k_X6_init.2.1 k_X6_init.2.2.2.1 0 := ⟨tw_code_yX6_init, tw_i_TollForHesitators, ⟨by decide +kernel, by decide +kernel⟩, by decide +kernel⟩
def F0_X6_init : Nat → Value := fun j => ([.null, .null, .null, .null, .null, .null, .null, .null, .null, .null, .int 0, .int 0] : List Value).getD j .null
set_option maxRecDepth 8000 in
set_option maxHeartbeats 40000000 in
theorem c_X6_init {l : Launch} (G : zG) (P : pT) (q : Nat) (sz : Nat) : Met l yX6_init (.code yX6_init k_X6_init.1 k_X6_init.2.1 k_X6_init.2.2.2.1 :: TS) k_X6_init.2.2.2.2 (Pz G [.ref q] (Fw G (gX G P) ([(q, .inr (6, [.null, .null, .null, .null, .null, .null, .null, .null, .null, .null, .int 0, .int 0]))]) sz)) (Qwv G (fun w => ∃ (a : Nat → Nat) (b : Nat), a 0 = q ∧ w = maW G a nI0 ++ rdW G (sh a 10) rI ++ rdW G (sh a 15) rI ++ rdW G (sh a 20) rI ++ re2W G (sh a 50) b eI ++ orW G (sh a 60) (sh a 10) oI ++ orW G (sh a 63) (sh a 10) oI ++ orW G (sh a 66) (sh a 10) oI ++ mvW G (sh a 70) vI ++ faW G a (fun _ => sI)) (va_A ([(q, .inr (6, [.null, .null, .null, .null, .null, .null, .null, .null, .null, .null, .int 0, .int 0]))]) sz)) 47 1539 (va_A ([(q, .inr (6, [.null, .null, .null, .null, .null, .null, .null, .null, .null, .null, .int 0, .int 0]))]) sz) := by
  refine zmet (K := k_X6_init) (by decide +kernel) rfl rfl (fun Γ hl0 hQ hN hF => ?_)
  refine z_start (gX_ok G P) hF (fun hw => ?_)
  generalize va_A ([(q, .inr (6, [.null, .null, .null, .null, .null, .null, .null, .null, .null, .null, .int 0, .int 0]))]) sz = A at hQ hw ⊢
  show Z k_X6_init G Γ _ 0 0 [(0, .ref q)] 0 []
  refine z_eqw (ws' := (q, .inr (6, fl 12 F0_X6_init)) :: []) rfl ?_
  refine z_aload_n dX6_init_0 rfl ?_
  refine z_objinit tw_m_RX6_1 tw_inst_objectInit tw_objcode ⟨Nat.le_of_ble_eq_true rfl, Nat.le_of_ble_eq_true rfl⟩ dX6_init_1 ?_
  refine z_aload_n dX6_init_4 rfl ?_
  refine z_new (ci := 4) (fs := [.null, .null, .null, .null, .int 0, .int 0, .int 0, .int 0, .int 0, .int 0, .int 0]) hw rfl uin_X4 tyX4 tyX4_ok tw_k_RX6_7 tw_n_RX4 tw_i_TollForHesitators_Road (fun j hj => by rcases (show j = 0 ∨ j = 1 ∨ j = 2 ∨ j = 3 ∨ j = 4 ∨ j = 5 ∨ j = 6 ∨ j = 7 ∨ j = 8 ∨ j = 9 ∨ j = 10 by omega) with rfl | rfl | rfl | rfl | rfl | rfl | rfl | rfl | rfl | rfl | rfl <;> rfl) (Nat.le_of_ble_eq_true rfl) (Nat.le_of_ble_eq_true rfl) dX6_init_5 (fun q1 => ?_)
  refine z_dup dX6_init_8 rfl ?_
  refine z_cinitN (host := RX6) (K := k_X6_init) (index := 9) (st := [.ref q1, .ref q]) hw (fun sz => c_X4_init G P q1 sz) zc_X4_init ⟨rfl, tw_inst_yX4_init⟩ (by decide +kernel) (zroom_of rfl) rfl (Nat.le_of_ble_eq_true rfl) dX6_init_9 (fun w1 hw1 => ?_)
  obtain ⟨b2, b20, hw1⟩ := hw1
  rw [show w1 = rdW G b2 rI from hw1]; clear hw1
  subst b20
  refine z_putFU (v := .ref (b2 0)) hN rfl uin_X6 tyX6 tyX6_ok nmX6 0 (Nat.le_of_ble_eq_true rfl) tw_f_RX6_10 rfl rfl rfl (ty := (.object RX4)) rfl rfl rfl dX6_init_12 ?_
  refine z_aload_n dX6_init_15 rfl ?_
  refine z_new (ci := 4) (fs := [.null, .null, .null, .null, .int 0, .int 0, .int 0, .int 0, .int 0, .int 0, .int 0]) hw rfl uin_X4 tyX4 tyX4_ok tw_k_RX6_7 tw_n_RX4 tw_i_TollForHesitators_Road (fun j hj => by rcases (show j = 0 ∨ j = 1 ∨ j = 2 ∨ j = 3 ∨ j = 4 ∨ j = 5 ∨ j = 6 ∨ j = 7 ∨ j = 8 ∨ j = 9 ∨ j = 10 by omega) with rfl | rfl | rfl | rfl | rfl | rfl | rfl | rfl | rfl | rfl | rfl <;> rfl) (Nat.le_of_ble_eq_true rfl) (Nat.le_of_ble_eq_true rfl) dX6_init_16 (fun q3 => ?_)
  refine z_dup dX6_init_19 rfl ?_
  refine z_cinitN (host := RX6) (K := k_X6_init) (index := 9) (st := [.ref q3, .ref q]) hw (fun sz => c_X4_init G P q3 sz) zc_X4_init ⟨rfl, tw_inst_yX4_init⟩ (by decide +kernel) (zroom_of rfl) rfl (Nat.le_of_ble_eq_true rfl) dX6_init_20 (fun w1 hw1 => ?_)
  obtain ⟨b4, b40, hw1⟩ := hw1
  rw [show w1 = rdW G b4 rI from hw1]; clear hw1
  subst b40
  refine z_putFU (v := .ref (b4 0)) hN rfl uin_X6 tyX6 tyX6_ok nmX6 1 (Nat.le_of_ble_eq_true rfl) tw_f_RX6_16 rfl rfl rfl (ty := (.object RX4)) rfl rfl rfl dX6_init_23 ?_
  refine z_aload_n dX6_init_26 rfl ?_
  refine z_new (ci := 4) (fs := [.null, .null, .null, .null, .int 0, .int 0, .int 0, .int 0, .int 0, .int 0, .int 0]) hw rfl uin_X4 tyX4 tyX4_ok tw_k_RX6_7 tw_n_RX4 tw_i_TollForHesitators_Road (fun j hj => by rcases (show j = 0 ∨ j = 1 ∨ j = 2 ∨ j = 3 ∨ j = 4 ∨ j = 5 ∨ j = 6 ∨ j = 7 ∨ j = 8 ∨ j = 9 ∨ j = 10 by omega) with rfl | rfl | rfl | rfl | rfl | rfl | rfl | rfl | rfl | rfl | rfl <;> rfl) (Nat.le_of_ble_eq_true rfl) (Nat.le_of_ble_eq_true rfl) dX6_init_27 (fun q5 => ?_)
  refine z_dup dX6_init_30 rfl ?_
  refine z_cinitN (host := RX6) (K := k_X6_init) (index := 9) (st := [.ref q5, .ref q]) hw (fun sz => c_X4_init G P q5 sz) zc_X4_init ⟨rfl, tw_inst_yX4_init⟩ (by decide +kernel) (zroom_of rfl) rfl (Nat.le_of_ble_eq_true rfl) dX6_init_31 (fun w1 hw1 => ?_)
  obtain ⟨b6, b60, hw1⟩ := hw1
  rw [show w1 = rdW G b6 rI from hw1]; clear hw1
  subst b60
  refine z_putFU (v := .ref (b6 0)) hN rfl uin_X6 tyX6 tyX6_ok nmX6 2 (Nat.le_of_ble_eq_true rfl) tw_f_RX6_19 rfl rfl rfl (ty := (.object RX4)) rfl rfl rfl dX6_init_34 ?_
  refine z_aload_n dX6_init_37 rfl ?_
  refine z_bipush (v := 8) dX6_init_38 rfl ?_
  refine z_newq (N := 8) 3 (fun _ => rfl) (fun U h => h.2.2.1.2) hw tw_k_RX6_22 (by decide) (by decide) (by decide) (Nat.le_of_ble_eq_true rfl) (Nat.le_of_ble_eq_true rfl) dX6_init_40 (fun a7 => ?_)
  refine z_putFU (v := .ref a7) hN rfl uin_X6 tyX6 tyX6_ok nmX6 3 (Nat.le_of_ble_eq_true rfl) tw_f_RX6_24 rfl rfl rfl (ty := (.array (.object RX5))) rfl rfl rfl dX6_init_43 ?_
  refine z_iconst (v := 0) dX6_init_46 rfl ?_
  refine z_istore_n (lv' := [(1, .int 0), (0, .ref q)]) dX6_init_47 (Nat.le_of_ble_eq_true rfl) rfl ?_
  refine z_iload_n dX6_init_48 rfl ?_
  refine z_aload_n dX6_init_49 rfl ?_
  refine z_getU (v := .ref a7) (f := (va_up (va_up (va_up (va_up F0_X6_init 0 (.ref (b2 0))) 1 (.ref (b4 0))) 2 (.ref (b6 0))) 3 (.ref a7))) rfl rfl uin_X6 3 (Nat.le_of_ble_eq_true rfl) tw_f_RX6_24 rfl rfl dX6_init_50 ?_
  refine z_alen (cA := G.2.2.1 0) (v := 8) 3 (fun _ => rfl) wr_P 16 rfl rfl dX6_init_53 ?_
  refine z_icmp_ge (tgt := 76) dX6_init_54 (by decide) (fun c => absurd c (by decide)) (fun _ => ?_)
  refine z_aload_n dX6_init_57 rfl ?_
  refine z_getU (v := .ref a7) (f := (va_up (va_up (va_up (va_up F0_X6_init 0 (.ref (b2 0))) 1 (.ref (b4 0))) 2 (.ref (b6 0))) 3 (.ref a7))) rfl rfl uin_X6 3 (Nat.le_of_ble_eq_true rfl) tw_f_RX6_24 rfl rfl dX6_init_58 ?_
  refine z_iload_n dX6_init_61 rfl ?_
  refine z_new (ci := 5) (fs := [.null, .int 0, .int 0]) hw rfl uin_X5 tyX5 tyX5_ok tw_k_RX6_22 tw_n_RX5 tw_i_TollForHesitators_Shelf (fun j hj => by rcases (show j = 0 ∨ j = 1 ∨ j = 2 by omega) with rfl | rfl | rfl <;> rfl) (Nat.le_of_ble_eq_true rfl) (Nat.le_of_ble_eq_true rfl) dX6_init_62 (fun q8 => ?_)
  refine z_dup dX6_init_65 rfl ?_
  refine z_cinitN (host := RX6) (K := k_X6_init) (index := 28) (st := [.ref q8, .int 0, .ref a7]) hw (fun sz => c_X5_init G P q8 sz) zc_X5_init ⟨rfl, tw_inst_yX5_init⟩ (by decide +kernel) (zroom_of rfl) rfl (Nat.le_of_ble_eq_true rfl) dX6_init_66 (fun w1 hw1 => ?_)
  obtain ⟨b9, b90, hw1⟩ := hw1
  rw [show w1 = shW G b9 sI from hw1]; clear hw1
  subst b90
  refine z_aastn (F := va_up (fun _ => none) 0 (some (b9 0))) (ws' := (q, .inr (6, fl 12 (va_up (va_up (va_up (va_up F0_X6_init 0 (.ref (b2 0))) 1 (.ref (b4 0))) 2 (.ref (b6 0))) 3 (.ref a7)))) :: (rdW G b2 rI ++ rdW G b4 rI ++ rdW G b6 rI ++ [(a7, .inl (G.2.2.1 3, 8, .inr (.inr (.inr (.inr (va_up (fun _ => none) 0 (some (b9 0))))))))] ++ shW G b9 sI)) 3 (fun _ => rfl) rfl 16 rfl (vin rfl) 17 rfl rfl rfl dX6_init_69 ?_
  refine z_iinc (v := 1) (lv' := [(1, .int 1), (0, .ref q)]) dX6_init_70 0 rfl (by decide) (Nat.le_of_ble_eq_true rfl) rfl ?_
  refine z_goto (tgt := 48) dX6_init_73 (by decide) ?_
  refine z_iload_n dX6_init_48 rfl ?_
  refine z_aload_n dX6_init_49 rfl ?_
  refine z_getU (v := .ref a7) (f := (va_up (va_up (va_up (va_up F0_X6_init 0 (.ref (b2 0))) 1 (.ref (b4 0))) 2 (.ref (b6 0))) 3 (.ref a7))) rfl rfl uin_X6 3 (Nat.le_of_ble_eq_true rfl) tw_f_RX6_24 rfl rfl dX6_init_50 ?_
  refine z_alen (cA := G.2.2.1 0) (v := 8) 3 (fun _ => rfl) wr_P 16 rfl rfl dX6_init_53 ?_
  refine z_icmp_ge (tgt := 76) dX6_init_54 (by decide) (fun c => absurd c (by decide)) (fun _ => ?_)
  refine z_aload_n dX6_init_57 rfl ?_
  refine z_getU (v := .ref a7) (f := (va_up (va_up (va_up (va_up F0_X6_init 0 (.ref (b2 0))) 1 (.ref (b4 0))) 2 (.ref (b6 0))) 3 (.ref a7))) rfl rfl uin_X6 3 (Nat.le_of_ble_eq_true rfl) tw_f_RX6_24 rfl rfl dX6_init_58 ?_
  refine z_iload_n dX6_init_61 rfl ?_
  refine z_new (ci := 5) (fs := [.null, .int 0, .int 0]) hw rfl uin_X5 tyX5 tyX5_ok tw_k_RX6_22 tw_n_RX5 tw_i_TollForHesitators_Shelf (fun j hj => by rcases (show j = 0 ∨ j = 1 ∨ j = 2 by omega) with rfl | rfl | rfl <;> rfl) (Nat.le_of_ble_eq_true rfl) (Nat.le_of_ble_eq_true rfl) dX6_init_62 (fun q10 => ?_)
  refine z_dup dX6_init_65 rfl ?_
  refine z_cinitN (host := RX6) (K := k_X6_init) (index := 28) (st := [.ref q10, .int 1, .ref a7]) hw (fun sz => c_X5_init G P q10 sz) zc_X5_init ⟨rfl, tw_inst_yX5_init⟩ (by decide +kernel) (zroom_of rfl) rfl (Nat.le_of_ble_eq_true rfl) dX6_init_66 (fun w1 hw1 => ?_)
  obtain ⟨b11, b110, hw1⟩ := hw1
  rw [show w1 = shW G b11 sI from hw1]; clear hw1
  subst b110
  refine z_aastn (F := va_up (va_up (fun _ => none) 0 (some (b9 0))) 1 (some (b11 0))) (ws' := (q, .inr (6, fl 12 (va_up (va_up (va_up (va_up F0_X6_init 0 (.ref (b2 0))) 1 (.ref (b4 0))) 2 (.ref (b6 0))) 3 (.ref a7)))) :: (rdW G b2 rI ++ rdW G b4 rI ++ rdW G b6 rI ++ [(a7, .inl (G.2.2.1 3, 8, .inr (.inr (.inr (.inr (va_up (va_up (fun _ => none) 0 (some (b9 0))) 1 (some (b11 0))))))))] ++ shW G b9 sI ++ shW G b11 sI)) 3 (fun _ => rfl) rfl 16 rfl (vin rfl) 19 rfl rfl rfl dX6_init_69 ?_
  refine z_iinc (v := 2) (lv' := [(1, .int 2), (0, .ref q)]) dX6_init_70 0 rfl (by decide) (Nat.le_of_ble_eq_true rfl) rfl ?_
  refine z_goto (tgt := 48) dX6_init_73 (by decide) ?_
  refine z_iload_n dX6_init_48 rfl ?_
  refine z_aload_n dX6_init_49 rfl ?_
  refine z_getU (v := .ref a7) (f := (va_up (va_up (va_up (va_up F0_X6_init 0 (.ref (b2 0))) 1 (.ref (b4 0))) 2 (.ref (b6 0))) 3 (.ref a7))) rfl rfl uin_X6 3 (Nat.le_of_ble_eq_true rfl) tw_f_RX6_24 rfl rfl dX6_init_50 ?_
  refine z_alen (cA := G.2.2.1 0) (v := 8) 3 (fun _ => rfl) wr_P 16 rfl rfl dX6_init_53 ?_
  refine z_icmp_ge (tgt := 76) dX6_init_54 (by decide) (fun c => absurd c (by decide)) (fun _ => ?_)
  refine z_aload_n dX6_init_57 rfl ?_
  refine z_getU (v := .ref a7) (f := (va_up (va_up (va_up (va_up F0_X6_init 0 (.ref (b2 0))) 1 (.ref (b4 0))) 2 (.ref (b6 0))) 3 (.ref a7))) rfl rfl uin_X6 3 (Nat.le_of_ble_eq_true rfl) tw_f_RX6_24 rfl rfl dX6_init_58 ?_
  refine z_iload_n dX6_init_61 rfl ?_
  refine z_new (ci := 5) (fs := [.null, .int 0, .int 0]) hw rfl uin_X5 tyX5 tyX5_ok tw_k_RX6_22 tw_n_RX5 tw_i_TollForHesitators_Shelf (fun j hj => by rcases (show j = 0 ∨ j = 1 ∨ j = 2 by omega) with rfl | rfl | rfl <;> rfl) (Nat.le_of_ble_eq_true rfl) (Nat.le_of_ble_eq_true rfl) dX6_init_62 (fun q12 => ?_)
  refine z_dup dX6_init_65 rfl ?_
  refine z_cinitN (host := RX6) (K := k_X6_init) (index := 28) (st := [.ref q12, .int 2, .ref a7]) hw (fun sz => c_X5_init G P q12 sz) zc_X5_init ⟨rfl, tw_inst_yX5_init⟩ (by decide +kernel) (zroom_of rfl) rfl (Nat.le_of_ble_eq_true rfl) dX6_init_66 (fun w1 hw1 => ?_)
  obtain ⟨b13, b130, hw1⟩ := hw1
  rw [show w1 = shW G b13 sI from hw1]; clear hw1
  subst b130
  refine z_aastn (F := va_up (va_up (va_up (fun _ => none) 0 (some (b9 0))) 1 (some (b11 0))) 2 (some (b13 0))) (ws' := (q, .inr (6, fl 12 (va_up (va_up (va_up (va_up F0_X6_init 0 (.ref (b2 0))) 1 (.ref (b4 0))) 2 (.ref (b6 0))) 3 (.ref a7)))) :: (rdW G b2 rI ++ rdW G b4 rI ++ rdW G b6 rI ++ [(a7, .inl (G.2.2.1 3, 8, .inr (.inr (.inr (.inr (va_up (va_up (va_up (fun _ => none) 0 (some (b9 0))) 1 (some (b11 0))) 2 (some (b13 0))))))))] ++ shW G b9 sI ++ shW G b11 sI ++ shW G b13 sI)) 3 (fun _ => rfl) rfl 16 rfl (vin rfl) 21 rfl rfl rfl dX6_init_69 ?_
  refine z_iinc (v := 3) (lv' := [(1, .int 3), (0, .ref q)]) dX6_init_70 0 rfl (by decide) (Nat.le_of_ble_eq_true rfl) rfl ?_
  refine z_goto (tgt := 48) dX6_init_73 (by decide) ?_
  refine z_iload_n dX6_init_48 rfl ?_
  refine z_aload_n dX6_init_49 rfl ?_
  refine z_getU (v := .ref a7) (f := (va_up (va_up (va_up (va_up F0_X6_init 0 (.ref (b2 0))) 1 (.ref (b4 0))) 2 (.ref (b6 0))) 3 (.ref a7))) rfl rfl uin_X6 3 (Nat.le_of_ble_eq_true rfl) tw_f_RX6_24 rfl rfl dX6_init_50 ?_
  refine z_alen (cA := G.2.2.1 0) (v := 8) 3 (fun _ => rfl) wr_P 16 rfl rfl dX6_init_53 ?_
  refine z_icmp_ge (tgt := 76) dX6_init_54 (by decide) (fun c => absurd c (by decide)) (fun _ => ?_)
  refine z_aload_n dX6_init_57 rfl ?_
  refine z_getU (v := .ref a7) (f := (va_up (va_up (va_up (va_up F0_X6_init 0 (.ref (b2 0))) 1 (.ref (b4 0))) 2 (.ref (b6 0))) 3 (.ref a7))) rfl rfl uin_X6 3 (Nat.le_of_ble_eq_true rfl) tw_f_RX6_24 rfl rfl dX6_init_58 ?_
  refine z_iload_n dX6_init_61 rfl ?_
  refine z_new (ci := 5) (fs := [.null, .int 0, .int 0]) hw rfl uin_X5 tyX5 tyX5_ok tw_k_RX6_22 tw_n_RX5 tw_i_TollForHesitators_Shelf (fun j hj => by rcases (show j = 0 ∨ j = 1 ∨ j = 2 by omega) with rfl | rfl | rfl <;> rfl) (Nat.le_of_ble_eq_true rfl) (Nat.le_of_ble_eq_true rfl) dX6_init_62 (fun q14 => ?_)
  refine z_dup dX6_init_65 rfl ?_
  refine z_cinitN (host := RX6) (K := k_X6_init) (index := 28) (st := [.ref q14, .int 3, .ref a7]) hw (fun sz => c_X5_init G P q14 sz) zc_X5_init ⟨rfl, tw_inst_yX5_init⟩ (by decide +kernel) (zroom_of rfl) rfl (Nat.le_of_ble_eq_true rfl) dX6_init_66 (fun w1 hw1 => ?_)
  obtain ⟨b15, b150, hw1⟩ := hw1
  rw [show w1 = shW G b15 sI from hw1]; clear hw1
  subst b150
  refine z_aastn (F := va_up (va_up (va_up (va_up (fun _ => none) 0 (some (b9 0))) 1 (some (b11 0))) 2 (some (b13 0))) 3 (some (b15 0))) (ws' := (q, .inr (6, fl 12 (va_up (va_up (va_up (va_up F0_X6_init 0 (.ref (b2 0))) 1 (.ref (b4 0))) 2 (.ref (b6 0))) 3 (.ref a7)))) :: (rdW G b2 rI ++ rdW G b4 rI ++ rdW G b6 rI ++ [(a7, .inl (G.2.2.1 3, 8, .inr (.inr (.inr (.inr (va_up (va_up (va_up (va_up (fun _ => none) 0 (some (b9 0))) 1 (some (b11 0))) 2 (some (b13 0))) 3 (some (b15 0))))))))] ++ shW G b9 sI ++ shW G b11 sI ++ shW G b13 sI ++ shW G b15 sI)) 3 (fun _ => rfl) rfl 16 rfl (vin rfl) 23 rfl rfl rfl dX6_init_69 ?_
  refine z_iinc (v := 4) (lv' := [(1, .int 4), (0, .ref q)]) dX6_init_70 0 rfl (by decide) (Nat.le_of_ble_eq_true rfl) rfl ?_
  refine z_goto (tgt := 48) dX6_init_73 (by decide) ?_
  refine z_iload_n dX6_init_48 rfl ?_
  refine z_aload_n dX6_init_49 rfl ?_
  refine z_getU (v := .ref a7) (f := (va_up (va_up (va_up (va_up F0_X6_init 0 (.ref (b2 0))) 1 (.ref (b4 0))) 2 (.ref (b6 0))) 3 (.ref a7))) rfl rfl uin_X6 3 (Nat.le_of_ble_eq_true rfl) tw_f_RX6_24 rfl rfl dX6_init_50 ?_
  refine z_alen (cA := G.2.2.1 0) (v := 8) 3 (fun _ => rfl) wr_P 16 rfl rfl dX6_init_53 ?_
  refine z_icmp_ge (tgt := 76) dX6_init_54 (by decide) (fun c => absurd c (by decide)) (fun _ => ?_)
  refine z_aload_n dX6_init_57 rfl ?_
  refine z_getU (v := .ref a7) (f := (va_up (va_up (va_up (va_up F0_X6_init 0 (.ref (b2 0))) 1 (.ref (b4 0))) 2 (.ref (b6 0))) 3 (.ref a7))) rfl rfl uin_X6 3 (Nat.le_of_ble_eq_true rfl) tw_f_RX6_24 rfl rfl dX6_init_58 ?_
  refine z_iload_n dX6_init_61 rfl ?_
  refine z_new (ci := 5) (fs := [.null, .int 0, .int 0]) hw rfl uin_X5 tyX5 tyX5_ok tw_k_RX6_22 tw_n_RX5 tw_i_TollForHesitators_Shelf (fun j hj => by rcases (show j = 0 ∨ j = 1 ∨ j = 2 by omega) with rfl | rfl | rfl <;> rfl) (Nat.le_of_ble_eq_true rfl) (Nat.le_of_ble_eq_true rfl) dX6_init_62 (fun q16 => ?_)
  refine z_dup dX6_init_65 rfl ?_
  refine z_cinitN (host := RX6) (K := k_X6_init) (index := 28) (st := [.ref q16, .int 4, .ref a7]) hw (fun sz => c_X5_init G P q16 sz) zc_X5_init ⟨rfl, tw_inst_yX5_init⟩ (by decide +kernel) (zroom_of rfl) rfl (Nat.le_of_ble_eq_true rfl) dX6_init_66 (fun w1 hw1 => ?_)
  obtain ⟨b17, b170, hw1⟩ := hw1
  rw [show w1 = shW G b17 sI from hw1]; clear hw1
  subst b170
  refine z_aastn (F := va_up (va_up (va_up (va_up (va_up (fun _ => none) 0 (some (b9 0))) 1 (some (b11 0))) 2 (some (b13 0))) 3 (some (b15 0))) 4 (some (b17 0))) (ws' := (q, .inr (6, fl 12 (va_up (va_up (va_up (va_up F0_X6_init 0 (.ref (b2 0))) 1 (.ref (b4 0))) 2 (.ref (b6 0))) 3 (.ref a7)))) :: (rdW G b2 rI ++ rdW G b4 rI ++ rdW G b6 rI ++ [(a7, .inl (G.2.2.1 3, 8, .inr (.inr (.inr (.inr (va_up (va_up (va_up (va_up (va_up (fun _ => none) 0 (some (b9 0))) 1 (some (b11 0))) 2 (some (b13 0))) 3 (some (b15 0))) 4 (some (b17 0))))))))] ++ shW G b9 sI ++ shW G b11 sI ++ shW G b13 sI ++ shW G b15 sI ++ shW G b17 sI)) 3 (fun _ => rfl) rfl 16 rfl (vin rfl) 25 rfl rfl rfl dX6_init_69 ?_
  refine z_iinc (v := 5) (lv' := [(1, .int 5), (0, .ref q)]) dX6_init_70 0 rfl (by decide) (Nat.le_of_ble_eq_true rfl) rfl ?_
  refine z_goto (tgt := 48) dX6_init_73 (by decide) ?_
  refine z_iload_n dX6_init_48 rfl ?_
  refine z_aload_n dX6_init_49 rfl ?_
  refine z_getU (v := .ref a7) (f := (va_up (va_up (va_up (va_up F0_X6_init 0 (.ref (b2 0))) 1 (.ref (b4 0))) 2 (.ref (b6 0))) 3 (.ref a7))) rfl rfl uin_X6 3 (Nat.le_of_ble_eq_true rfl) tw_f_RX6_24 rfl rfl dX6_init_50 ?_
  refine z_alen (cA := G.2.2.1 0) (v := 8) 3 (fun _ => rfl) wr_P 16 rfl rfl dX6_init_53 ?_
  refine z_icmp_ge (tgt := 76) dX6_init_54 (by decide) (fun c => absurd c (by decide)) (fun _ => ?_)
  refine z_aload_n dX6_init_57 rfl ?_
  refine z_getU (v := .ref a7) (f := (va_up (va_up (va_up (va_up F0_X6_init 0 (.ref (b2 0))) 1 (.ref (b4 0))) 2 (.ref (b6 0))) 3 (.ref a7))) rfl rfl uin_X6 3 (Nat.le_of_ble_eq_true rfl) tw_f_RX6_24 rfl rfl dX6_init_58 ?_
  refine z_iload_n dX6_init_61 rfl ?_
  refine z_new (ci := 5) (fs := [.null, .int 0, .int 0]) hw rfl uin_X5 tyX5 tyX5_ok tw_k_RX6_22 tw_n_RX5 tw_i_TollForHesitators_Shelf (fun j hj => by rcases (show j = 0 ∨ j = 1 ∨ j = 2 by omega) with rfl | rfl | rfl <;> rfl) (Nat.le_of_ble_eq_true rfl) (Nat.le_of_ble_eq_true rfl) dX6_init_62 (fun q18 => ?_)
  refine z_dup dX6_init_65 rfl ?_
  refine z_cinitN (host := RX6) (K := k_X6_init) (index := 28) (st := [.ref q18, .int 5, .ref a7]) hw (fun sz => c_X5_init G P q18 sz) zc_X5_init ⟨rfl, tw_inst_yX5_init⟩ (by decide +kernel) (zroom_of rfl) rfl (Nat.le_of_ble_eq_true rfl) dX6_init_66 (fun w1 hw1 => ?_)
  obtain ⟨b19, b190, hw1⟩ := hw1
  rw [show w1 = shW G b19 sI from hw1]; clear hw1
  subst b190
  refine z_aastn (F := va_up (va_up (va_up (va_up (va_up (va_up (fun _ => none) 0 (some (b9 0))) 1 (some (b11 0))) 2 (some (b13 0))) 3 (some (b15 0))) 4 (some (b17 0))) 5 (some (b19 0))) (ws' := (q, .inr (6, fl 12 (va_up (va_up (va_up (va_up F0_X6_init 0 (.ref (b2 0))) 1 (.ref (b4 0))) 2 (.ref (b6 0))) 3 (.ref a7)))) :: (rdW G b2 rI ++ rdW G b4 rI ++ rdW G b6 rI ++ [(a7, .inl (G.2.2.1 3, 8, .inr (.inr (.inr (.inr (va_up (va_up (va_up (va_up (va_up (va_up (fun _ => none) 0 (some (b9 0))) 1 (some (b11 0))) 2 (some (b13 0))) 3 (some (b15 0))) 4 (some (b17 0))) 5 (some (b19 0))))))))] ++ shW G b9 sI ++ shW G b11 sI ++ shW G b13 sI ++ shW G b15 sI ++ shW G b17 sI ++ shW G b19 sI)) 3 (fun _ => rfl) rfl 16 rfl (vin rfl) 27 rfl rfl rfl dX6_init_69 ?_
  refine z_iinc (v := 6) (lv' := [(1, .int 6), (0, .ref q)]) dX6_init_70 0 rfl (by decide) (Nat.le_of_ble_eq_true rfl) rfl ?_
  refine z_goto (tgt := 48) dX6_init_73 (by decide) ?_
  refine z_iload_n dX6_init_48 rfl ?_
  refine z_aload_n dX6_init_49 rfl ?_
  refine z_getU (v := .ref a7) (f := (va_up (va_up (va_up (va_up F0_X6_init 0 (.ref (b2 0))) 1 (.ref (b4 0))) 2 (.ref (b6 0))) 3 (.ref a7))) rfl rfl uin_X6 3 (Nat.le_of_ble_eq_true rfl) tw_f_RX6_24 rfl rfl dX6_init_50 ?_
  refine z_alen (cA := G.2.2.1 0) (v := 8) 3 (fun _ => rfl) wr_P 16 rfl rfl dX6_init_53 ?_
  refine z_icmp_ge (tgt := 76) dX6_init_54 (by decide) (fun c => absurd c (by decide)) (fun _ => ?_)
  refine z_aload_n dX6_init_57 rfl ?_
  refine z_getU (v := .ref a7) (f := (va_up (va_up (va_up (va_up F0_X6_init 0 (.ref (b2 0))) 1 (.ref (b4 0))) 2 (.ref (b6 0))) 3 (.ref a7))) rfl rfl uin_X6 3 (Nat.le_of_ble_eq_true rfl) tw_f_RX6_24 rfl rfl dX6_init_58 ?_
  refine z_iload_n dX6_init_61 rfl ?_
  refine z_new (ci := 5) (fs := [.null, .int 0, .int 0]) hw rfl uin_X5 tyX5 tyX5_ok tw_k_RX6_22 tw_n_RX5 tw_i_TollForHesitators_Shelf (fun j hj => by rcases (show j = 0 ∨ j = 1 ∨ j = 2 by omega) with rfl | rfl | rfl <;> rfl) (Nat.le_of_ble_eq_true rfl) (Nat.le_of_ble_eq_true rfl) dX6_init_62 (fun q20 => ?_)
  refine z_dup dX6_init_65 rfl ?_
  refine z_cinitN (host := RX6) (K := k_X6_init) (index := 28) (st := [.ref q20, .int 6, .ref a7]) hw (fun sz => c_X5_init G P q20 sz) zc_X5_init ⟨rfl, tw_inst_yX5_init⟩ (by decide +kernel) (zroom_of rfl) rfl (Nat.le_of_ble_eq_true rfl) dX6_init_66 (fun w1 hw1 => ?_)
  obtain ⟨b21, b210, hw1⟩ := hw1
  rw [show w1 = shW G b21 sI from hw1]; clear hw1
  subst b210
  refine z_aastn (F := va_up (va_up (va_up (va_up (va_up (va_up (va_up (fun _ => none) 0 (some (b9 0))) 1 (some (b11 0))) 2 (some (b13 0))) 3 (some (b15 0))) 4 (some (b17 0))) 5 (some (b19 0))) 6 (some (b21 0))) (ws' := (q, .inr (6, fl 12 (va_up (va_up (va_up (va_up F0_X6_init 0 (.ref (b2 0))) 1 (.ref (b4 0))) 2 (.ref (b6 0))) 3 (.ref a7)))) :: (rdW G b2 rI ++ rdW G b4 rI ++ rdW G b6 rI ++ [(a7, .inl (G.2.2.1 3, 8, .inr (.inr (.inr (.inr (va_up (va_up (va_up (va_up (va_up (va_up (va_up (fun _ => none) 0 (some (b9 0))) 1 (some (b11 0))) 2 (some (b13 0))) 3 (some (b15 0))) 4 (some (b17 0))) 5 (some (b19 0))) 6 (some (b21 0))))))))] ++ shW G b9 sI ++ shW G b11 sI ++ shW G b13 sI ++ shW G b15 sI ++ shW G b17 sI ++ shW G b19 sI ++ shW G b21 sI)) 3 (fun _ => rfl) rfl 16 rfl (vin rfl) 29 rfl rfl rfl dX6_init_69 ?_
  refine z_iinc (v := 7) (lv' := [(1, .int 7), (0, .ref q)]) dX6_init_70 0 rfl (by decide) (Nat.le_of_ble_eq_true rfl) rfl ?_
  refine z_goto (tgt := 48) dX6_init_73 (by decide) ?_
  refine z_iload_n dX6_init_48 rfl ?_
  refine z_aload_n dX6_init_49 rfl ?_
  refine z_getU (v := .ref a7) (f := (va_up (va_up (va_up (va_up F0_X6_init 0 (.ref (b2 0))) 1 (.ref (b4 0))) 2 (.ref (b6 0))) 3 (.ref a7))) rfl rfl uin_X6 3 (Nat.le_of_ble_eq_true rfl) tw_f_RX6_24 rfl rfl dX6_init_50 ?_
  refine z_alen (cA := G.2.2.1 0) (v := 8) 3 (fun _ => rfl) wr_P 16 rfl rfl dX6_init_53 ?_
  refine z_icmp_ge (tgt := 76) dX6_init_54 (by decide) (fun c => absurd c (by decide)) (fun _ => ?_)
  refine z_aload_n dX6_init_57 rfl ?_
  refine z_getU (v := .ref a7) (f := (va_up (va_up (va_up (va_up F0_X6_init 0 (.ref (b2 0))) 1 (.ref (b4 0))) 2 (.ref (b6 0))) 3 (.ref a7))) rfl rfl uin_X6 3 (Nat.le_of_ble_eq_true rfl) tw_f_RX6_24 rfl rfl dX6_init_58 ?_
  refine z_iload_n dX6_init_61 rfl ?_
  refine z_new (ci := 5) (fs := [.null, .int 0, .int 0]) hw rfl uin_X5 tyX5 tyX5_ok tw_k_RX6_22 tw_n_RX5 tw_i_TollForHesitators_Shelf (fun j hj => by rcases (show j = 0 ∨ j = 1 ∨ j = 2 by omega) with rfl | rfl | rfl <;> rfl) (Nat.le_of_ble_eq_true rfl) (Nat.le_of_ble_eq_true rfl) dX6_init_62 (fun q22 => ?_)
  refine z_dup dX6_init_65 rfl ?_
  refine z_cinitN (host := RX6) (K := k_X6_init) (index := 28) (st := [.ref q22, .int 7, .ref a7]) hw (fun sz => c_X5_init G P q22 sz) zc_X5_init ⟨rfl, tw_inst_yX5_init⟩ (by decide +kernel) (zroom_of rfl) rfl (Nat.le_of_ble_eq_true rfl) dX6_init_66 (fun w1 hw1 => ?_)
  obtain ⟨b23, b230, hw1⟩ := hw1
  rw [show w1 = shW G b23 sI from hw1]; clear hw1
  subst b230
  refine z_aastn (F := va_up (va_up (va_up (va_up (va_up (va_up (va_up (va_up (fun _ => none) 0 (some (b9 0))) 1 (some (b11 0))) 2 (some (b13 0))) 3 (some (b15 0))) 4 (some (b17 0))) 5 (some (b19 0))) 6 (some (b21 0))) 7 (some (b23 0))) (ws' := (q, .inr (6, fl 12 (va_up (va_up (va_up (va_up F0_X6_init 0 (.ref (b2 0))) 1 (.ref (b4 0))) 2 (.ref (b6 0))) 3 (.ref a7)))) :: (rdW G b2 rI ++ rdW G b4 rI ++ rdW G b6 rI ++ [(a7, .inl (G.2.2.1 3, 8, .inr (.inr (.inr (.inr (va_up (va_up (va_up (va_up (va_up (va_up (va_up (va_up (fun _ => none) 0 (some (b9 0))) 1 (some (b11 0))) 2 (some (b13 0))) 3 (some (b15 0))) 4 (some (b17 0))) 5 (some (b19 0))) 6 (some (b21 0))) 7 (some (b23 0))))))))] ++ shW G b9 sI ++ shW G b11 sI ++ shW G b13 sI ++ shW G b15 sI ++ shW G b17 sI ++ shW G b19 sI ++ shW G b21 sI ++ shW G b23 sI)) 3 (fun _ => rfl) rfl 16 rfl (vin rfl) 31 rfl rfl rfl dX6_init_69 ?_
  refine z_iinc (v := 8) (lv' := [(1, .int 8), (0, .ref q)]) dX6_init_70 0 rfl (by decide) (Nat.le_of_ble_eq_true rfl) rfl ?_
  refine z_goto (tgt := 48) dX6_init_73 (by decide) ?_
  refine z_iload_n dX6_init_48 rfl ?_
  refine z_aload_n dX6_init_49 rfl ?_
  refine z_getU (v := .ref a7) (f := (va_up (va_up (va_up (va_up F0_X6_init 0 (.ref (b2 0))) 1 (.ref (b4 0))) 2 (.ref (b6 0))) 3 (.ref a7))) rfl rfl uin_X6 3 (Nat.le_of_ble_eq_true rfl) tw_f_RX6_24 rfl rfl dX6_init_50 ?_
  refine z_alen (cA := G.2.2.1 0) (v := 8) 3 (fun _ => rfl) wr_P 16 rfl rfl dX6_init_53 ?_
  refine z_icmp_ge (tgt := 76) dX6_init_54 (by decide) (fun _ => ?_) (fun c => absurd (by decide) c)
  refine z_aload_n dX6_init_76 rfl ?_
  refine z_new (ci := 3) (fs := [.null, .int 0, .int 0, .null, .int 0, .int 0, .int 0]) hw rfl uin_X3 tyX3 tyX3_ok tw_k_RX6_29 tw_n_RX3 tw_i_TollForHesitators_Reader (fun j hj => by rcases (show j = 0 ∨ j = 1 ∨ j = 2 ∨ j = 3 ∨ j = 4 ∨ j = 5 ∨ j = 6 by omega) with rfl | rfl | rfl | rfl | rfl | rfl | rfl <;> rfl) (Nat.le_of_ble_eq_true rfl) (Nat.le_of_ble_eq_true rfl) dX6_init_77 (fun q24 => ?_)
  refine z_dup dX6_init_80 rfl ?_
  refine z_cinitN (host := RX6) (K := k_X6_init) (index := 31) (st := [.ref q24, .ref q]) hw (fun sz => c_X3_init G P q24 sz) zc_X3_init ⟨rfl, tw_inst_yX3_init⟩ (by decide +kernel) (zroom_of rfl) rfl (Nat.le_of_ble_eq_true rfl) dX6_init_81 (fun w1 hw1 => ?_)
  obtain ⟨b25, b25q, b250, hw1⟩ := hw1
  rw [show w1 = re2W G b25 b25q eI from hw1]; clear hw1
  subst b250
  refine z_putFU (v := .ref (b25 0)) hN rfl uin_X6 tyX6 tyX6_ok nmX6 4 (Nat.le_of_ble_eq_true rfl) tw_f_RX6_32 rfl rfl rfl (ty := (.object RX3)) rfl rfl rfl dX6_init_84 ?_
  refine z_aload_n dX6_init_87 rfl ?_
  refine z_new (ci := 2) (fs := [.null, .null, .null, .int 0, .int 0, .int 0, .int 0, .int 0]) hw rfl uin_X2 tyX2 tyX2_ok tw_k_RX6_36 tw_n_RX2 tw_i_TollForHesitators_Order (fun j hj => by rcases (show j = 0 ∨ j = 1 ∨ j = 2 ∨ j = 3 ∨ j = 4 ∨ j = 5 ∨ j = 6 ∨ j = 7 by omega) with rfl | rfl | rfl | rfl | rfl | rfl | rfl | rfl <;> rfl) (Nat.le_of_ble_eq_true rfl) (Nat.le_of_ble_eq_true rfl) dX6_init_88 (fun q26 => ?_)
  refine z_dup dX6_init_91 rfl ?_
  refine z_aload_n dX6_init_92 rfl ?_
  refine z_getU (v := .ref (b2 0)) (f := (va_up (va_up (va_up (va_up (va_up F0_X6_init 0 (.ref (b2 0))) 1 (.ref (b4 0))) 2 (.ref (b6 0))) 3 (.ref a7)) 4 (.ref (b25 0)))) rfl rfl uin_X6 0 (Nat.le_of_ble_eq_true rfl) tw_f_RX6_10 rfl rfl dX6_init_93 ?_
  refine z_cinit (K := k_X6_init) (index := 38) (st := [.ref q26, .ref q]) hw (fun sz => c_X2_init G P q26 (b2 0) sz) zc_X2_init ⟨rfl, tw_inst_yX2_init⟩ tw_m_RX6_38 (zroom_of rfl) rfl (Nat.le_of_ble_eq_true rfl) dX6_init_96 (fun w1 hw1 => ?_)
  obtain ⟨b27, b270, hw1⟩ := hw1
  rw [show w1 = orW G b27 (fun _ => b2 0) oI from hw1]; clear hw1
  subst b270
  refine z_putFU (v := .ref (b27 0)) hN rfl uin_X6 tyX6 tyX6_ok nmX6 5 (Nat.le_of_ble_eq_true rfl) tw_f_RX6_41 rfl rfl rfl (ty := (.object RX2)) rfl rfl rfl dX6_init_99 ?_
  refine z_aload_n dX6_init_102 rfl ?_
  refine z_new (ci := 2) (fs := [.null, .null, .null, .int 0, .int 0, .int 0, .int 0, .int 0]) hw rfl uin_X2 tyX2 tyX2_ok tw_k_RX6_36 tw_n_RX2 tw_i_TollForHesitators_Order (fun j hj => by rcases (show j = 0 ∨ j = 1 ∨ j = 2 ∨ j = 3 ∨ j = 4 ∨ j = 5 ∨ j = 6 ∨ j = 7 by omega) with rfl | rfl | rfl | rfl | rfl | rfl | rfl | rfl <;> rfl) (Nat.le_of_ble_eq_true rfl) (Nat.le_of_ble_eq_true rfl) dX6_init_103 (fun q28 => ?_)
  refine z_dup dX6_init_106 rfl ?_
  refine z_aload_n dX6_init_107 rfl ?_
  refine z_getU (v := .ref (b2 0)) (f := (va_up (va_up (va_up (va_up (va_up (va_up F0_X6_init 0 (.ref (b2 0))) 1 (.ref (b4 0))) 2 (.ref (b6 0))) 3 (.ref a7)) 4 (.ref (b25 0))) 5 (.ref (b27 0)))) rfl rfl uin_X6 0 (Nat.le_of_ble_eq_true rfl) tw_f_RX6_10 rfl rfl dX6_init_108 ?_
  refine z_cinit (K := k_X6_init) (index := 38) (st := [.ref q28, .ref q]) hw (fun sz => c_X2_init G P q28 (b2 0) sz) zc_X2_init ⟨rfl, tw_inst_yX2_init⟩ tw_m_RX6_38 (zroom_of rfl) rfl (Nat.le_of_ble_eq_true rfl) dX6_init_111 (fun w1 hw1 => ?_)
  obtain ⟨b29, b290, hw1⟩ := hw1
  rw [show w1 = orW G b29 (fun _ => b2 0) oI from hw1]; clear hw1
  subst b290
  refine z_putFU (v := .ref (b29 0)) hN rfl uin_X6 tyX6 tyX6_ok nmX6 6 (Nat.le_of_ble_eq_true rfl) tw_f_RX6_45 rfl rfl rfl (ty := (.object RX2)) rfl rfl rfl dX6_init_114 ?_
  refine z_aload_n dX6_init_117 rfl ?_
  refine z_new (ci := 2) (fs := [.null, .null, .null, .int 0, .int 0, .int 0, .int 0, .int 0]) hw rfl uin_X2 tyX2 tyX2_ok tw_k_RX6_36 tw_n_RX2 tw_i_TollForHesitators_Order (fun j hj => by rcases (show j = 0 ∨ j = 1 ∨ j = 2 ∨ j = 3 ∨ j = 4 ∨ j = 5 ∨ j = 6 ∨ j = 7 by omega) with rfl | rfl | rfl | rfl | rfl | rfl | rfl | rfl <;> rfl) (Nat.le_of_ble_eq_true rfl) (Nat.le_of_ble_eq_true rfl) dX6_init_118 (fun q30 => ?_)
  refine z_dup dX6_init_121 rfl ?_
  refine z_aload_n dX6_init_122 rfl ?_
  refine z_getU (v := .ref (b2 0)) (f := (va_up (va_up (va_up (va_up (va_up (va_up (va_up F0_X6_init 0 (.ref (b2 0))) 1 (.ref (b4 0))) 2 (.ref (b6 0))) 3 (.ref a7)) 4 (.ref (b25 0))) 5 (.ref (b27 0))) 6 (.ref (b29 0)))) rfl rfl uin_X6 0 (Nat.le_of_ble_eq_true rfl) tw_f_RX6_10 rfl rfl dX6_init_123 ?_
  refine z_cinit (K := k_X6_init) (index := 38) (st := [.ref q30, .ref q]) hw (fun sz => c_X2_init G P q30 (b2 0) sz) zc_X2_init ⟨rfl, tw_inst_yX2_init⟩ tw_m_RX6_38 (zroom_of rfl) rfl (Nat.le_of_ble_eq_true rfl) dX6_init_126 (fun w1 hw1 => ?_)
  obtain ⟨b31, b310, hw1⟩ := hw1
  rw [show w1 = orW G b31 (fun _ => b2 0) oI from hw1]; clear hw1
  subst b310
  refine z_putFU (v := .ref (b31 0)) hN rfl uin_X6 tyX6 tyX6_ok nmX6 7 (Nat.le_of_ble_eq_true rfl) tw_f_RX6_48 rfl rfl rfl (ty := (.object RX2)) rfl rfl rfl dX6_init_129 ?_
  refine z_aload_n dX6_init_132 rfl ?_
  refine z_new (ci := 1) (fs := [.null, .int 0, .null]) hw rfl uin_X1 tyX1 tyX1_ok tw_k_RX6_51 tw_n_RX1 tw_i_TollForHesitators_Moves (fun j hj => by rcases (show j = 0 ∨ j = 1 ∨ j = 2 by omega) with rfl | rfl | rfl <;> rfl) (Nat.le_of_ble_eq_true rfl) (Nat.le_of_ble_eq_true rfl) dX6_init_133 (fun q32 => ?_)
  refine z_dup dX6_init_136 rfl ?_
  refine z_cinitN (host := RX6) (K := k_X6_init) (index := 53) (st := [.ref q32, .ref q]) hw (fun sz => c_X1_init G P q32 sz) zc_X1_init ⟨rfl, tw_inst_yX1_init⟩ (by decide +kernel) (zroom_of rfl) rfl (Nat.le_of_ble_eq_true rfl) dX6_init_137 (fun w1 hw1 => ?_)
  obtain ⟨b33, b330, hw1⟩ := hw1
  rw [show w1 = mvW G b33 vI from hw1]; clear hw1
  subst b330
  refine z_putFU (v := .ref (b33 0)) hN rfl uin_X6 tyX6 tyX6_ok nmX6 8 (Nat.le_of_ble_eq_true rfl) tw_f_RX6_54 rfl rfl rfl (ty := (.object RX1)) rfl rfl rfl dX6_init_140 ?_
  refine z_aload_n dX6_init_143 rfl ?_
  refine z_bipush (v := 8) dX6_init_144 rfl ?_
  refine z_newi (N := 8) hw tw_o_84 (by decide) (by decide) (by decide) (Nat.le_of_ble_eq_true rfl) (Nat.le_of_ble_eq_true rfl) dX6_init_146 (fun a34 => ?_)
  refine z_putFU (v := .ref a34) hN rfl uin_X6 tyX6 tyX6_ok nmX6 9 (Nat.le_of_ble_eq_true rfl) tw_f_RX6_58 rfl rfl rfl (ty := (.array .int)) rfl rfl rfl dX6_init_148 ?_
  refine z_aload_n dX6_init_151 rfl ?_
  refine z_iconst (v := (-1)) dX6_init_152 rfl ?_
  refine z_putU (v := .int (-1)) rfl uin_X6 tyX6 tyX6_ok nmX6 10 (Nat.le_of_ble_eq_true rfl) tw_f_RX6_62 rfl rfl (ty := .int) rfl rfl rfl dX6_init_153 ?_
  refine z_eqw (ws' := [(q, .inr (6, [.ref (b2 0), .ref (b4 0), .ref (b6 0), .ref a7, .ref (b25 0), .ref (b27 0), .ref (b29 0), .ref (b31 0), .ref (b33 0), .ref a34, .int (-1), .int 0]))] ++ rdW G b2 rI ++ rdW G b4 rI ++ rdW G b6 rI ++ [(a7, .inl (G.2.2.1 3, 8, .inr (.inr (.inr (.inr (va_up (va_up (va_up (va_up (va_up (va_up (va_up (va_up (fun _ => none) 0 (some (b9 0))) 1 (some (b11 0))) 2 (some (b13 0))) 3 (some (b15 0))) 4 (some (b17 0))) 5 (some (b19 0))) 6 (some (b21 0))) 7 (some (b23 0))))))))] ++ shW G b9 sI ++ shW G b11 sI ++ shW G b13 sI ++ shW G b15 sI ++ shW G b17 sI ++ shW G b19 sI ++ shW G b21 sI ++ shW G b23 sI ++ re2W G b25 b25q eI ++ orW G b27 (fun _ => b2 0) oI ++ orW G b29 (fun _ => b2 0) oI ++ orW G b31 (fun _ => b2 0) oI ++ mvW G b33 vI ++ [(a34, .inl (G.2.2.1 0, 8, .inl (fun _ => 0)))]) rfl ?_
  refine z_eqcell 16 3 (f := va_up (va_up (va_up (va_up (va_up (va_up (va_up (va_up (fun _ => none) 0 (some (b9 0))) 1 (some (b11 0))) 2 (some (b13 0))) 3 (some (b15 0))) 4 (some (b17 0))) 5 (some (b19 0))) 6 (some (b21 0))) 7 (some (b23 0))) (F := fun j => some (sh (ad [q, a7, a34, 0, 0, 0, 0, 0, 0, 0, b2 0, b2 1, b2 2, b2 3, b2 4, b4 0, b4 1, b4 2, b4 3, b4 4, b6 0, b6 1, b6 2, b6 3, b6 4, 0, 0, 0, 0, 0, b9 0, b9 1, b11 0, b11 1, b13 0, b13 1, b15 0, b15 1, b17 0, b17 1, b19 0, b19 1, b21 0, b21 1, b23 0, b23 1, 0, 0, 0, 0, b25 0, b25 1, 0, 0, 0, 0, 0, 0, 0, 0, b27 0, b27 1, b27 2, b29 0, b29 1, b29 2, b31 0, b31 1, b31 2, 0, b33 0, b33 1, 0, 0, 0]) (30 + 2 * j) 0)) (ws' := [(q, .inr (6, [.ref (b2 0), .ref (b4 0), .ref (b6 0), .ref a7, .ref (b25 0), .ref (b27 0), .ref (b29 0), .ref (b31 0), .ref (b33 0), .ref a34, .int (-1), .int 0]))] ++ rdW G b2 rI ++ rdW G b4 rI ++ rdW G b6 rI ++ [(a7, .inl (G.2.2.1 3, 8, .inr (.inr (.inr (.inr (fun j => some (sh (ad [q, a7, a34, 0, 0, 0, 0, 0, 0, 0, b2 0, b2 1, b2 2, b2 3, b2 4, b4 0, b4 1, b4 2, b4 3, b4 4, b6 0, b6 1, b6 2, b6 3, b6 4, 0, 0, 0, 0, 0, b9 0, b9 1, b11 0, b11 1, b13 0, b13 1, b15 0, b15 1, b17 0, b17 1, b19 0, b19 1, b21 0, b21 1, b23 0, b23 1, 0, 0, 0, 0, b25 0, b25 1, 0, 0, 0, 0, 0, 0, 0, 0, b27 0, b27 1, b27 2, b29 0, b29 1, b29 2, b31 0, b31 1, b31 2, 0, b33 0, b33 1, 0, 0, 0]) (30 + 2 * j) 0)))))))] ++ shW G b9 sI ++ shW G b11 sI ++ shW G b13 sI ++ shW G b15 sI ++ shW G b17 sI ++ shW G b19 sI ++ shW G b21 sI ++ shW G b23 sI ++ re2W G b25 b25q eI ++ orW G b27 (fun _ => b2 0) oI ++ orW G b29 (fun _ => b2 0) oI ++ orW G b31 (fun _ => b2 0) oI ++ mvW G b33 vI ++ [(a34, .inl (G.2.2.1 0, 8, .inl (fun _ => 0)))]) rfl (fun j hj => by rcases (show j = 0 ∨ j = 1 ∨ j = 2 ∨ j = 3 ∨ j = 4 ∨ j = 5 ∨ j = 6 ∨ j = 7 by omega) with rfl | rfl | rfl | rfl | rfl | rfl | rfl | rfl <;> rfl) rfl ?_
  refine z_perm (ctor_perm _ _ _ _ _ _ _ _ _ _ _ _ _ _ _ _ _ _ _) ?_
  exact z_vret_W hQ rfl rfl rfl ⟨(ad [q, a7, a34, 0, 0, 0, 0, 0, 0, 0, b2 0, b2 1, b2 2, b2 3, b2 4, b4 0, b4 1, b4 2, b4 3, b4 4, b6 0, b6 1, b6 2, b6 3, b6 4, 0, 0, 0, 0, 0, b9 0, b9 1, b11 0, b11 1, b13 0, b13 1, b15 0, b15 1, b17 0, b17 1, b19 0, b19 1, b21 0, b21 1, b23 0, b23 1, 0, 0, 0, 0, b25 0, b25 1, 0, 0, 0, 0, 0, 0, 0, 0, b27 0, b27 1, b27 2, b29 0, b29 1, b29 2, b31 0, b31 1, b31 2, 0, b33 0, b33 1, 0, 0, 0]), b25q, rfl, app_c (app_c (app_c (app_c (app_c (app_c (app_c (app_c (app_c (rfl) (rdW_c rfl rfl rfl rfl rfl)) (rdW_c rfl rfl rfl rfl rfl)) (rdW_c rfl rfl rfl rfl rfl)) (re2W_c rfl rfl)) (orW_c rfl rfl rfl rfl)) (orW_c rfl rfl rfl rfl)) (orW_c rfl rfl rfl rfl)) (mvW_c rfl rfl)) (app_c (shW_c rfl rfl) (app_c (shW_c rfl rfl) (app_c (shW_c rfl rfl) (app_c (shW_c rfl rfl) (app_c (shW_c rfl rfl) (app_c (shW_c rfl rfl) (app_c (shW_c rfl rfl) (shW_c rfl rfl))))))))⟩ dX6_init_156
