theorem tw_m_RX2_58 : Cond.methodLink RX2 58 yJ9_min_7cf53 ∈ TS := ts_mem 637 (by decide +kernel) rfl
theorem tw_m_RX2_64 : Cond.methodLink RX2 64 yX5_intAt ∈ TS := ts_mem 638 (by decide +kernel) rfl
theorem tw_m_RX2_69 : Cond.methodLink RX2 69 yX4_has ∈ TS := ts_mem 643 (by decide +kernel) rfl
theorem tw_code_yX2_readFrom : Cond.code yX2_readFrom cX2_readFrom 6 (some .boolean) ∈ TS := ts_mem 636 (by decide +kernel) rfl
theorem tw_inst_yX2_readFrom : Cond.instanceMethod yX2_readFrom ∈ TS := ts_mem 634 (by decide +kernel) rfl
theorem tw_s_yX2_readFrom : Cond.selects RX2 yX2_readFrom yX2_readFrom ∈ TS := ts_mem 635 (by decide +kernel) rfl
theorem tw_m_RX2_73 : Cond.methodLink RX2 73 yX2_begin ∈ TS := ts_mem 648 (by decide +kernel) rfl
theorem tw_m_RX2_76 : Cond.methodLink RX2 76 yX2_nerveAt ∈ TS := ts_mem 656 (by decide +kernel) rfl
theorem tw_m_RX2_79 : Cond.methodLink RX2 79 yX2_seen ∈ TS := ts_mem 661 (by decide +kernel) rfl
theorem tw_m_RX2_83 : Cond.methodLink RX2 83 yX4_comesTo ∈ TS := ts_mem 672 (by decide +kernel) rfl
theorem tw_m_RX2_87 : Cond.methodLink RX2 87 yX2_count ∈ TS := ts_mem 676 (by decide +kernel) rfl
theorem tw_code_yX2_play : Cond.code yX2_play cX2_play 5 none ∈ TS := ts_mem 647 (by decide +kernel) rfl
theorem tw_inst_yX2_play : Cond.instanceMethod yX2_play ∈ TS := ts_mem 645 (by decide +kernel) rfl
theorem tw_s_yX2_play : Cond.selects RX2 yX2_play yX2_play ∈ TS := ts_mem 646 (by decide +kernel) rfl
theorem tw_code_yX2_toldAt : Cond.code yX2_toldAt cX2_toldAt 7 (some .int) ∈ TS := ts_mem 771 (by decide +kernel) rfl
theorem tw_inst_yX2_toldAt : Cond.instanceMethod yX2_toldAt ∈ TS := ts_mem 770 (by decide +kernel) rfl
theorem tw_s_yX2_toldAt : Cond.selects RX2 yX2_toldAt yX2_toldAt ∈ TS := ts_mem 20 (by decide +kernel) rfl
theorem tw_m_RX2_93 : Cond.methodLink RX2 93 yX2_toldAt ∈ TS := ts_mem 768 (by decide +kernel) rfl
theorem tw_code_yX2_wrongIn : Cond.code yX2_wrongIn cX2_wrongIn 9 (some .int) ∈ TS := ts_mem 767 (by decide +kernel) rfl
theorem tw_inst_yX2_wrongIn : Cond.instanceMethod yX2_wrongIn ∈ TS := ts_mem 765 (by decide +kernel) rfl
theorem tw_s_yX2_wrongIn : Cond.selects RX2 yX2_wrongIn yX2_wrongIn ∈ TS := ts_mem 766 (by decide +kernel) rfl
theorem tw_f_RX2_15 : Cond.fieldLink RX2 15 RX2 "least" "[I" ∈ TS := ts_mem 213 (by decide +kernel) rfl
theorem tw_m_RX2_107 : Cond.methodLink RX2 107 yX4_weightOf ∈ TS := ts_mem 700 (by decide +kernel) rfl
theorem tw_code_yX2_weighLeast : Cond.code yX2_weighLeast cX2_weighLeast 4 (some .int) ∈ TS := ts_mem 699 (by decide +kernel) rfl
theorem tw_inst_yX2_weighLeast : Cond.instanceMethod yX2_weighLeast ∈ TS := ts_mem 698 (by decide +kernel) rfl
theorem tw_s_yX2_weighLeast : Cond.selects RX2 yX2_weighLeast yX2_weighLeast ∈ TS := ts_mem 15 (by decide +kernel) rfl
theorem tw_f_RX2_31 : Cond.fieldLink RX2 31 RX2 "weight" "I" ∈ TS := ts_mem 221 (by decide +kernel) rfl
theorem tw_code_yX2_keep : Cond.code yX2_keep cX2_keep 4 none ∈ TS := ts_mem 710 (by decide +kernel) rfl
theorem tw_inst_yX2_keep : Cond.instanceMethod yX2_keep ∈ TS := ts_mem 709 (by decide +kernel) rfl
theorem tw_s_yX2_keep : Cond.selects RX2 yX2_keep yX2_keep ∈ TS := ts_mem 16 (by decide +kernel) rfl
theorem tw_st_yX2_search : Cond.static yX2_search ∈ TS := ts_mem 705 (by decide +kernel) rfl
theorem tw_m_RX2_103 : Cond.methodLink RX2 103 yX2_search ∈ TS := ts_mem 704 (by decide +kernel) rfl
theorem tw_m_RX2_110 : Cond.methodLink RX2 110 yX2_keep ∈ TS := ts_mem 707 (by decide +kernel) rfl
theorem tw_code_yX2_search : Cond.code yX2_search cX2_search 14 none ∈ TS := ts_mem 706 (by decide +kernel) rfl
theorem tw_m_RX2_97 : Cond.methodLink RX2 97 yX2_byNumbers ∈ TS := ts_mem 692 (by decide +kernel) rfl
theorem tw_m_RX2_100 : Cond.methodLink RX2 100 yX2_weighLeast ∈ TS := ts_mem 696 (by decide +kernel) rfl
theorem tw_code_yX2_findBest : Cond.code yX2_findBest cX2_findBest 4 none ∈ TS := ts_mem 691 (by decide +kernel) rfl
theorem dX2_readFrom_0 : decode cX2_readFrom 0 = .ok (.aload_n 0, 1) := by decide +kernel
theorem dX2_readFrom_1 : decode cX2_readFrom 1 = .ok (.iload_n 2, 1) := by decide +kernel
theorem dX2_readFrom_2 : decode cX2_readFrom 2 = .ok (.bipush 7, 2) := by decide +kernel
theorem dX2_readFrom_4 : decode cX2_readFrom 4 = .ok (.invokestatic 58, 3) := by decide +kernel
theorem dX2_readFrom_7 : decode cX2_readFrom 7 = .ok (.putfield 18, 3) := by decide +kernel
theorem dX2_readFrom_10 : decode cX2_readFrom 10 = .ok (.iconst 0, 1) := by decide +kernel
theorem dX2_readFrom_11 : decode cX2_readFrom 11 = .ok (.istore_n 3, 1) := by decide +kernel
theorem dX2_readFrom_12 : decode cX2_readFrom 12 = .ok (.iconst 0, 1) := by decide +kernel
theorem dX2_readFrom_13 : decode cX2_readFrom 13 = .ok (.istore 4, 2) := by decide +kernel
theorem dX2_readFrom_15 : decode cX2_readFrom 15 = .ok (.iload 4, 2) := by decide +kernel
theorem dX2_readFrom_17 : decode cX2_readFrom 17 = .ok (.aload_n 0, 1) := by decide +kernel
theorem dX2_readFrom_18 : decode cX2_readFrom 18 = .ok (.getfield 18, 3) := by decide +kernel
theorem dX2_readFrom_21 : decode cX2_readFrom 21 = .ok (.if_icmp .ge 56, 3) := by decide +kernel
theorem dX2_readFrom_24 : decode cX2_readFrom 24 = .ok (.aload_n 1, 1) := by decide +kernel
theorem dX2_readFrom_25 : decode cX2_readFrom 25 = .ok (.iload 4, 2) := by decide +kernel
theorem dX2_readFrom_27 : decode cX2_readFrom 27 = .ok (.invokevirtual 64, 3) := by decide +kernel
theorem dX2_readFrom_30 : decode cX2_readFrom 30 = .ok (.istore 5, 2) := by decide +kernel
theorem dX2_readFrom_32 : decode cX2_readFrom 32 = .ok (.aload_n 0, 1) := by decide +kernel
theorem dX2_readFrom_33 : decode cX2_readFrom 33 = .ok (.getfield 34, 3) := by decide +kernel
theorem dX2_readFrom_36 : decode cX2_readFrom 36 = .ok (.iload 5, 2) := by decide +kernel
theorem dX2_readFrom_38 : decode cX2_readFrom 38 = .ok (.invokevirtual 69, 3) := by decide +kernel
theorem dX2_readFrom_41 : decode cX2_readFrom 41 = .ok (.ifCond .eq 12, 3) := by decide +kernel
theorem dX2_readFrom_44 : decode cX2_readFrom 44 = .ok (.iload_n 3, 1) := by decide +kernel
theorem dX2_readFrom_45 : decode cX2_readFrom 45 = .ok (.iload 5, 2) := by decide +kernel
theorem dX2_readFrom_47 : decode cX2_readFrom 47 = .ok (.ishr, 1) := by decide +kernel
theorem dX2_readFrom_48 : decode cX2_readFrom 48 = .ok (.iconst 1, 1) := by decide +kernel
theorem dX2_readFrom_49 : decode cX2_readFrom 49 = .ok (.iand, 1) := by decide +kernel
theorem dX2_readFrom_50 : decode cX2_readFrom 50 = .ok (.ifCond .eq 5, 3) := by decide +kernel
theorem dX2_readFrom_53 : decode cX2_readFrom 53 = .ok (.iconst 0, 1) := by decide +kernel
theorem dX2_readFrom_54 : decode cX2_readFrom 54 = .ok (.ireturn, 1) := by decide +kernel
theorem dX2_readFrom_55 : decode cX2_readFrom 55 = .ok (.iload_n 3, 1) := by decide +kernel
theorem dX2_readFrom_56 : decode cX2_readFrom 56 = .ok (.iconst 1, 1) := by decide +kernel
theorem dX2_readFrom_57 : decode cX2_readFrom 57 = .ok (.iload 5, 2) := by decide +kernel
theorem dX2_readFrom_59 : decode cX2_readFrom 59 = .ok (.ishl, 1) := by decide +kernel
theorem dX2_readFrom_60 : decode cX2_readFrom 60 = .ok (.ior, 1) := by decide +kernel
theorem dX2_readFrom_61 : decode cX2_readFrom 61 = .ok (.istore_n 3, 1) := by decide +kernel
theorem dX2_readFrom_62 : decode cX2_readFrom 62 = .ok (.aload_n 0, 1) := by decide +kernel
theorem dX2_readFrom_63 : decode cX2_readFrom 63 = .ok (.getfield 9, 3) := by decide +kernel
theorem dX2_readFrom_66 : decode cX2_readFrom 66 = .ok (.iload 4, 2) := by decide +kernel
theorem dX2_readFrom_68 : decode cX2_readFrom 68 = .ok (.iload 5, 2) := by decide +kernel
theorem dX2_readFrom_70 : decode cX2_readFrom 70 = .ok (.iastore, 1) := by decide +kernel
theorem dX2_readFrom_71 : decode cX2_readFrom 71 = .ok (.iinc 4 1, 3) := by decide +kernel
theorem dX2_readFrom_74 : decode cX2_readFrom 74 = .ok (.goto (-59), 3) := by decide +kernel
theorem dX2_readFrom_77 : decode cX2_readFrom 77 = .ok (.iconst 1, 1) := by decide +kernel
theorem dX2_readFrom_78 : decode cX2_readFrom 78 = .ok (.ireturn, 1) := by decide +kernel
abbrev k_X2_readFrom : zK := (cX2_readFrom, 6, RX2, (some .boolean), ({ frames := 2, cells := 0, slots := 0, locals := 42 } : Room))
theorem zc_X2_readFrom : zcal yX2_readFrom k_X2_readFrom.1 k_X2_readFrom.2.1 k_X2_readFrom.2.2.2.1 2 := ⟨tw_code_yX2_readFrom, tw_i_TollForHesitators_Order, ⟨by decide +kernel, by decide +kernel⟩, by decide +kernel⟩
theorem zv_X2_readFrom : Cond.instanceMethod yX2_readFrom ∈ TS ∧ Cond.selects RX2 yX2_readFrom yX2_readFrom ∈ TS := ⟨tw_inst_yX2_readFrom, tw_s_yX2_readFrom⟩
def v_X2_readFrom_r (R : rT) (S : sT) : Nat → oT → Int32 → Int32 → Int32 × oT
  | 0, O, _, _ => (0, O)
  | n + 1, O, v3, v4 => if (O.1 3) ≤ v4 then (1, O) else if (v_X4_has R (v_X5_intAt S v4)) = 0 then (0, O) else if ((v3 >>> ((v_X5_intAt S v4) &&& 31)) &&& 1) = 0 then v_X2_readFrom_r R S n (osa O 1 (upd (O.2 1) v4.toNatClampNeg (v_X5_intAt S v4))) (v3 ||| (1 <<< ((v_X5_intAt S v4) &&& 31))) (v4 + 1) else (0, O)
def p_X2_readFrom_r (R : rT) (S : sT) : Nat → oT → Int32 → Int32 → Prop
  | 0, _, _, _ => False
  | n + 1, O, v3, v4 => if (O.1 3) ≤ v4 then True else p_X5_intAt S v4 ∧ ((p_X4_has R (v_X5_intAt S v4)) ∧ (if (v_X4_has R (v_X5_intAt S v4)) = 0 then True else if ((v3 >>> ((v_X5_intAt S v4) &&& 31)) &&& 1) = 0 then vp_in v4 7 ∧ (p_X2_readFrom_r R S n (osa O 1 (upd (O.2 1) v4.toNatClampNeg (v_X5_intAt S v4))) (v3 ||| (1 <<< ((v_X5_intAt S v4) &&& 31))) (v4 + 1)) else True))
def v_X2_readFrom (O : oT) (R : rT) (S : sT) (x2 : Int32) : Int32 × oT := v_X2_readFrom_r R S 200 (osf O 3 (if 7 < x2 then 7 else x2)) 0 0
def p_X2_readFrom (O : oT) (R : rT) (S : sT) (x2 : Int32) : Prop := p_X2_readFrom_r R S 200 (osf O 3 (if 7 < x2 then 7 else x2)) 0 0
set_option maxHeartbeats 800000 in
theorem w_X2_readFrom {G : zG} {P : pT} {Γ : zT} {A : Nat → Prop} {res : Int32 × oT} (a : Nat → Nat) (b : Nat → Nat) (c : Nat → Nat) (R : rT) (S : sT) (hw : wk (gX G P) A Γ.2.2.1.1.heap) (hQ : zQ Γ (Qwi G (fun r w => r = (res).1 ∧ w = orW G a b ((res).2) ++ rdW G b R ++ shW G c S) A) 0 0 A) : ∀ n : Nat, (∀ (O : oT) (v3 : Int32) (v4 : Int32), p_X2_readFrom_r R S n O v3 v4 → v_X2_readFrom_r R S n O v3 v4 = res → Z k_X2_readFrom G Γ (wr G A Γ.2.2.1.1.heap (orW G a b O ++ rdW G b R ++ shW G c S)) 0 0 [(0, .ref (a 0)), (1, .ref (c 0)), (3, .int v3), (4, .int v4)] 15 []) := by
  intro n
  induction n with
  | zero => exact fun O v3 v4 hp => absurd hp (by rw [p_X2_readFrom_r]; exact not_false)
  | succ n ih =>
    intro O v3 v4 hp hv
    rw [p_X2_readFrom_r] at hp
    rw [v_X2_readFrom_r] at hv
    refine z_iload dX2_readFrom_15 rfl ?_
    refine z_aload_n dX2_readFrom_17 rfl ?_
    refine z_get (v := .int (O.1 3)) wr_P 0 rfl rfl uin_X2 3 (Nat.le_of_ble_eq_true rfl) tw_f_RX2_18 rfl rfl dX2_readFrom_18 ?_
    refine z_icmp_ge (tgt := 77) dX2_readFrom_21 (by decide) (fun c1 => ?_) (fun c1 => ?_)
    · have hp := ip_t hp c1; have hv := it_t hv c1
      refine z_iconst (v := 1) dX2_readFrom_77 rfl ?_
      subst hv; exact z_zret_W hQ rfl rfl rfl rfl ⟨rfl, rfl⟩ dX2_readFrom_78
    · have hp := ip_f hp c1; have hv := it_f hv c1
      refine z_aload_n dX2_readFrom_24 rfl ?_
      refine z_iload dX2_readFrom_25 rfl ?_
      obtain ⟨q2, hp⟩ := hp
      refine z_cvi (c_X5_intAt G P c S v4 q2) zc_X5_intAt zv_X5_intAt tw_m_RX2_64 (zrec_of wr_P 8 rfl rfl) (fr_all (sub_P wr_P [8, 9] rfl) (wr_G hw)) (zroom_of rfl) rfl (Nat.le_of_ble_eq_true rfl) dX2_readFrom_27 ?_
      refine z_istore (lv' := [(5, .int (v_X5_intAt S v4)), (0, .ref (a 0)), (1, .ref (c 0)), (3, .int v3), (4, .int v4)]) dX2_readFrom_30 (Nat.le_of_ble_eq_true rfl) rfl ?_
      refine z_aload_n dX2_readFrom_32 rfl ?_
      refine z_get (v := .ref (b 0)) wr_P 0 rfl rfl uin_X2 0 (Nat.le_of_ble_eq_true rfl) tw_f_RX2_34 rfl rfl dX2_readFrom_33 ?_
      refine z_iload dX2_readFrom_36 rfl ?_
      obtain ⟨q3, hp⟩ := hp
      refine z_cvi (c_X4_has G P b R (v_X5_intAt S v4) q3) zc_X4_has zv_X4_has tw_m_RX2_69 (zrec_of wr_P 3 rfl rfl) (fr_all (sub_P wr_P [3, 4, 5, 6, 7] rfl) (wr_G hw)) (zroom_of rfl) rfl (Nat.le_of_ble_eq_true rfl) dX2_readFrom_38 ?_
      refine z_if_eq (tgt := 53) dX2_readFrom_41 (by decide) (fun c4 => ?_) (fun c4 => ?_)
      · have hp := ip_t hp c4; have hv := it_t hv c4
        refine z_iconst (v := 0) dX2_readFrom_53 rfl ?_
        subst hv; exact z_zret_W hQ rfl rfl rfl rfl ⟨rfl, rfl⟩ dX2_readFrom_54
      · have hp := ip_f hp c4; have hv := it_f hv c4
        refine z_iload_n dX2_readFrom_44 rfl ?_
        refine z_iload dX2_readFrom_45 rfl ?_
        refine z_ishr dX2_readFrom_47 ?_
        refine z_iconst (v := 1) dX2_readFrom_48 rfl ?_
        refine z_iand dX2_readFrom_49 ?_
        refine z_if_eq (tgt := 55) dX2_readFrom_50 (by decide) (fun c5 => ?_) (fun c5 => ?_)
        · have hp := ip_t hp c5; have hv := it_t hv c5
          refine z_iload_n dX2_readFrom_55 rfl ?_
          refine z_iconst (v := 1) dX2_readFrom_56 rfl ?_
          refine z_iload dX2_readFrom_57 rfl ?_
          refine z_ishl dX2_readFrom_59 ?_
          refine z_ior dX2_readFrom_60 ?_
          refine z_istore_n (lv' := [(3, .int (v3 ||| (1 <<< ((v_X5_intAt S v4) &&& 31)))), (5, .int (v_X5_intAt S v4)), (0, .ref (a 0)), (1, .ref (c 0)), (4, .int v4)]) dX2_readFrom_61 (Nat.le_of_ble_eq_true rfl) rfl ?_
          refine z_aload_n dX2_readFrom_62 rfl ?_
          refine z_get (v := .ref (a 1)) wr_P 0 rfl rfl uin_X2 1 (Nat.le_of_ble_eq_true rfl) tw_f_RX2_9 rfl rfl dX2_readFrom_63 ?_
          refine z_iload dX2_readFrom_66 rfl ?_
          refine z_iload dX2_readFrom_68 rfl ?_
          obtain ⟨q6, hp⟩ := hp
          refine z_iastx (F := upd (O.2 1) v4.toNatClampNeg (v_X5_intAt S v4)) (ws' := orW G a b (osa O 1 (upd (O.2 1) v4.toNatClampNeg (v_X5_intAt S v4))) ++ rdW G b R ++ shW G c S) 1 rfl q6 rfl rfl dX2_readFrom_70 ?_
          refine z_iinc (v := v4 + 1) (lv' := [(4, .int (v4 + 1)), (3, .int (v3 ||| (1 <<< ((v_X5_intAt S v4) &&& 31)))), (5, .int (v_X5_intAt S v4)), (0, .ref (a 0)), (1, .ref (c 0))]) dX2_readFrom_71 4 rfl rfl (Nat.le_of_ble_eq_true rfl) rfl ?_
          refine z_goto (tgt := 15) dX2_readFrom_74 (by decide) ?_
          exact z_lv rfl ((ih) (osa O 1 (upd (O.2 1) v4.toNatClampNeg (v_X5_intAt S v4))) (v3 ||| (1 <<< ((v_X5_intAt S v4) &&& 31))) (v4 + 1) hp hv)
        · have hp := ip_f hp c5; have hv := it_f hv c5
          refine z_iconst (v := 0) dX2_readFrom_53 rfl ?_
          subst hv; exact z_zret_W hQ rfl rfl rfl rfl ⟨rfl, rfl⟩ dX2_readFrom_54
set_option maxHeartbeats 800000 in
theorem c_X2_readFrom {l : Launch} (G : zG) (P : pT) (a : Nat → Nat) (b : Nat → Nat) (c : Nat → Nat) (sz : Nat) (O : oT) (R : rT) (S : sT) (x2 : Int32) (hp : p_X2_readFrom O R S x2) : Met l yX2_readFrom (.code yX2_readFrom k_X2_readFrom.1 k_X2_readFrom.2.1 k_X2_readFrom.2.2.2.1 :: TS) k_X2_readFrom.2.2.2.2 (Pz G [.ref (a 0), .ref (c 0), .int x2] (Fw G (gX G P) (orW G a b O ++ rdW G b R ++ shW G c S) sz)) (Qwi G (fun r w => r = (v_X2_readFrom O R S x2).1 ∧ w = orW G a b ((v_X2_readFrom O R S x2).2) ++ rdW G b R ++ shW G c S) (va_A (orW G a b O ++ rdW G b R ++ shW G c S) sz)) 0 0 (va_A (orW G a b O ++ rdW G b R ++ shW G c S) sz) := by
  refine zmet (K := k_X2_readFrom) (by decide +kernel) rfl rfl (fun Γ hl0 hQ hN hF => ?_)
  refine z_start (gX_ok G P) hF (fun hw => ?_)
  generalize va_A (orW G a b O ++ rdW G b R ++ shW G c S) sz = A at hQ hw ⊢
  obtain ⟨res, hv⟩ : ∃ res, v_X2_readFrom O R S x2 = res := ⟨_, rfl⟩
  rw [hv] at hQ
  unfold v_X2_readFrom at hv
  unfold p_X2_readFrom at hp
  show Z k_X2_readFrom G Γ _ 0 0 [(0, .ref (a 0)), (1, .ref (c 0)), (2, .int x2)] 0 []
  refine z_aload_n dX2_readFrom_0 rfl ?_
  refine z_iload_n dX2_readFrom_1 rfl ?_
  refine z_bipush (v := 7) dX2_readFrom_2 rfl ?_
  refine z_min tw_m_RX2_58 tw_st_yJ9_min_7cf53 tw_i_java_lang_Math tw_code_yJ9_min_7cf53 ⟨Nat.le_of_ble_eq_true rfl, Nat.le_of_ble_eq_true rfl, Nat.le_of_ble_eq_true rfl, Nat.le_of_ble_eq_true rfl⟩ dX2_readFrom_4 ?_
  refine z_put (fs := orF a b O) (v := .int (if 7 < x2 then 7 else x2)) (ws' := orW G a b (osf O 3 (if 7 < x2 then 7 else x2)) ++ rdW G b R ++ shW G c S) 0 rfl rfl uin_X2 tyX2 tyX2_ok nmX2 3 (Nat.le_of_ble_eq_true rfl) tw_f_RX2_18 rfl rfl (ty := .int) rfl rfl rfl (Nat.le_of_ble_eq_true rfl) rfl dX2_readFrom_7 ?_
  refine z_iconst (v := 0) dX2_readFrom_10 rfl ?_
  refine z_istore_n (lv' := [(3, .int 0), (0, .ref (a 0)), (1, .ref (c 0)), (2, .int x2)]) dX2_readFrom_11 (Nat.le_of_ble_eq_true rfl) rfl ?_
  refine z_iconst (v := 0) dX2_readFrom_12 rfl ?_
  refine z_istore (lv' := [(4, .int 0), (3, .int 0), (0, .ref (a 0)), (1, .ref (c 0)), (2, .int x2)]) dX2_readFrom_13 (Nat.le_of_ble_eq_true rfl) rfl ?_
  exact z_lv rfl ((w_X2_readFrom a b c R S hw hQ 200) (osf O 3 (if 7 < x2 then 7 else x2)) 0 0 hp hv)
theorem dX2_play_0 : decode cX2_play 0 = .ok (.aload_n 0, 1) := by decide +kernel
theorem dX2_play_1 : decode cX2_play 1 = .ok (.invokevirtual 73, 3) := by decide +kernel
theorem dX2_play_4 : decode cX2_play 4 = .ok (.iconst 0, 1) := by decide +kernel
theorem dX2_play_5 : decode cX2_play 5 = .ok (.istore_n 2, 1) := by decide +kernel
theorem dX2_play_6 : decode cX2_play 6 = .ok (.iload_n 2, 1) := by decide +kernel
theorem dX2_play_7 : decode cX2_play 7 = .ok (.aload_n 0, 1) := by decide +kernel
theorem dX2_play_8 : decode cX2_play 8 = .ok (.getfield 18, 3) := by decide +kernel
theorem dX2_play_11 : decode cX2_play 11 = .ok (.if_icmp .ge 78, 3) := by decide +kernel
theorem dX2_play_14 : decode cX2_play 14 = .ok (.aload_n 0, 1) := by decide +kernel
theorem dX2_play_15 : decode cX2_play 15 = .ok (.iload_n 2, 1) := by decide +kernel
theorem dX2_play_16 : decode cX2_play 16 = .ok (.invokevirtual 38, 3) := by decide +kernel
theorem dX2_play_19 : decode cX2_play 19 = .ok (.istore_n 3, 1) := by decide +kernel
theorem dX2_play_20 : decode cX2_play 20 = .ok (.iload_n 3, 1) := by decide +kernel
theorem dX2_play_21 : decode cX2_play 21 = .ok (.iconst (-1), 1) := by decide +kernel
theorem dX2_play_22 : decode cX2_play 22 = .ok (.if_icmp .ne 6, 3) := by decide +kernel
theorem dX2_play_25 : decode cX2_play 25 = .ok (.goto 58, 3) := by decide +kernel
theorem dX2_play_28 : decode cX2_play 28 = .ok (.iload_n 1, 1) := by decide +kernel
theorem dX2_play_29 : decode cX2_play 29 = .ok (.iload_n 3, 1) := by decide +kernel
theorem dX2_play_30 : decode cX2_play 30 = .ok (.ishr, 1) := by decide +kernel
theorem dX2_play_31 : decode cX2_play 31 = .ok (.iconst 1, 1) := by decide +kernel
theorem dX2_play_32 : decode cX2_play 32 = .ok (.iand, 1) := by decide +kernel
theorem dX2_play_33 : decode cX2_play 33 = .ok (.ifCond .eq 7, 3) := by decide +kernel
theorem dX2_play_36 : decode cX2_play 36 = .ok (.iconst 1, 1) := by decide +kernel
theorem dX2_play_37 : decode cX2_play 37 = .ok (.goto 4, 3) := by decide +kernel
theorem dX2_play_40 : decode cX2_play 40 = .ok (.iconst 0, 1) := by decide +kernel
theorem dX2_play_41 : decode cX2_play 41 = .ok (.istore 4, 2) := by decide +kernel
theorem dX2_play_43 : decode cX2_play 43 = .ok (.aload_n 0, 1) := by decide +kernel
theorem dX2_play_44 : decode cX2_play 44 = .ok (.iload_n 3, 1) := by decide +kernel
theorem dX2_play_45 : decode cX2_play 45 = .ok (.iload 4, 2) := by decide +kernel
theorem dX2_play_47 : decode cX2_play 47 = .ok (.ifCond .eq 7, 3) := by decide +kernel
theorem dX2_play_50 : decode cX2_play 50 = .ok (.iconst 0, 1) := by decide +kernel
theorem dX2_play_51 : decode cX2_play 51 = .ok (.goto 29, 3) := by decide +kernel
theorem dX2_play_54 : decode cX2_play 54 = .ok (.aload_n 0, 1) := by decide +kernel
theorem dX2_play_55 : decode cX2_play 55 = .ok (.getfield 34, 3) := by decide +kernel
theorem dX2_play_58 : decode cX2_play 58 = .ok (.iload_n 3, 1) := by decide +kernel
theorem dX2_play_59 : decode cX2_play 59 = .ok (.aload_n 0, 1) := by decide +kernel
theorem dX2_play_60 : decode cX2_play 60 = .ok (.iload_n 2, 1) := by decide +kernel
theorem dX2_play_61 : decode cX2_play 61 = .ok (.iconst 1, 1) := by decide +kernel
theorem dX2_play_62 : decode cX2_play 62 = .ok (.isub, 1) := by decide +kernel
theorem dX2_play_63 : decode cX2_play 63 = .ok (.invokevirtual 76, 3) := by decide +kernel
theorem dX2_play_66 : decode cX2_play 66 = .ok (.aload_n 0, 1) := by decide +kernel
theorem dX2_play_67 : decode cX2_play 67 = .ok (.iload_n 2, 1) := by decide +kernel
theorem dX2_play_68 : decode cX2_play 68 = .ok (.iconst 1, 1) := by decide +kernel
theorem dX2_play_69 : decode cX2_play 69 = .ok (.iadd, 1) := by decide +kernel
theorem dX2_play_70 : decode cX2_play 70 = .ok (.invokevirtual 76, 3) := by decide +kernel
theorem dX2_play_73 : decode cX2_play 73 = .ok (.aload_n 0, 1) := by decide +kernel
theorem dX2_play_74 : decode cX2_play 74 = .ok (.invokevirtual 79, 3) := by decide +kernel
theorem dX2_play_77 : decode cX2_play 77 = .ok (.invokevirtual 83, 3) := by decide +kernel
theorem dX2_play_80 : decode cX2_play 80 = .ok (.invokevirtual 87, 3) := by decide +kernel
theorem dX2_play_83 : decode cX2_play 83 = .ok (.iinc 2 1, 3) := by decide +kernel
theorem dX2_play_86 : decode cX2_play 86 = .ok (.goto (-80), 3) := by decide +kernel
theorem dX2_play_89 : decode cX2_play 89 = .ok (.return_, 1) := by decide +kernel
abbrev k_X2_play : zK := (cX2_play, 5, RX2, none, ({ frames := 4, cells := 0, slots := 0, locals := 90 } : Room))
theorem zc_X2_play : zcal yX2_play k_X2_play.1 k_X2_play.2.1 k_X2_play.2.2.2.1 1 := ⟨tw_code_yX2_play, tw_i_TollForHesitators_Order, ⟨by decide +kernel, by decide +kernel⟩, by decide +kernel⟩
theorem zv_X2_play : Cond.instanceMethod yX2_play ∈ TS ∧ Cond.selects RX2 yX2_play yX2_play ∈ TS := ⟨tw_inst_yX2_play, tw_s_yX2_play⟩
def v_X2_play_r (P : pT) (R : rT) : Nat → oT → Int32 → Int32 → oT
  | 0, O, _, _ => O
  | n + 1, O, v1, v2 => if (O.1 3) ≤ v2 then O else kk (if (v_X2_memberAt O v2) = (-1) then O else (v_X2_count O (v_X2_memberAt O v2) (if (if ((v1 >>> ((v_X2_memberAt O v2) &&& 31)) &&& 1) = 0 then (0 : Int32) else 1) = 0 then (v_X4_comesTo P R (v_X2_memberAt O v2) (v_X2_nerveAt O R (v2 - 1)) (v_X2_nerveAt O R (v2 + 1)) (v_X2_seen O)) else 0))) (fun M24 : oT => v_X2_play_r P R n M24 v1 (v2 + 1))
def p_X2_play_r (P : pT) (R : rT) : Nat → oT → Int32 → Int32 → Prop
  | 0, _, _, _ => False
  | n + 1, O, v1, v2 => if (O.1 3) ≤ v2 then True else p_X2_memberAt O v2 ∧ ((if (v_X2_memberAt O v2) = (-1) then True else if (if ((v1 >>> ((v_X2_memberAt O v2) &&& 31)) &&& 1) = 0 then (0 : Int32) else 1) = 0 then (p_X2_nerveAt O R (v2 - 1)) ∧ ((p_X2_nerveAt O R (v2 + 1)) ∧ (p_X4_comesTo P R (v_X2_memberAt O v2) (v_X2_nerveAt O R (v2 - 1)) (v_X2_nerveAt O R (v2 + 1)) (v_X2_seen O))) else True) ∧ (kk (if (v_X2_memberAt O v2) = (-1) then O else (v_X2_count O (v_X2_memberAt O v2) (if (if ((v1 >>> ((v_X2_memberAt O v2) &&& 31)) &&& 1) = 0 then (0 : Int32) else 1) = 0 then (v_X4_comesTo P R (v_X2_memberAt O v2) (v_X2_nerveAt O R (v2 - 1)) (v_X2_nerveAt O R (v2 + 1)) (v_X2_seen O)) else 0))) (fun M24 : oT => p_X2_play_r P R n M24 v1 (v2 + 1))))
def v_X2_play (P : pT) (O : oT) (R : rT) (x1 : Int32) : oT := kk (v_X2_begin O) (fun q1 : oT => v_X2_play_r P R 200 q1 x1 0)
def p_X2_play (P : pT) (O : oT) (R : rT) (x1 : Int32) : Prop := kk (v_X2_begin O) (fun q1 : oT => p_X2_play_r P R 200 q1 x1 0)
set_option maxHeartbeats 800000 in
theorem w_X2_play {G : zG} {P : pT} {Γ : zT} {A : Nat → Prop} {res : oT} (a : Nat → Nat) (b : Nat → Nat) (R : rT) (hw : wk (gX G P) A Γ.2.2.1.1.heap) (hQ : zQ Γ (Qwv G (fun w => w = orW G a b (res) ++ rdW G b R) A) 0 0 A) : ∀ n : Nat, (∀ (O : oT) (v1 : Int32) (v2 : Int32), p_X2_play_r P R n O v1 v2 → v_X2_play_r P R n O v1 v2 = res → Z k_X2_play G Γ (wr G A Γ.2.2.1.1.heap (orW G a b O ++ rdW G b R)) 0 0 [(0, .ref (a 0)), (1, .int v1), (2, .int v2)] 6 []) := by
  intro n
  induction n with
  | zero => exact fun O v1 v2 hp => absurd hp (by rw [p_X2_play_r]; exact not_false)
  | succ n ih =>
    intro O v1 v2 hp hv
    rw [p_X2_play_r] at hp
    rw [v_X2_play_r] at hv
    refine z_iload_n dX2_play_6 rfl ?_
    refine z_aload_n dX2_play_7 rfl ?_
    refine z_get (v := .int (O.1 3)) wr_P 0 rfl rfl uin_X2 3 (Nat.le_of_ble_eq_true rfl) tw_f_RX2_18 rfl rfl dX2_play_8 ?_
    refine z_icmp_ge (tgt := 89) dX2_play_11 (by decide) (fun c2 => ?_) (fun c2 => ?_)
    · have hp := ip_t hp c2; have hv := it_t hv c2
      subst hv; exact z_vret_W hQ rfl rfl rfl rfl dX2_play_89
    · have hp := ip_f hp c2; have hv := it_f hv c2
      refine z_aload_n dX2_play_14 rfl ?_
      refine z_iload_n dX2_play_15 rfl ?_
      obtain ⟨q14, hp⟩ := hp
      refine z_cvi (c_X2_memberAt G P a b O v2 q14) zc_X2_memberAt zv_X2_memberAt tw_m_RX2_38 (zrec_of wr_P 0 rfl rfl) (fr_all (sub_P wr_P [0, 1, 2] rfl) (wr_G hw)) (zroom_of rfl) rfl (Nat.le_of_ble_eq_true rfl) dX2_play_16 ?_
      refine z_istore_n (lv' := [(3, .int (v_X2_memberAt O v2)), (0, .ref (a 0)), (1, .int v1), (2, .int v2)]) dX2_play_19 (Nat.le_of_ble_eq_true rfl) rfl ?_
      refine z_iload_n dX2_play_20 rfl ?_
      refine z_iconst (v := (-1)) dX2_play_21 rfl ?_
      obtain ⟨hpm, hp⟩ := hp
      have J25 : ∀ M24 : oT, M24 = (if (v_X2_memberAt O v2) = (-1) then O else (v_X2_count O (v_X2_memberAt O v2) (if (if ((v1 >>> ((v_X2_memberAt O v2) &&& 31)) &&& 1) = 0 then (0 : Int32) else 1) = 0 then (v_X4_comesTo P R (v_X2_memberAt O v2) (v_X2_nerveAt O R (v2 - 1)) (v_X2_nerveAt O R (v2 + 1)) (v_X2_seen O)) else 0))) → Z k_X2_play G Γ (wr G A Γ.2.2.1.1.heap (orW G a b M24 ++ rdW G b R)) 0 0 [(3, .int (v_X2_memberAt O v2)), (0, .ref (a 0)), (1, .int v1), (2, .int v2)] 83 [] := by
        intro M24 eM24
        have hp := kk_pq hp eM24
        have hv := kk_vq hv eM24
        clear eM24
        refine z_iinc (v := v2 + 1) (lv' := [(2, .int (v2 + 1)), (3, .int (v_X2_memberAt O v2)), (0, .ref (a 0)), (1, .int v1)]) dX2_play_83 3 rfl rfl (Nat.le_of_ble_eq_true rfl) rfl ?_
        refine z_goto (tgt := 6) dX2_play_86 (by decide) ?_
        exact z_lv rfl ((ih) M24 v1 (v2 + 1) hp hv)
      refine z_icmp_ne (tgt := 28) dX2_play_22 (by decide) (fun c15 => ?_) (fun c15 => ?_)
      · have hp := ip_f hpm c15
        refine z_iload_n dX2_play_28 rfl ?_
        refine z_iload_n dX2_play_29 rfl ?_
        refine z_ishr dX2_play_30 ?_
        refine z_iconst (v := 1) dX2_play_31 rfl ?_
        refine z_iand dX2_play_32 ?_
        have J26 : ∀ m17 : Int32, m17 = (if ((v1 >>> ((v_X2_memberAt O v2) &&& 31)) &&& 1) = 0 then (0 : Int32) else 1) → Z k_X2_play G Γ (wr G A Γ.2.2.1.1.heap (orW G a b O ++ rdW G b R)) 0 0 [(3, .int (v_X2_memberAt O v2)), (0, .ref (a 0)), (1, .int v1), (2, .int v2)] 41 [.int m17] := by
          intro m17 em17
          rewrite [em17]; clear em17
          refine z_istore (lv' := [(4, .int (if ((v1 >>> ((v_X2_memberAt O v2) &&& 31)) &&& 1) = 0 then (0 : Int32) else 1)), (3, .int (v_X2_memberAt O v2)), (0, .ref (a 0)), (1, .int v1), (2, .int v2)]) dX2_play_41 (Nat.le_of_ble_eq_true rfl) rfl ?_
          refine z_aload_n dX2_play_43 rfl ?_
          refine z_iload_n dX2_play_44 rfl ?_
          refine z_iload dX2_play_45 rfl ?_
          have hpm := hp
          have J27 : ∀ m22 : Int32, m22 = (if (if ((v1 >>> ((v_X2_memberAt O v2) &&& 31)) &&& 1) = 0 then (0 : Int32) else 1) = 0 then (v_X4_comesTo P R (v_X2_memberAt O v2) (v_X2_nerveAt O R (v2 - 1)) (v_X2_nerveAt O R (v2 + 1)) (v_X2_seen O)) else 0) → Z k_X2_play G Γ (wr G A Γ.2.2.1.1.heap (orW G a b O ++ rdW G b R)) 0 0 [(4, .int (if ((v1 >>> ((v_X2_memberAt O v2) &&& 31)) &&& 1) = 0 then (0 : Int32) else 1)), (3, .int (v_X2_memberAt O v2)), (0, .ref (a 0)), (1, .int v1), (2, .int v2)] 80 [.int m22, .int (v_X2_memberAt O v2), .ref (a 0)] := by
            intro m22 em22
            rewrite [em22]; clear em22
            refine z_cwvvD (ws' := orW G a b (v_X2_count O (v_X2_memberAt O v2) (if (if ((v1 >>> ((v_X2_memberAt O v2) &&& 31)) &&& 1) = 0 then (0 : Int32) else 1) = 0 then (v_X4_comesTo P R (v_X2_memberAt O v2) (v_X2_nerveAt O R (v2 - 1)) (v_X2_nerveAt O R (v2 + 1)) (v_X2_seen O)) else 0)) ++ rdW G b R) hw (fun sz => c_X2_count G P a b sz O (v_X2_memberAt O v2) (if (if ((v1 >>> ((v_X2_memberAt O v2) &&& 31)) &&& 1) = 0 then (0 : Int32) else 1) = 0 then (v_X4_comesTo P R (v_X2_memberAt O v2) (v_X2_nerveAt O R (v2 - 1)) (v_X2_nerveAt O R (v2 + 1)) (v_X2_seen O)) else 0) ) [0, 1, 2] [3, 4, 5, 6, 7] [5, 6, 7, 0, 1, 2, 3, 4] 8 rfl rfl rfl rfl zc_X2_count zv_X2_count tw_m_RX2_87 (zrec_of wr_P 0 rfl rfl) (zroom_of rfl) rfl (Nat.le_of_ble_eq_true rfl) dX2_play_80 ?_
            exact z_lv rfl (J25 _ (if_neg c15).symm)
          refine z_if_eq (tgt := 54) dX2_play_47 (by decide) (fun c18 => ?_) (fun c18 => ?_)
          · have hp := ip_t hpm c18
            refine z_aload_n dX2_play_54 rfl ?_
            refine z_get (v := .ref (b 0)) wr_P 0 rfl rfl uin_X2 0 (Nat.le_of_ble_eq_true rfl) tw_f_RX2_34 rfl rfl dX2_play_55 ?_
            refine z_iload_n dX2_play_58 rfl ?_
            refine z_aload_n dX2_play_59 rfl ?_
            refine z_iload_n dX2_play_60 rfl ?_
            refine z_iconst (v := 1) dX2_play_61 rfl ?_
            refine z_isub dX2_play_62 ?_
            obtain ⟨q19, hp⟩ := hp
            refine z_cvi (c_X2_nerveAt G P a b O R (v2 - 1) q19) zc_X2_nerveAt zv_X2_nerveAt tw_m_RX2_76 (zrec_of wr_P 0 rfl rfl) (fr_all wr_P (wr_G hw)) (zroom_of rfl) rfl (Nat.le_of_ble_eq_true rfl) dX2_play_63 ?_
            refine z_aload_n dX2_play_66 rfl ?_
            refine z_iload_n dX2_play_67 rfl ?_
            refine z_iconst (v := 1) dX2_play_68 rfl ?_
            refine z_iadd dX2_play_69 ?_
            obtain ⟨q20, hp⟩ := hp
            refine z_cvi8 (c_X2_nerveAt G P a b O R (v2 + 1) q20) zc_X2_nerveAt zv_X2_nerveAt tw_m_RX2_76 (zrec_of wr_P 0 rfl rfl) (fr_all wr_P (wr_G hw)) (zroom_of rfl) rfl (Nat.le_of_ble_eq_true rfl) dX2_play_70 ?_
            refine z_aload_n dX2_play_73 rfl ?_
            refine z_cvi8 (c_X2_seen G P a b O ) zc_X2_seen zv_X2_seen tw_m_RX2_79 (zrec_of wr_P 0 rfl rfl) (fr_all (sub_P wr_P [0, 1, 2] rfl) (wr_G hw)) (zroom_of rfl) rfl (Nat.le_of_ble_eq_true rfl) dX2_play_74 ?_
            have q21 := hp
            refine z_cvi (c_X4_comesTo G P b R (v_X2_memberAt O v2) (v_X2_nerveAt O R (v2 - 1)) (v_X2_nerveAt O R (v2 + 1)) (v_X2_seen O) q21) zc_X4_comesTo zv_X4_comesTo tw_m_RX2_83 (zrec_of wr_P 3 rfl rfl) (fr_all (sub_P wr_P [3, 4, 5, 6, 7] rfl) (wr_G hw)) (zroom_of rfl) rfl (Nat.le_of_ble_eq_true rfl) dX2_play_77 ?_
            exact z_lv rfl (J27 _ (if_pos c18).symm)
          · have hp := ip_f hpm c18
            refine z_iconst (v := 0) dX2_play_50 rfl ?_
            refine z_goto (tgt := 80) dX2_play_51 (by decide) ?_
            exact z_lv rfl (J27 _ (if_neg c18).symm)
        refine z_if_eq (tgt := 40) dX2_play_33 (by decide) (fun c16 => ?_) (fun c16 => ?_)
        · skip
          refine z_iconst (v := 0) dX2_play_40 rfl ?_
          exact z_lv rfl (J26 _ (if_pos c16).symm)
        · skip
          refine z_iconst (v := 1) dX2_play_36 rfl ?_
          refine z_goto (tgt := 41) dX2_play_37 (by decide) ?_
          exact z_lv rfl (J26 _ (if_neg c16).symm)
      · have hp := ip_t hpm c15
        refine z_goto (tgt := 83) dX2_play_25 (by decide) ?_
        exact z_lv rfl (J25 _ (if_pos c15).symm)
set_option maxHeartbeats 800000 in
theorem c_X2_play {l : Launch} (G : zG) (P : pT) (a : Nat → Nat) (b : Nat → Nat) (sz : Nat) (O : oT) (R : rT) (x1 : Int32) (hp : p_X2_play P O R x1) : Met l yX2_play (.code yX2_play k_X2_play.1 k_X2_play.2.1 k_X2_play.2.2.2.1 :: TS) k_X2_play.2.2.2.2 (Pz G [.ref (a 0), .int x1] (Fw G (gX G P) (orW G a b O ++ rdW G b R) sz)) (Qwv G (fun w => w = orW G a b (v_X2_play P O R x1) ++ rdW G b R) (va_A (orW G a b O ++ rdW G b R) sz)) 0 0 (va_A (orW G a b O ++ rdW G b R) sz) := by
  refine zmet (K := k_X2_play) (by decide +kernel) rfl rfl (fun Γ hl0 hQ hN hF => ?_)
  refine z_start (gX_ok G P) hF (fun hw => ?_)
  generalize va_A (orW G a b O ++ rdW G b R) sz = A at hQ hw ⊢
  obtain ⟨res, hv⟩ : ∃ res, v_X2_play P O R x1 = res := ⟨_, rfl⟩
  rw [hv] at hQ
  unfold v_X2_play at hv
  unfold p_X2_play at hp
  show Z k_X2_play G Γ _ 0 0 [(0, .ref (a 0)), (1, .int x1)] 0 []
  refine z_aload_n dX2_play_0 rfl ?_
  refine z_cwvvD (ws' := orW G a b (v_X2_begin O) ++ rdW G b R) hw (fun sz => c_X2_begin G P a b sz O ) [0, 1, 2] [3, 4, 5, 6, 7] [5, 6, 7, 0, 1, 2, 3, 4] 8 rfl rfl rfl rfl zc_X2_begin zv_X2_begin tw_m_RX2_73 (zrec_of wr_P 0 rfl rfl) (zroom_of rfl) rfl (Nat.le_of_ble_eq_true rfl) dX2_play_1 ?_
  suffices z28 : ∀ q1 : oT, q1 = (v_X2_begin O) → Z k_X2_play G Γ (wr G A Γ.2.2.1.1.heap (orW G a b q1 ++ rdW G b R)) 0 0 [(0, .ref (a 0)), (1, .int x1)] 4 [] from z28 _ rfl
  intro q1 hq1
  have hp := kk_pq hp hq1
  have hv := kk_vq hv hq1
  clear hq1
  refine z_iconst (v := 0) dX2_play_4 rfl ?_
  refine z_istore_n (lv' := [(2, .int 0), (0, .ref (a 0)), (1, .int x1)]) dX2_play_5 (Nat.le_of_ble_eq_true rfl) rfl ?_
  exact z_lv rfl ((w_X2_play a b R hw hQ 200) q1 x1 0 hp hv)
theorem dX2_toldAt_0 : decode cX2_toldAt 0 = .ok (.aload_n 1, 1) := by decide +kernel
theorem dX2_toldAt_1 : decode cX2_toldAt 1 = .ok (.iload_n 2, 1) := by decide +kernel
theorem dX2_toldAt_2 : decode cX2_toldAt 2 = .ok (.invokevirtual 64, 3) := by decide +kernel
theorem dX2_toldAt_5 : decode cX2_toldAt 5 = .ok (.istore 5, 2) := by decide +kernel
theorem dX2_toldAt_7 : decode cX2_toldAt 7 = .ok (.iload_n 2, 1) := by decide +kernel
theorem dX2_toldAt_8 : decode cX2_toldAt 8 = .ok (.iload_n 3, 1) := by decide +kernel
theorem dX2_toldAt_9 : decode cX2_toldAt 9 = .ok (.if_icmp .ge 17, 3) := by decide +kernel
theorem dX2_toldAt_12 : decode cX2_toldAt 12 = .ok (.iload 5, 2) := by decide +kernel
theorem dX2_toldAt_14 : decode cX2_toldAt 14 = .ok (.ifCond .lt 12, 3) := by decide +kernel
theorem dX2_toldAt_17 : decode cX2_toldAt 17 = .ok (.iload 5, 2) := by decide +kernel
theorem dX2_toldAt_19 : decode cX2_toldAt 19 = .ok (.bipush 10, 2) := by decide +kernel
theorem dX2_toldAt_21 : decode cX2_toldAt 21 = .ok (.irem, 1) := by decide +kernel
theorem dX2_toldAt_22 : decode cX2_toldAt 22 = .ok (.iconst 2, 1) := by decide +kernel
theorem dX2_toldAt_23 : decode cX2_toldAt 23 = .ok (.if_icmp .le 5, 3) := by decide +kernel
theorem dX2_toldAt_26 : decode cX2_toldAt 26 = .ok (.iconst (-1), 1) := by decide +kernel
theorem dX2_toldAt_27 : decode cX2_toldAt 27 = .ok (.ireturn, 1) := by decide +kernel
theorem dX2_toldAt_28 : decode cX2_toldAt 28 = .ok (.iload 5, 2) := by decide +kernel
theorem dX2_toldAt_30 : decode cX2_toldAt 30 = .ok (.bipush 10, 2) := by decide +kernel
theorem dX2_toldAt_32 : decode cX2_toldAt 32 = .ok (.idiv, 1) := by decide +kernel
theorem dX2_toldAt_33 : decode cX2_toldAt 33 = .ok (.istore 6, 2) := by decide +kernel
theorem dX2_toldAt_35 : decode cX2_toldAt 35 = .ok (.aload_n 0, 1) := by decide +kernel
theorem dX2_toldAt_36 : decode cX2_toldAt 36 = .ok (.getfield 34, 3) := by decide +kernel
theorem dX2_toldAt_39 : decode cX2_toldAt 39 = .ok (.iload 6, 2) := by decide +kernel
theorem dX2_toldAt_41 : decode cX2_toldAt 41 = .ok (.invokevirtual 69, 3) := by decide +kernel
theorem dX2_toldAt_44 : decode cX2_toldAt 44 = .ok (.ifCond .eq 18, 3) := by decide +kernel
theorem dX2_toldAt_47 : decode cX2_toldAt 47 = .ok (.iload 4, 2) := by decide +kernel
theorem dX2_toldAt_49 : decode cX2_toldAt 49 = .ok (.iload 6, 2) := by decide +kernel
theorem dX2_toldAt_51 : decode cX2_toldAt 51 = .ok (.ishr, 1) := by decide +kernel
theorem dX2_toldAt_52 : decode cX2_toldAt 52 = .ok (.iconst 1, 1) := by decide +kernel
theorem dX2_toldAt_53 : decode cX2_toldAt 53 = .ok (.iand, 1) := by decide +kernel
theorem dX2_toldAt_54 : decode cX2_toldAt 54 = .ok (.ifCond .ne 8, 3) := by decide +kernel
theorem dX2_toldAt_57 : decode cX2_toldAt 57 = .ok (.iload 6, 2) := by decide +kernel
theorem dX2_toldAt_59 : decode cX2_toldAt 59 = .ok (.goto 4, 3) := by decide +kernel
theorem dX2_toldAt_62 : decode cX2_toldAt 62 = .ok (.iconst (-1), 1) := by decide +kernel
theorem dX2_toldAt_63 : decode cX2_toldAt 63 = .ok (.ireturn, 1) := by decide +kernel
abbrev k_X2_toldAt : zK := (cX2_toldAt, 7, RX2, (some .int), ({ frames := 2, cells := 0, slots := 0, locals := 42 } : Room))
theorem zc_X2_toldAt : zcal yX2_toldAt k_X2_toldAt.1 k_X2_toldAt.2.1 k_X2_toldAt.2.2.2.1 4 := ⟨tw_code_yX2_toldAt, tw_i_TollForHesitators_Order, ⟨by decide +kernel, by decide +kernel⟩, by decide +kernel⟩
theorem zv_X2_toldAt : Cond.instanceMethod yX2_toldAt ∈ TS ∧ Cond.selects RX2 yX2_toldAt yX2_toldAt ∈ TS := ⟨tw_inst_yX2_toldAt, tw_s_yX2_toldAt⟩
def v_X2_toldAt (O : oT) (R : rT) (S : sT) (x2 : Int32) (x3 : Int32) (x4 : Int32) : Int32 := if x3 ≤ x2 then (-1) else if (v_X5_intAt S x2) < 0 then (-1) else if ((v_X5_intAt S x2) - (v_X5_intAt S x2) / 10 * 10) ≤ 2 then (if (v_X4_has R ((v_X5_intAt S x2) / 10)) = 0 then (-1) else (if ((x4 >>> (((v_X5_intAt S x2) / 10) &&& 31)) &&& 1) = 0 then (v_X5_intAt S x2) / 10 else (-1))) else (-1)
def p_X2_toldAt (O : oT) (R : rT) (S : sT) (x2 : Int32) (x3 : Int32) (x4 : Int32) : Prop := p_X5_intAt S x2 ∧ (if x3 ≤ x2 then True else if (v_X5_intAt S x2) < 0 then True else if ((v_X5_intAt S x2) - (v_X5_intAt S x2) / 10 * 10) ≤ 2 then p_X4_has R ((v_X5_intAt S x2) / 10) else True)
set_option maxHeartbeats 800000 in
theorem c_X2_toldAt {l : Launch} (G : zG) (P : pT) (a : Nat → Nat) (b : Nat → Nat) (c : Nat → Nat) (O : oT) (R : rT) (S : sT) (x2 : Int32) (x3 : Int32) (x4 : Int32) (hp : p_X2_toldAt O R S x2 x3 x4) : Met l yX2_toldAt (.code yX2_toldAt k_X2_toldAt.1 k_X2_toldAt.2.1 k_X2_toldAt.2.2.2.1 :: TS) k_X2_toldAt.2.2.2.2 (Pz G [.ref (a 0), .ref (c 0), .int x2, .int x3, .int x4] (Fr G P (orW G a b O ++ rdW G b R ++ shW G c S))) (vp_Si (fun r => r = v_X2_toldAt O R S x2 x3 x4)) 0 0 (fun _ => False) := by
  refine zmet (K := k_X2_toldAt) (by decide +kernel) rfl rfl (fun Γ hl0 hQ hN hF => ?_)
  have hI := rd_P (G := G) hF.1
  have hG := rd_F hF.2
  obtain ⟨res, hv⟩ : ∃ res, v_X2_toldAt O R S x2 x3 x4 = res := ⟨_, rfl⟩
  rw [hv] at hQ
  unfold v_X2_toldAt at hv
  unfold p_X2_toldAt at hp
  show Z k_X2_toldAt G Γ _ 0 0 [(0, .ref (a 0)), (1, .ref (c 0)), (2, .int x2), (3, .int x3), (4, .int x4)] 0 []
  refine z_aload_n dX2_toldAt_0 rfl ?_
  refine z_iload_n dX2_toldAt_1 rfl ?_
  obtain ⟨q1, hp⟩ := hp
  refine z_cvi (c_X5_intAt G P c S x2 q1) zc_X5_intAt zv_X5_intAt tw_m_RX2_64 (zrec_of hI 8 rfl rfl) (fr_all (sub_P hI [8, 9] rfl) hG) (zroom_of rfl) rfl (Nat.le_of_ble_eq_true rfl) dX2_toldAt_2 ?_
  refine z_istore (lv' := [(5, .int (v_X5_intAt S x2)), (0, .ref (a 0)), (1, .ref (c 0)), (2, .int x2), (3, .int x3), (4, .int x4)]) dX2_toldAt_5 (Nat.le_of_ble_eq_true rfl) rfl ?_
  refine z_iload_n dX2_toldAt_7 rfl ?_
  refine z_iload_n dX2_toldAt_8 rfl ?_
  refine z_icmp_ge (tgt := 26) dX2_toldAt_9 (by decide) (fun c2 => ?_) (fun c2 => ?_)
  · have hp := ip_t hp c2; have hv := it_t hv c2
    refine z_iconst (v := (-1)) dX2_toldAt_26 rfl ?_
    exact z_iret_S hQ rfl hv dX2_toldAt_27
  · have hp := ip_f hp c2; have hv := it_f hv c2
    refine z_iload dX2_toldAt_12 rfl ?_
    refine z_if_lt (tgt := 26) dX2_toldAt_14 (by decide) (fun c3 => ?_) (fun c3 => ?_)
    · have hp := ip_t hp c3; have hv := it_t hv c3
      refine z_iconst (v := (-1)) dX2_toldAt_26 rfl ?_
      exact z_iret_S hQ rfl hv dX2_toldAt_27
    · have hp := ip_f hp c3; have hv := it_f hv c3
      refine z_iload dX2_toldAt_17 rfl ?_
      refine z_bipush (v := 10) dX2_toldAt_19 rfl ?_
      refine z_irem dX2_toldAt_21 (by decide) ?_
      refine z_iconst (v := 2) dX2_toldAt_22 rfl ?_
      refine z_icmp_le (tgt := 28) dX2_toldAt_23 (by decide) (fun c4 => ?_) (fun c4 => ?_)
      · have hp := ip_t hp c4; have hv := it_t hv c4
        refine z_iload dX2_toldAt_28 rfl ?_
        refine z_bipush (v := 10) dX2_toldAt_30 rfl ?_
        refine z_idiv dX2_toldAt_32 (by decide) ?_
        refine z_istore (lv' := [(6, .int ((v_X5_intAt S x2) / 10)), (5, .int (v_X5_intAt S x2)), (0, .ref (a 0)), (1, .ref (c 0)), (2, .int x2), (3, .int x3), (4, .int x4)]) dX2_toldAt_33 (Nat.le_of_ble_eq_true rfl) rfl ?_
        refine z_aload_n dX2_toldAt_35 rfl ?_
        refine z_get (v := .ref (b 0)) hI 0 rfl rfl uin_X2 0 (Nat.le_of_ble_eq_true rfl) tw_f_RX2_34 rfl rfl dX2_toldAt_36 ?_
        refine z_iload dX2_toldAt_39 rfl ?_
        have q5 := hp
        refine z_cvi (c_X4_has G P b R ((v_X5_intAt S x2) / 10) q5) zc_X4_has zv_X4_has tw_m_RX2_69 (zrec_of hI 3 rfl rfl) (fr_all (sub_P hI [3, 4, 5, 6, 7] rfl) hG) (zroom_of rfl) rfl (Nat.le_of_ble_eq_true rfl) dX2_toldAt_41 ?_
        have J10 : ∀ m9 : Int32, m9 = (if (v_X4_has R ((v_X5_intAt S x2) / 10)) = 0 then (-1) else (if ((x4 >>> (((v_X5_intAt S x2) / 10) &&& 31)) &&& 1) = 0 then (v_X5_intAt S x2) / 10 else (-1))) → Z k_X2_toldAt G Γ (rd Γ.2.2.1.1.heap) 0 0 [(6, .int ((v_X5_intAt S x2) / 10)), (5, .int (v_X5_intAt S x2)), (0, .ref (a 0)), (1, .ref (c 0)), (2, .int x2), (3, .int x3), (4, .int x4)] 63 [.int m9] := by
          intro m9 em9
          rewrite [em9]; clear em9
          exact z_iret_S hQ rfl hv dX2_toldAt_63
        refine z_if_eq (tgt := 62) dX2_toldAt_44 (by decide) (fun c6 => ?_) (fun c6 => ?_)
        · skip
          refine z_iconst (v := (-1)) dX2_toldAt_62 rfl ?_
          exact z_lv rfl (J10 _ (if_pos c6).symm)
        · skip
          refine z_iload dX2_toldAt_47 rfl ?_
          refine z_iload dX2_toldAt_49 rfl ?_
          refine z_ishr dX2_toldAt_51 ?_
          refine z_iconst (v := 1) dX2_toldAt_52 rfl ?_
          refine z_iand dX2_toldAt_53 ?_
          have J11 : ∀ m8 : Int32, m8 = (if ((x4 >>> (((v_X5_intAt S x2) / 10) &&& 31)) &&& 1) = 0 then (v_X5_intAt S x2) / 10 else (-1)) → Z k_X2_toldAt G Γ (rd Γ.2.2.1.1.heap) 0 0 [(6, .int ((v_X5_intAt S x2) / 10)), (5, .int (v_X5_intAt S x2)), (0, .ref (a 0)), (1, .ref (c 0)), (2, .int x2), (3, .int x3), (4, .int x4)] 63 [.int m8] := by
            intro m8 em8
            rewrite [em8]; clear em8
            exact z_lv rfl (J10 _ (if_neg c6).symm)
          refine z_if_ne (tgt := 62) dX2_toldAt_54 (by decide) (fun c7 => ?_) (fun c7 => ?_)
          · skip
            refine z_iconst (v := (-1)) dX2_toldAt_62 rfl ?_
            exact z_lv rfl (J11 _ (if_neg c7).symm)
          · skip
            refine z_iload dX2_toldAt_57 rfl ?_
            refine z_goto (tgt := 63) dX2_toldAt_59 (by decide) ?_
            exact z_lv rfl (J11 _ (if_pos c7).symm)
      · have hp := ip_f hp c4; have hv := it_f hv c4
        refine z_iconst (v := (-1)) dX2_toldAt_26 rfl ?_
        exact z_iret_S hQ rfl hv dX2_toldAt_27
theorem dX2_wrongIn_0 : decode cX2_wrongIn 0 = .ok (.aload_n 0, 1) := by decide +kernel
theorem dX2_wrongIn_1 : decode cX2_wrongIn 1 = .ok (.invokevirtual 73, 3) := by decide +kernel
theorem dX2_wrongIn_4 : decode cX2_wrongIn 4 = .ok (.iconst 0, 1) := by decide +kernel
theorem dX2_wrongIn_5 : decode cX2_wrongIn 5 = .ok (.istore_n 3, 1) := by decide +kernel
theorem dX2_wrongIn_6 : decode cX2_wrongIn 6 = .ok (.iconst (-1), 1) := by decide +kernel
theorem dX2_wrongIn_7 : decode cX2_wrongIn 7 = .ok (.istore 4, 2) := by decide +kernel
theorem dX2_wrongIn_9 : decode cX2_wrongIn 9 = .ok (.iconst 0, 1) := by decide +kernel
theorem dX2_wrongIn_10 : decode cX2_wrongIn 10 = .ok (.istore 5, 2) := by decide +kernel
theorem dX2_wrongIn_12 : decode cX2_wrongIn 12 = .ok (.iload 5, 2) := by decide +kernel
theorem dX2_wrongIn_14 : decode cX2_wrongIn 14 = .ok (.iload_n 2, 1) := by decide +kernel
theorem dX2_wrongIn_15 : decode cX2_wrongIn 15 = .ok (.if_icmp .ge 118, 3) := by decide +kernel
theorem dX2_wrongIn_18 : decode cX2_wrongIn 18 = .ok (.iload 5, 2) := by decide +kernel
theorem dX2_wrongIn_20 : decode cX2_wrongIn 20 = .ok (.bipush 7, 2) := by decide +kernel
theorem dX2_wrongIn_22 : decode cX2_wrongIn 22 = .ok (.if_icmp .ge 111, 3) := by decide +kernel
theorem dX2_wrongIn_25 : decode cX2_wrongIn 25 = .ok (.aload_n 0, 1) := by decide +kernel
theorem dX2_wrongIn_26 : decode cX2_wrongIn 26 = .ok (.aload_n 1, 1) := by decide +kernel
theorem dX2_wrongIn_27 : decode cX2_wrongIn 27 = .ok (.iload 5, 2) := by decide +kernel
theorem dX2_wrongIn_29 : decode cX2_wrongIn 29 = .ok (.iload_n 2, 1) := by decide +kernel
theorem dX2_wrongIn_30 : decode cX2_wrongIn 30 = .ok (.iload_n 3, 1) := by decide +kernel
theorem dX2_wrongIn_31 : decode cX2_wrongIn 31 = .ok (.invokevirtual 93, 3) := by decide +kernel
theorem dX2_wrongIn_34 : decode cX2_wrongIn 34 = .ok (.istore 6, 2) := by decide +kernel
theorem dX2_wrongIn_36 : decode cX2_wrongIn 36 = .ok (.iload 6, 2) := by decide +kernel
theorem dX2_wrongIn_38 : decode cX2_wrongIn 38 = .ok (.iconst (-1), 1) := by decide +kernel
theorem dX2_wrongIn_39 : decode cX2_wrongIn 39 = .ok (.if_icmp .ne 6, 3) := by decide +kernel
theorem dX2_wrongIn_42 : decode cX2_wrongIn 42 = .ok (.iload 5, 2) := by decide +kernel
theorem dX2_wrongIn_44 : decode cX2_wrongIn 44 = .ok (.ireturn, 1) := by decide +kernel
theorem dX2_wrongIn_45 : decode cX2_wrongIn 45 = .ok (.iload_n 3, 1) := by decide +kernel
theorem dX2_wrongIn_46 : decode cX2_wrongIn 46 = .ok (.iconst 1, 1) := by decide +kernel
theorem dX2_wrongIn_47 : decode cX2_wrongIn 47 = .ok (.iload 6, 2) := by decide +kernel
theorem dX2_wrongIn_49 : decode cX2_wrongIn 49 = .ok (.ishl, 1) := by decide +kernel
theorem dX2_wrongIn_50 : decode cX2_wrongIn 50 = .ok (.ior, 1) := by decide +kernel
theorem dX2_wrongIn_51 : decode cX2_wrongIn 51 = .ok (.istore_n 3, 1) := by decide +kernel
theorem dX2_wrongIn_52 : decode cX2_wrongIn 52 = .ok (.aload_n 0, 1) := by decide +kernel
theorem dX2_wrongIn_53 : decode cX2_wrongIn 53 = .ok (.aload_n 1, 1) := by decide +kernel
theorem dX2_wrongIn_54 : decode cX2_wrongIn 54 = .ok (.iload 5, 2) := by decide +kernel
theorem dX2_wrongIn_56 : decode cX2_wrongIn 56 = .ok (.iconst 1, 1) := by decide +kernel
theorem dX2_wrongIn_57 : decode cX2_wrongIn 57 = .ok (.iadd, 1) := by decide +kernel
theorem dX2_wrongIn_58 : decode cX2_wrongIn 58 = .ok (.iload_n 2, 1) := by decide +kernel
theorem dX2_wrongIn_59 : decode cX2_wrongIn 59 = .ok (.iload_n 3, 1) := by decide +kernel
theorem dX2_wrongIn_60 : decode cX2_wrongIn 60 = .ok (.invokevirtual 93, 3) := by decide +kernel
theorem dX2_wrongIn_63 : decode cX2_wrongIn 63 = .ok (.istore 7, 2) := by decide +kernel
theorem dX2_wrongIn_65 : decode cX2_wrongIn 65 = .ok (.aload_n 0, 1) := by decide +kernel
theorem dX2_wrongIn_66 : decode cX2_wrongIn 66 = .ok (.getfield 34, 3) := by decide +kernel
theorem dX2_wrongIn_69 : decode cX2_wrongIn 69 = .ok (.iload 6, 2) := by decide +kernel
theorem dX2_wrongIn_71 : decode cX2_wrongIn 71 = .ok (.aload_n 0, 1) := by decide +kernel
theorem dX2_wrongIn_72 : decode cX2_wrongIn 72 = .ok (.getfield 34, 3) := by decide +kernel
theorem dX2_wrongIn_75 : decode cX2_wrongIn 75 = .ok (.iload 4, 2) := by decide +kernel
theorem dX2_wrongIn_77 : decode cX2_wrongIn 77 = .ok (.invokevirtual 42, 3) := by decide +kernel
theorem dX2_wrongIn_80 : decode cX2_wrongIn 80 = .ok (.aload_n 0, 1) := by decide +kernel
theorem dX2_wrongIn_81 : decode cX2_wrongIn 81 = .ok (.getfield 34, 3) := by decide +kernel
theorem dX2_wrongIn_84 : decode cX2_wrongIn 84 = .ok (.iload 7, 2) := by decide +kernel
theorem dX2_wrongIn_86 : decode cX2_wrongIn 86 = .ok (.invokevirtual 42, 3) := by decide +kernel
theorem dX2_wrongIn_89 : decode cX2_wrongIn 89 = .ok (.aload_n 0, 1) := by decide +kernel
theorem dX2_wrongIn_90 : decode cX2_wrongIn 90 = .ok (.invokevirtual 79, 3) := by decide +kernel
theorem dX2_wrongIn_93 : decode cX2_wrongIn 93 = .ok (.invokevirtual 83, 3) := by decide +kernel
theorem dX2_wrongIn_96 : decode cX2_wrongIn 96 = .ok (.istore 8, 2) := by decide +kernel
theorem dX2_wrongIn_98 : decode cX2_wrongIn 98 = .ok (.iload 8, 2) := by decide +kernel
theorem dX2_wrongIn_100 : decode cX2_wrongIn 100 = .ok (.aload_n 1, 1) := by decide +kernel
theorem dX2_wrongIn_101 : decode cX2_wrongIn 101 = .ok (.iload 5, 2) := by decide +kernel
theorem dX2_wrongIn_103 : decode cX2_wrongIn 103 = .ok (.invokevirtual 64, 3) := by decide +kernel
theorem dX2_wrongIn_106 : decode cX2_wrongIn 106 = .ok (.bipush 10, 2) := by decide +kernel
theorem dX2_wrongIn_108 : decode cX2_wrongIn 108 = .ok (.irem, 1) := by decide +kernel
theorem dX2_wrongIn_109 : decode cX2_wrongIn 109 = .ok (.if_icmp .eq 6, 3) := by decide +kernel
theorem dX2_wrongIn_112 : decode cX2_wrongIn 112 = .ok (.iload 5, 2) := by decide +kernel
theorem dX2_wrongIn_114 : decode cX2_wrongIn 114 = .ok (.ireturn, 1) := by decide +kernel
theorem dX2_wrongIn_115 : decode cX2_wrongIn 115 = .ok (.aload_n 0, 1) := by decide +kernel
theorem dX2_wrongIn_116 : decode cX2_wrongIn 116 = .ok (.iload 6, 2) := by decide +kernel
theorem dX2_wrongIn_118 : decode cX2_wrongIn 118 = .ok (.iload 8, 2) := by decide +kernel
theorem dX2_wrongIn_120 : decode cX2_wrongIn 120 = .ok (.invokevirtual 87, 3) := by decide +kernel
theorem dX2_wrongIn_123 : decode cX2_wrongIn 123 = .ok (.iload 6, 2) := by decide +kernel
theorem dX2_wrongIn_125 : decode cX2_wrongIn 125 = .ok (.istore 4, 2) := by decide +kernel
theorem dX2_wrongIn_127 : decode cX2_wrongIn 127 = .ok (.iinc 5 1, 3) := by decide +kernel
theorem dX2_wrongIn_130 : decode cX2_wrongIn 130 = .ok (.goto (-118), 3) := by decide +kernel
theorem dX2_wrongIn_133 : decode cX2_wrongIn 133 = .ok (.iconst (-1), 1) := by decide +kernel
theorem dX2_wrongIn_134 : decode cX2_wrongIn 134 = .ok (.ireturn, 1) := by decide +kernel
abbrev k_X2_wrongIn : zK := (cX2_wrongIn, 9, RX2, (some .int), ({ frames := 4, cells := 0, slots := 0, locals := 90 } : Room))
theorem zc_X2_wrongIn : zcal yX2_wrongIn k_X2_wrongIn.1 k_X2_wrongIn.2.1 k_X2_wrongIn.2.2.2.1 2 := ⟨tw_code_yX2_wrongIn, tw_i_TollForHesitators_Order, ⟨by decide +kernel, by decide +kernel⟩, by decide +kernel⟩
theorem zv_X2_wrongIn : Cond.instanceMethod yX2_wrongIn ∈ TS ∧ Cond.selects RX2 yX2_wrongIn yX2_wrongIn ∈ TS := ⟨tw_inst_yX2_wrongIn, tw_s_yX2_wrongIn⟩
def v_X2_wrongIn_r (P : pT) (R : rT) (S : sT) : Nat → oT → Int32 → Int32 → Int32 → Int32 → Int32 × oT
  | 0, O, _, _, _, _ => (0, O)
  | n + 1, O, v2, v3, v4, v5 => if v2 ≤ v5 then ((-1), O) else if 7 ≤ v5 then ((-1), O) else if (v_X2_toldAt O R S v5 v2 v3) = (-1) then (v5, O) else kk ((v_X2_toldAt O R S (v5 + 1) v2 (v3 ||| (1 <<< ((v_X2_toldAt O R S v5 v2 v3) &&& 31))))) (fun y7 : Int32 => kk ((v_X4_comesTo P R (v_X2_toldAt O R S v5 v2 v3) (v_X4_nerveOf R v4) (v_X4_nerveOf R y7) (v_X2_seen O))) (fun y11 : Int32 => if y11 = ((v_X5_intAt S v5) - (v_X5_intAt S v5) / 10 * 10) then kk (v_X2_count O (v_X2_toldAt O R S v5 v2 v3) y11) (fun q14 : oT => v_X2_wrongIn_r P R S n q14 v2 (v3 ||| (1 <<< ((v_X2_toldAt O R S v5 v2 v3) &&& 31))) (v_X2_toldAt O R S v5 v2 v3) (v5 + 1)) else (v5, O)))
def p_X2_wrongIn_r (P : pT) (R : rT) (S : sT) : Nat → oT → Int32 → Int32 → Int32 → Int32 → Prop
  | 0, _, _, _, _, _ => False
  | n + 1, O, v2, v3, v4, v5 => if v2 ≤ v5 then True else if 7 ≤ v5 then True else p_X2_toldAt O R S v5 v2 v3 ∧ (if (v_X2_toldAt O R S v5 v2 v3) = (-1) then True else (p_X2_toldAt O R S (v5 + 1) v2 (v3 ||| (1 <<< ((v_X2_toldAt O R S v5 v2 v3) &&& 31)))) ∧ (kk ((v_X2_toldAt O R S (v5 + 1) v2 (v3 ||| (1 <<< ((v_X2_toldAt O R S v5 v2 v3) &&& 31))))) (fun y7 : Int32 => p_X4_nerveOf R v4 ∧ (p_X4_nerveOf R y7 ∧ ((p_X4_comesTo P R (v_X2_toldAt O R S v5 v2 v3) (v_X4_nerveOf R v4) (v_X4_nerveOf R y7) (v_X2_seen O)) ∧ (kk ((v_X4_comesTo P R (v_X2_toldAt O R S v5 v2 v3) (v_X4_nerveOf R v4) (v_X4_nerveOf R y7) (v_X2_seen O))) (fun y11 : Int32 => p_X5_intAt S v5 ∧ (if y11 = ((v_X5_intAt S v5) - (v_X5_intAt S v5) / 10 * 10) then kk (v_X2_count O (v_X2_toldAt O R S v5 v2 v3) y11) (fun q14 : oT => p_X2_wrongIn_r P R S n q14 v2 (v3 ||| (1 <<< ((v_X2_toldAt O R S v5 v2 v3) &&& 31))) (v_X2_toldAt O R S v5 v2 v3) (v5 + 1)) else True))))))))
def v_X2_wrongIn (P : pT) (O : oT) (R : rT) (S : sT) (x2 : Int32) : Int32 × oT := kk (v_X2_begin O) (fun q1 : oT => v_X2_wrongIn_r P R S 200 q1 x2 0 (-1) 0)
def p_X2_wrongIn (P : pT) (O : oT) (R : rT) (S : sT) (x2 : Int32) : Prop := kk (v_X2_begin O) (fun q1 : oT => p_X2_wrongIn_r P R S 200 q1 x2 0 (-1) 0)
set_option maxHeartbeats 800000 in
theorem w_X2_wrongIn {G : zG} {P : pT} {Γ : zT} {A : Nat → Prop} {res : Int32 × oT} (a : Nat → Nat) (b : Nat → Nat) (c : Nat → Nat) (R : rT) (S : sT) (hw : wk (gX G P) A Γ.2.2.1.1.heap) (hQ : zQ Γ (Qwi G (fun r w => r = (res).1 ∧ w = orW G a b ((res).2) ++ rdW G b R ++ shW G c S) A) 0 0 A) : ∀ n : Nat, (∀ (O : oT) (v2 : Int32) (v3 : Int32) (v4 : Int32) (v5 : Int32), p_X2_wrongIn_r P R S n O v2 v3 v4 v5 → v_X2_wrongIn_r P R S n O v2 v3 v4 v5 = res → Z k_X2_wrongIn G Γ (wr G A Γ.2.2.1.1.heap (orW G a b O ++ rdW G b R ++ shW G c S)) 0 0 [(0, .ref (a 0)), (1, .ref (c 0)), (2, .int v2), (3, .int v3), (4, .int v4), (5, .int v5)] 12 []) := by
  intro n
  induction n with
  | zero => exact fun O v2 v3 v4 v5 hp => absurd hp (by rw [p_X2_wrongIn_r]; exact not_false)
  | succ n ih =>
    intro O v2 v3 v4 v5 hp hv
    rw [p_X2_wrongIn_r] at hp
    rw [v_X2_wrongIn_r] at hv
    refine z_iload dX2_wrongIn_12 rfl ?_
    refine z_iload_n dX2_wrongIn_14 rfl ?_
    refine z_icmp_ge (tgt := 133) dX2_wrongIn_15 (by decide) (fun c2 => ?_) (fun c2 => ?_)
    · have hp := ip_t hp c2; have hv := it_t hv c2
      refine z_iconst (v := (-1)) dX2_wrongIn_133 rfl ?_
      subst hv; exact z_iret_W hQ rfl rfl rfl ⟨rfl, rfl⟩ dX2_wrongIn_134
    · have hp := ip_f hp c2; have hv := it_f hv c2
      refine z_iload dX2_wrongIn_18 rfl ?_
      refine z_bipush (v := 7) dX2_wrongIn_20 rfl ?_
      refine z_icmp_ge (tgt := 133) dX2_wrongIn_22 (by decide) (fun c3 => ?_) (fun c3 => ?_)
      · have hp := ip_t hp c3; have hv := it_t hv c3
        refine z_iconst (v := (-1)) dX2_wrongIn_133 rfl ?_
        subst hv; exact z_iret_W hQ rfl rfl rfl ⟨rfl, rfl⟩ dX2_wrongIn_134
      · have hp := ip_f hp c3; have hv := it_f hv c3
        refine z_aload_n dX2_wrongIn_25 rfl ?_
        refine z_aload_n dX2_wrongIn_26 rfl ?_
        refine z_iload dX2_wrongIn_27 rfl ?_
        refine z_iload_n dX2_wrongIn_29 rfl ?_
        refine z_iload_n dX2_wrongIn_30 rfl ?_
        obtain ⟨q4, hp⟩ := hp
        refine z_cvi (c_X2_toldAt G P a b c O R S v5 v2 v3 q4) zc_X2_toldAt zv_X2_toldAt tw_m_RX2_93 (zrec_of wr_P 0 rfl rfl) (fr_all wr_P (wr_G hw)) (zroom_of rfl) rfl (Nat.le_of_ble_eq_true rfl) dX2_wrongIn_31 ?_
        refine z_istore (lv' := [(6, .int (v_X2_toldAt O R S v5 v2 v3)), (0, .ref (a 0)), (1, .ref (c 0)), (2, .int v2), (3, .int v3), (4, .int v4), (5, .int v5)]) dX2_wrongIn_34 (Nat.le_of_ble_eq_true rfl) rfl ?_
        refine z_iload dX2_wrongIn_36 rfl ?_
        refine z_iconst (v := (-1)) dX2_wrongIn_38 rfl ?_
        refine z_icmp_ne (tgt := 45) dX2_wrongIn_39 (by decide) (fun c5 => ?_) (fun c5 => ?_)
        · have hp := ip_f hp c5; have hv := it_f hv c5
          refine z_iload_n dX2_wrongIn_45 rfl ?_
          refine z_iconst (v := 1) dX2_wrongIn_46 rfl ?_
          refine z_iload dX2_wrongIn_47 rfl ?_
          refine z_ishl dX2_wrongIn_49 ?_
          refine z_ior dX2_wrongIn_50 ?_
          refine z_istore_n (lv' := [(3, .int (v3 ||| (1 <<< ((v_X2_toldAt O R S v5 v2 v3) &&& 31)))), (6, .int (v_X2_toldAt O R S v5 v2 v3)), (0, .ref (a 0)), (1, .ref (c 0)), (2, .int v2), (4, .int v4), (5, .int v5)]) dX2_wrongIn_51 (Nat.le_of_ble_eq_true rfl) rfl ?_
          refine z_aload_n dX2_wrongIn_52 rfl ?_
          refine z_aload_n dX2_wrongIn_53 rfl ?_
          refine z_iload dX2_wrongIn_54 rfl ?_
          refine z_iconst (v := 1) dX2_wrongIn_56 rfl ?_
          refine z_iadd dX2_wrongIn_57 ?_
          refine z_iload_n dX2_wrongIn_58 rfl ?_
          refine z_iload_n dX2_wrongIn_59 rfl ?_
          obtain ⟨q6, hp⟩ := hp
          refine z_cvi (c_X2_toldAt G P a b c O R S (v5 + 1) v2 (v3 ||| (1 <<< ((v_X2_toldAt O R S v5 v2 v3) &&& 31))) q6) zc_X2_toldAt zv_X2_toldAt tw_m_RX2_93 (zrec_of wr_P 0 rfl rfl) (fr_all wr_P (wr_G hw)) (zroom_of rfl) rfl (Nat.le_of_ble_eq_true rfl) dX2_wrongIn_60 ?_
          suffices z15 : ∀ y7 : Int32, y7 = ((v_X2_toldAt O R S (v5 + 1) v2 (v3 ||| (1 <<< ((v_X2_toldAt O R S v5 v2 v3) &&& 31))))) → Z k_X2_wrongIn G Γ (wr G A Γ.2.2.1.1.heap (orW G a b O ++ rdW G b R ++ shW G c S)) 0 0 [(3, .int (v3 ||| (1 <<< ((v_X2_toldAt O R S v5 v2 v3) &&& 31)))), (6, .int (v_X2_toldAt O R S v5 v2 v3)), (0, .ref (a 0)), (1, .ref (c 0)), (2, .int v2), (4, .int v4), (5, .int v5)] 63 [.int y7] from z15 _ rfl
          intro y7 hy7
          have hp := kk_pq hp hy7
          have hv := kk_vq hv hy7
          clear hy7
          refine z_istore (lv' := [(7, .int y7), (3, .int (v3 ||| (1 <<< ((v_X2_toldAt O R S v5 v2 v3) &&& 31)))), (6, .int (v_X2_toldAt O R S v5 v2 v3)), (0, .ref (a 0)), (1, .ref (c 0)), (2, .int v2), (4, .int v4), (5, .int v5)]) dX2_wrongIn_63 (Nat.le_of_ble_eq_true rfl) rfl ?_
          refine z_aload_n dX2_wrongIn_65 rfl ?_
          refine z_get (v := .ref (b 0)) wr_P 0 rfl rfl uin_X2 0 (Nat.le_of_ble_eq_true rfl) tw_f_RX2_34 rfl rfl dX2_wrongIn_66 ?_
          refine z_iload dX2_wrongIn_69 rfl ?_
          refine z_aload_n dX2_wrongIn_71 rfl ?_
          refine z_get (v := .ref (b 0)) wr_P 0 rfl rfl uin_X2 0 (Nat.le_of_ble_eq_true rfl) tw_f_RX2_34 rfl rfl dX2_wrongIn_72 ?_
          refine z_iload dX2_wrongIn_75 rfl ?_
          obtain ⟨q8, hp⟩ := hp
          refine z_cvi (c_X4_nerveOf G P b R v4 q8) zc_X4_nerveOf zv_X4_nerveOf tw_m_RX2_42 (zrec_of wr_P 3 rfl rfl) (fr_all (sub_P wr_P [3, 4, 5, 6, 7] rfl) (wr_G hw)) (zroom_of rfl) rfl (Nat.le_of_ble_eq_true rfl) dX2_wrongIn_77 ?_
          refine z_aload_n dX2_wrongIn_80 rfl ?_
          refine z_get (v := .ref (b 0)) wr_P 0 rfl rfl uin_X2 0 (Nat.le_of_ble_eq_true rfl) tw_f_RX2_34 rfl rfl dX2_wrongIn_81 ?_
          refine z_iload dX2_wrongIn_84 rfl ?_
          obtain ⟨q9, hp⟩ := hp
          refine z_cvi (c_X4_nerveOf G P b R y7 q9) zc_X4_nerveOf zv_X4_nerveOf tw_m_RX2_42 (zrec_of wr_P 3 rfl rfl) (fr_all (sub_P wr_P [3, 4, 5, 6, 7] rfl) (wr_G hw)) (zroom_of rfl) rfl (Nat.le_of_ble_eq_true rfl) dX2_wrongIn_86 ?_
          refine z_aload_n dX2_wrongIn_89 rfl ?_
          refine z_cvi (c_X2_seen G P a b O ) zc_X2_seen zv_X2_seen tw_m_RX2_79 (zrec_of wr_P 0 rfl rfl) (fr_all (sub_P wr_P [0, 1, 2] rfl) (wr_G hw)) (zroom_of rfl) rfl (Nat.le_of_ble_eq_true rfl) dX2_wrongIn_90 ?_
          obtain ⟨q10, hp⟩ := hp
          refine z_cvi (c_X4_comesTo G P b R (v_X2_toldAt O R S v5 v2 v3) (v_X4_nerveOf R v4) (v_X4_nerveOf R y7) (v_X2_seen O) q10) zc_X4_comesTo zv_X4_comesTo tw_m_RX2_83 (zrec_of wr_P 3 rfl rfl) (fr_all (sub_P wr_P [3, 4, 5, 6, 7] rfl) (wr_G hw)) (zroom_of rfl) rfl (Nat.le_of_ble_eq_true rfl) dX2_wrongIn_93 ?_
          suffices z16 : ∀ y11 : Int32, y11 = ((v_X4_comesTo P R (v_X2_toldAt O R S v5 v2 v3) (v_X4_nerveOf R v4) (v_X4_nerveOf R y7) (v_X2_seen O))) → Z k_X2_wrongIn G Γ (wr G A Γ.2.2.1.1.heap (orW G a b O ++ rdW G b R ++ shW G c S)) 0 0 [(7, .int y7), (3, .int (v3 ||| (1 <<< ((v_X2_toldAt O R S v5 v2 v3) &&& 31)))), (6, .int (v_X2_toldAt O R S v5 v2 v3)), (0, .ref (a 0)), (1, .ref (c 0)), (2, .int v2), (4, .int v4), (5, .int v5)] 96 [.int y11] from z16 _ rfl
          intro y11 hy11
          have hp := kk_pq hp hy11
          have hv := kk_vq hv hy11
          clear hy11
          refine z_istore (lv' := [(8, .int y11), (7, .int y7), (3, .int (v3 ||| (1 <<< ((v_X2_toldAt O R S v5 v2 v3) &&& 31)))), (6, .int (v_X2_toldAt O R S v5 v2 v3)), (0, .ref (a 0)), (1, .ref (c 0)), (2, .int v2), (4, .int v4), (5, .int v5)]) dX2_wrongIn_96 (Nat.le_of_ble_eq_true rfl) rfl ?_
          refine z_iload dX2_wrongIn_98 rfl ?_
          refine z_aload_n dX2_wrongIn_100 rfl ?_
          refine z_iload dX2_wrongIn_101 rfl ?_
          obtain ⟨q12, hp⟩ := hp
          refine z_cvi (c_X5_intAt G P c S v5 q12) zc_X5_intAt zv_X5_intAt tw_m_RX2_64 (zrec_of wr_P 8 rfl rfl) (fr_all (sub_P wr_P [8, 9] rfl) (wr_G hw)) (zroom_of rfl) rfl (Nat.le_of_ble_eq_true rfl) dX2_wrongIn_103 ?_
          refine z_bipush (v := 10) dX2_wrongIn_106 rfl ?_
          refine z_irem dX2_wrongIn_108 (by decide) ?_
          refine z_icmp_eq (tgt := 115) dX2_wrongIn_109 (by decide) (fun c13 => ?_) (fun c13 => ?_)
          · have hp := ip_t hp c13; have hv := it_t hv c13
            refine z_aload_n dX2_wrongIn_115 rfl ?_
            refine z_iload dX2_wrongIn_116 rfl ?_
            refine z_iload dX2_wrongIn_118 rfl ?_
            refine z_cwvvD (ws' := orW G a b (v_X2_count O (v_X2_toldAt O R S v5 v2 v3) y11) ++ rdW G b R ++ shW G c S) hw (fun sz => c_X2_count G P a b sz O (v_X2_toldAt O R S v5 v2 v3) y11 ) [0, 1, 2] [3, 4, 5, 6, 7, 8, 9] [7, 8, 9, 0, 1, 2, 3, 4, 5, 6] 10 rfl rfl rfl rfl zc_X2_count zv_X2_count tw_m_RX2_87 (zrec_of wr_P 0 rfl rfl) (zroom_of rfl) rfl (Nat.le_of_ble_eq_true rfl) dX2_wrongIn_120 ?_
            suffices z17 : ∀ q14 : oT, q14 = (v_X2_count O (v_X2_toldAt O R S v5 v2 v3) y11) → Z k_X2_wrongIn G Γ (wr G A Γ.2.2.1.1.heap (orW G a b q14 ++ rdW G b R ++ shW G c S)) 0 0 [(8, .int y11), (7, .int y7), (3, .int (v3 ||| (1 <<< ((v_X2_toldAt O R S v5 v2 v3) &&& 31)))), (6, .int (v_X2_toldAt O R S v5 v2 v3)), (0, .ref (a 0)), (1, .ref (c 0)), (2, .int v2), (4, .int v4), (5, .int v5)] 123 [] from z17 _ rfl
            intro q14 hq14
            have hp := kk_pq hp hq14
            have hv := kk_vq hv hq14
            clear hq14
            refine z_iload dX2_wrongIn_123 rfl ?_
            refine z_istore (lv' := [(4, .int (v_X2_toldAt O R S v5 v2 v3)), (8, .int y11), (7, .int y7), (3, .int (v3 ||| (1 <<< ((v_X2_toldAt O R S v5 v2 v3) &&& 31)))), (6, .int (v_X2_toldAt O R S v5 v2 v3)), (0, .ref (a 0)), (1, .ref (c 0)), (2, .int v2), (5, .int v5)]) dX2_wrongIn_125 (Nat.le_of_ble_eq_true rfl) rfl ?_
            refine z_iinc (v := v5 + 1) (lv' := [(5, .int (v5 + 1)), (4, .int (v_X2_toldAt O R S v5 v2 v3)), (8, .int y11), (7, .int y7), (3, .int (v3 ||| (1 <<< ((v_X2_toldAt O R S v5 v2 v3) &&& 31)))), (6, .int (v_X2_toldAt O R S v5 v2 v3)), (0, .ref (a 0)), (1, .ref (c 0)), (2, .int v2)]) dX2_wrongIn_127 8 rfl rfl (Nat.le_of_ble_eq_true rfl) rfl ?_
            refine z_goto (tgt := 12) dX2_wrongIn_130 (by decide) ?_
            exact z_lv rfl ((ih) q14 v2 (v3 ||| (1 <<< ((v_X2_toldAt O R S v5 v2 v3) &&& 31))) (v_X2_toldAt O R S v5 v2 v3) (v5 + 1) hp hv)
          · have hp := ip_f hp c13; have hv := it_f hv c13
            refine z_iload dX2_wrongIn_112 rfl ?_
            subst hv; exact z_iret_W hQ rfl rfl rfl ⟨rfl, rfl⟩ dX2_wrongIn_114
        · have hp := ip_t hp c5; have hv := it_t hv c5
          refine z_iload dX2_wrongIn_42 rfl ?_
          subst hv; exact z_iret_W hQ rfl rfl rfl ⟨rfl, rfl⟩ dX2_wrongIn_44
set_option maxHeartbeats 800000 in
theorem c_X2_wrongIn {l : Launch} (G : zG) (P : pT) (a : Nat → Nat) (b : Nat → Nat) (c : Nat → Nat) (sz : Nat) (O : oT) (R : rT) (S : sT) (x2 : Int32) (hp : p_X2_wrongIn P O R S x2) : Met l yX2_wrongIn (.code yX2_wrongIn k_X2_wrongIn.1 k_X2_wrongIn.2.1 k_X2_wrongIn.2.2.2.1 :: TS) k_X2_wrongIn.2.2.2.2 (Pz G [.ref (a 0), .ref (c 0), .int x2] (Fw G (gX G P) (orW G a b O ++ rdW G b R ++ shW G c S) sz)) (Qwi G (fun r w => r = (v_X2_wrongIn P O R S x2).1 ∧ w = orW G a b ((v_X2_wrongIn P O R S x2).2) ++ rdW G b R ++ shW G c S) (va_A (orW G a b O ++ rdW G b R ++ shW G c S) sz)) 0 0 (va_A (orW G a b O ++ rdW G b R ++ shW G c S) sz) := by
  refine zmet (K := k_X2_wrongIn) (by decide +kernel) rfl rfl (fun Γ hl0 hQ hN hF => ?_)
  refine z_start (gX_ok G P) hF (fun hw => ?_)
  generalize va_A (orW G a b O ++ rdW G b R ++ shW G c S) sz = A at hQ hw ⊢
  obtain ⟨res, hv⟩ : ∃ res, v_X2_wrongIn P O R S x2 = res := ⟨_, rfl⟩
  rw [hv] at hQ
  unfold v_X2_wrongIn at hv
  unfold p_X2_wrongIn at hp
  show Z k_X2_wrongIn G Γ _ 0 0 [(0, .ref (a 0)), (1, .ref (c 0)), (2, .int x2)] 0 []
  refine z_aload_n dX2_wrongIn_0 rfl ?_
  refine z_cwvvD (ws' := orW G a b (v_X2_begin O) ++ rdW G b R ++ shW G c S) hw (fun sz => c_X2_begin G P a b sz O ) [0, 1, 2] [3, 4, 5, 6, 7, 8, 9] [7, 8, 9, 0, 1, 2, 3, 4, 5, 6] 10 rfl rfl rfl rfl zc_X2_begin zv_X2_begin tw_m_RX2_73 (zrec_of wr_P 0 rfl rfl) (zroom_of rfl) rfl (Nat.le_of_ble_eq_true rfl) dX2_wrongIn_1 ?_
  suffices z18 : ∀ q1 : oT, q1 = (v_X2_begin O) → Z k_X2_wrongIn G Γ (wr G A Γ.2.2.1.1.heap (orW G a b q1 ++ rdW G b R ++ shW G c S)) 0 0 [(0, .ref (a 0)), (1, .ref (c 0)), (2, .int x2)] 4 [] from z18 _ rfl
  intro q1 hq1
  have hp := kk_pq hp hq1
  have hv := kk_vq hv hq1
  clear hq1
  refine z_iconst (v := 0) dX2_wrongIn_4 rfl ?_
  refine z_istore_n (lv' := [(3, .int 0), (0, .ref (a 0)), (1, .ref (c 0)), (2, .int x2)]) dX2_wrongIn_5 (Nat.le_of_ble_eq_true rfl) rfl ?_
  refine z_iconst (v := (-1)) dX2_wrongIn_6 rfl ?_
  refine z_istore (lv' := [(4, .int (-1)), (3, .int 0), (0, .ref (a 0)), (1, .ref (c 0)), (2, .int x2)]) dX2_wrongIn_7 (Nat.le_of_ble_eq_true rfl) rfl ?_
  refine z_iconst (v := 0) dX2_wrongIn_9 rfl ?_
  refine z_istore (lv' := [(5, .int 0), (4, .int (-1)), (3, .int 0), (0, .ref (a 0)), (1, .ref (c 0)), (2, .int x2)]) dX2_wrongIn_10 (Nat.le_of_ble_eq_true rfl) rfl ?_
  exact z_lv rfl ((w_X2_wrongIn a b c R S hw hQ 200) q1 x2 0 (-1) 0 hp hv)
theorem dX2_weighLeast_0 : decode cX2_weighLeast 0 = .ok (.iconst 0, 1) := by decide +kernel
theorem dX2_weighLeast_1 : decode cX2_weighLeast 1 = .ok (.istore_n 1, 1) := by decide +kernel
theorem dX2_weighLeast_2 : decode cX2_weighLeast 2 = .ok (.iconst 0, 1) := by decide +kernel
theorem dX2_weighLeast_3 : decode cX2_weighLeast 3 = .ok (.istore_n 2, 1) := by decide +kernel
theorem dX2_weighLeast_4 : decode cX2_weighLeast 4 = .ok (.iload_n 2, 1) := by decide +kernel
theorem dX2_weighLeast_5 : decode cX2_weighLeast 5 = .ok (.aload_n 0, 1) := by decide +kernel
theorem dX2_weighLeast_6 : decode cX2_weighLeast 6 = .ok (.getfield 18, 3) := by decide +kernel
theorem dX2_weighLeast_9 : decode cX2_weighLeast 9 = .ok (.if_icmp .ge 22, 3) := by decide +kernel
theorem dX2_weighLeast_12 : decode cX2_weighLeast 12 = .ok (.iload_n 1, 1) := by decide +kernel
theorem dX2_weighLeast_13 : decode cX2_weighLeast 13 = .ok (.aload_n 0, 1) := by decide +kernel
theorem dX2_weighLeast_14 : decode cX2_weighLeast 14 = .ok (.getfield 34, 3) := by decide +kernel
theorem dX2_weighLeast_17 : decode cX2_weighLeast 17 = .ok (.iload_n 2, 1) := by decide +kernel
theorem dX2_weighLeast_18 : decode cX2_weighLeast 18 = .ok (.invokevirtual 42, 3) := by decide +kernel
theorem dX2_weighLeast_21 : decode cX2_weighLeast 21 = .ok (.invokestatic 90, 3) := by decide +kernel
theorem dX2_weighLeast_24 : decode cX2_weighLeast 24 = .ok (.istore_n 1, 1) := by decide +kernel
theorem dX2_weighLeast_25 : decode cX2_weighLeast 25 = .ok (.iinc 2 1, 3) := by decide +kernel
theorem dX2_weighLeast_28 : decode cX2_weighLeast 28 = .ok (.goto (-24), 3) := by decide +kernel
theorem dX2_weighLeast_31 : decode cX2_weighLeast 31 = .ok (.iconst 0, 1) := by decide +kernel
theorem dX2_weighLeast_32 : decode cX2_weighLeast 32 = .ok (.istore_n 2, 1) := by decide +kernel
theorem dX2_weighLeast_33 : decode cX2_weighLeast 33 = .ok (.iconst 0, 1) := by decide +kernel
theorem dX2_weighLeast_34 : decode cX2_weighLeast 34 = .ok (.istore_n 3, 1) := by decide +kernel
theorem dX2_weighLeast_35 : decode cX2_weighLeast 35 = .ok (.iload_n 3, 1) := by decide +kernel
theorem dX2_weighLeast_36 : decode cX2_weighLeast 36 = .ok (.aload_n 0, 1) := by decide +kernel
theorem dX2_weighLeast_37 : decode cX2_weighLeast 37 = .ok (.getfield 18, 3) := by decide +kernel
theorem dX2_weighLeast_40 : decode cX2_weighLeast 40 = .ok (.if_icmp .ge 51, 3) := by decide +kernel
theorem dX2_weighLeast_43 : decode cX2_weighLeast 43 = .ok (.iload_n 3, 1) := by decide +kernel
theorem dX2_weighLeast_44 : decode cX2_weighLeast 44 = .ok (.aload_n 0, 1) := by decide +kernel
theorem dX2_weighLeast_45 : decode cX2_weighLeast 45 = .ok (.getfield 15, 3) := by decide +kernel
theorem dX2_weighLeast_48 : decode cX2_weighLeast 48 = .ok (.arraylength, 1) := by decide +kernel
theorem dX2_weighLeast_49 : decode cX2_weighLeast 49 = .ok (.if_icmp .ge 42, 3) := by decide +kernel
theorem dX2_weighLeast_52 : decode cX2_weighLeast 52 = .ok (.aload_n 0, 1) := by decide +kernel
theorem dX2_weighLeast_53 : decode cX2_weighLeast 53 = .ok (.getfield 15, 3) := by decide +kernel
theorem dX2_weighLeast_56 : decode cX2_weighLeast 56 = .ok (.iload_n 3, 1) := by decide +kernel
theorem dX2_weighLeast_57 : decode cX2_weighLeast 57 = .ok (.aload_n 0, 1) := by decide +kernel
theorem dX2_weighLeast_58 : decode cX2_weighLeast 58 = .ok (.getfield 34, 3) := by decide +kernel
theorem dX2_weighLeast_61 : decode cX2_weighLeast 61 = .ok (.aload_n 0, 1) := by decide +kernel
theorem dX2_weighLeast_62 : decode cX2_weighLeast 62 = .ok (.getfield 34, 3) := by decide +kernel
theorem dX2_weighLeast_65 : decode cX2_weighLeast 65 = .ok (.iload_n 3, 1) := by decide +kernel
theorem dX2_weighLeast_66 : decode cX2_weighLeast 66 = .ok (.iload_n 1, 1) := by decide +kernel
theorem dX2_weighLeast_67 : decode cX2_weighLeast 67 = .ok (.iload_n 1, 1) := by decide +kernel
theorem dX2_weighLeast_68 : decode cX2_weighLeast 68 = .ok (.iconst 0, 1) := by decide +kernel
theorem dX2_weighLeast_69 : decode cX2_weighLeast 69 = .ok (.invokevirtual 83, 3) := by decide +kernel
theorem dX2_weighLeast_72 : decode cX2_weighLeast 72 = .ok (.invokevirtual 107, 3) := by decide +kernel
theorem dX2_weighLeast_75 : decode cX2_weighLeast 75 = .ok (.iastore, 1) := by decide +kernel
theorem dX2_weighLeast_76 : decode cX2_weighLeast 76 = .ok (.iload_n 2, 1) := by decide +kernel
theorem dX2_weighLeast_77 : decode cX2_weighLeast 77 = .ok (.aload_n 0, 1) := by decide +kernel
theorem dX2_weighLeast_78 : decode cX2_weighLeast 78 = .ok (.getfield 15, 3) := by decide +kernel
theorem dX2_weighLeast_81 : decode cX2_weighLeast 81 = .ok (.iload_n 3, 1) := by decide +kernel
theorem dX2_weighLeast_82 : decode cX2_weighLeast 82 = .ok (.iaload, 1) := by decide +kernel
theorem dX2_weighLeast_83 : decode cX2_weighLeast 83 = .ok (.iadd, 1) := by decide +kernel
theorem dX2_weighLeast_84 : decode cX2_weighLeast 84 = .ok (.istore_n 2, 1) := by decide +kernel
theorem dX2_weighLeast_85 : decode cX2_weighLeast 85 = .ok (.iinc 3 1, 3) := by decide +kernel
theorem dX2_weighLeast_88 : decode cX2_weighLeast 88 = .ok (.goto (-53), 3) := by decide +kernel
theorem dX2_weighLeast_91 : decode cX2_weighLeast 91 = .ok (.iload_n 2, 1) := by decide +kernel
theorem dX2_weighLeast_92 : decode cX2_weighLeast 92 = .ok (.ireturn, 1) := by decide +kernel
abbrev k_X2_weighLeast : zK := (cX2_weighLeast, 4, RX2, (some .int), ({ frames := 4, cells := 0, slots := 0, locals := 90 } : Room))
theorem zc_X2_weighLeast : zcal yX2_weighLeast k_X2_weighLeast.1 k_X2_weighLeast.2.1 k_X2_weighLeast.2.2.2.1 0 := ⟨tw_code_yX2_weighLeast, tw_i_TollForHesitators_Order, ⟨by decide +kernel, by decide +kernel⟩, by decide +kernel⟩
theorem zv_X2_weighLeast : Cond.instanceMethod yX2_weighLeast ∈ TS ∧ Cond.selects RX2 yX2_weighLeast yX2_weighLeast ∈ TS := ⟨tw_inst_yX2_weighLeast, tw_s_yX2_weighLeast⟩
def v_X2_weighLeast_r (P : pT) (R : rT) : Nat → Nat → oT → Int32 → Int32 → Int32 → Int32 × oT
  | 0, _, O, _, _, _ => (0, O)
  | n + 1, l, O, v1, v2, v3 => if l = 0 then if (O.1 3) ≤ v2 then v_X2_weighLeast_r P R n 1 O v1 0 0 else v_X2_weighLeast_r P R n 0 O (if v1 < (v_X4_nerveOf R v2) then (v_X4_nerveOf R v2) else v1) (v2 + 1) 0 else if (O.1 3) ≤ v3 then (v2, O) else if 7 ≤ v3 then (v2, O) else kk (v2 + ((upd (O.2 2) v3.toNatClampNeg (v_X4_weightOf R (v_X4_comesTo P R v3 v1 v1 0))) v3.toNatClampNeg)) (fun y16 : Int32 => v_X2_weighLeast_r P R n 1 (osa O 2 (upd (O.2 2) v3.toNatClampNeg (v_X4_weightOf R (v_X4_comesTo P R v3 v1 v1 0)))) v1 y16 (v3 + 1))
def p_X2_weighLeast_r (P : pT) (R : rT) : Nat → Nat → oT → Int32 → Int32 → Int32 → Prop
  | 0, _, _, _, _, _ => False
  | n + 1, l, O, v1, v2, v3 => if l = 0 then if (O.1 3) ≤ v2 then p_X2_weighLeast_r P R n 1 O v1 0 0 else p_X4_nerveOf R v2 ∧ (p_X2_weighLeast_r P R n 0 O (if v1 < (v_X4_nerveOf R v2) then (v_X4_nerveOf R v2) else v1) (v2 + 1) 0) else if (O.1 3) ≤ v3 then True else if 7 ≤ v3 then True else p_X4_comesTo P R v3 v1 v1 0 ∧ (vp_in v3 7 ∧ (vp_in v3 7 ∧ (kk (v2 + ((upd (O.2 2) v3.toNatClampNeg (v_X4_weightOf R (v_X4_comesTo P R v3 v1 v1 0))) v3.toNatClampNeg)) (fun y16 : Int32 => p_X2_weighLeast_r P R n 1 (osa O 2 (upd (O.2 2) v3.toNatClampNeg (v_X4_weightOf R (v_X4_comesTo P R v3 v1 v1 0)))) v1 y16 (v3 + 1)))))
def v_X2_weighLeast (P : pT) (O : oT) (R : rT) : Int32 × oT := v_X2_weighLeast_r P R 200 0 O 0 0 0
def p_X2_weighLeast (P : pT) (O : oT) (R : rT) : Prop := p_X2_weighLeast_r P R 200 0 O 0 0 0
set_option maxHeartbeats 800000 in
theorem w_X2_weighLeast {G : zG} {P : pT} {Γ : zT} {A : Nat → Prop} {res : Int32 × oT} (a : Nat → Nat) (b : Nat → Nat) (R : rT) (hw : wk (gX G P) A Γ.2.2.1.1.heap) (hQ : zQ Γ (Qwi G (fun r w => r = (res).1 ∧ w = orW G a b ((res).2) ++ rdW G b R) A) 0 0 A) : ∀ n : Nat, (∀ (O : oT) (v1 : Int32) (v2 : Int32) (v3 : Int32), p_X2_weighLeast_r P R n 0 O v1 v2 v3 → v_X2_weighLeast_r P R n 0 O v1 v2 v3 = res → Z k_X2_weighLeast G Γ (wr G A Γ.2.2.1.1.heap (orW G a b O ++ rdW G b R)) 0 0 [(0, .ref (a 0)), (1, .int v1), (2, .int v2)] 4 []) ∧ (∀ (O : oT) (v1 : Int32) (v2 : Int32) (v3 : Int32), p_X2_weighLeast_r P R n 1 O v1 v2 v3 → v_X2_weighLeast_r P R n 1 O v1 v2 v3 = res → Z k_X2_weighLeast G Γ (wr G A Γ.2.2.1.1.heap (orW G a b O ++ rdW G b R)) 0 0 [(0, .ref (a 0)), (1, .int v1), (2, .int v2), (3, .int v3)] 35 []) := by
  intro n
  induction n with
  | zero => exact ⟨fun O v1 v2 v3 hp => absurd hp (by rw [p_X2_weighLeast_r]; exact not_false), fun O v1 v2 v3 hp => absurd hp (by rw [p_X2_weighLeast_r]; exact not_false)⟩
  | succ n ih =>
    refine ⟨?_, ?_⟩
    · intro O v1 v2 v3 hp hv
      rw [p_X2_weighLeast_r] at hp
      rw [v_X2_weighLeast_r] at hv
      have hp := ip_t hp rfl
      have hv := it_t hv rfl
      refine z_iload_n dX2_weighLeast_4 rfl ?_
      refine z_aload_n dX2_weighLeast_5 rfl ?_
      refine z_get (v := .int (O.1 3)) wr_P 0 rfl rfl uin_X2 3 (Nat.le_of_ble_eq_true rfl) tw_f_RX2_18 rfl rfl dX2_weighLeast_6 ?_
      refine z_icmp_ge (tgt := 31) dX2_weighLeast_9 (by decide) (fun c1 => ?_) (fun c1 => ?_)
      · have hp := ip_t hp c1; have hv := it_t hv c1
        refine z_iconst (v := 0) dX2_weighLeast_31 rfl ?_
        refine z_istore_n (lv' := [(2, .int 0), (0, .ref (a 0)), (1, .int v1)]) dX2_weighLeast_32 (Nat.le_of_ble_eq_true rfl) rfl ?_
        refine z_iconst (v := 0) dX2_weighLeast_33 rfl ?_
        refine z_istore_n (lv' := [(3, .int 0), (2, .int 0), (0, .ref (a 0)), (1, .int v1)]) dX2_weighLeast_34 (Nat.le_of_ble_eq_true rfl) rfl ?_
        exact z_lv rfl ((ih).2 O v1 0 0 hp hv)
      · have hp := ip_f hp c1; have hv := it_f hv c1
        refine z_iload_n dX2_weighLeast_12 rfl ?_
        refine z_aload_n dX2_weighLeast_13 rfl ?_
        refine z_get (v := .ref (b 0)) wr_P 0 rfl rfl uin_X2 0 (Nat.le_of_ble_eq_true rfl) tw_f_RX2_34 rfl rfl dX2_weighLeast_14 ?_
        refine z_iload_n dX2_weighLeast_17 rfl ?_
        obtain ⟨q3, hp⟩ := hp
        refine z_cvi (c_X4_nerveOf G P b R v2 q3) zc_X4_nerveOf zv_X4_nerveOf tw_m_RX2_42 (zrec_of wr_P 3 rfl rfl) (fr_all (sub_P wr_P [3, 4, 5, 6, 7] rfl) (wr_G hw)) (zroom_of rfl) rfl (Nat.le_of_ble_eq_true rfl) dX2_weighLeast_18 ?_
        refine z_max tw_m_RX2_90 tw_st_yJ9_max_7cf53 tw_i_java_lang_Math tw_code_yJ9_max_7cf53 ⟨Nat.le_of_ble_eq_true rfl, Nat.le_of_ble_eq_true rfl, Nat.le_of_ble_eq_true rfl, Nat.le_of_ble_eq_true rfl⟩ dX2_weighLeast_21 ?_
        refine z_istore_n (lv' := [(1, .int (if v1 < (v_X4_nerveOf R v2) then (v_X4_nerveOf R v2) else v1)), (0, .ref (a 0)), (2, .int v2)]) dX2_weighLeast_24 (Nat.le_of_ble_eq_true rfl) rfl ?_
        refine z_iinc (v := v2 + 1) (lv' := [(2, .int (v2 + 1)), (1, .int (if v1 < (v_X4_nerveOf R v2) then (v_X4_nerveOf R v2) else v1)), (0, .ref (a 0))]) dX2_weighLeast_25 2 rfl rfl (Nat.le_of_ble_eq_true rfl) rfl ?_
        refine z_goto (tgt := 4) dX2_weighLeast_28 (by decide) ?_
        exact z_lv rfl ((ih).1 O (if v1 < (v_X4_nerveOf R v2) then (v_X4_nerveOf R v2) else v1) (v2 + 1) 0 hp hv)
    · intro O v1 v2 v3 hp hv
      rw [p_X2_weighLeast_r] at hp
      rw [v_X2_weighLeast_r] at hv
      have hp := ip_f hp (by decide)
      have hv := it_f hv (by decide)
      refine z_iload_n dX2_weighLeast_35 rfl ?_
      refine z_aload_n dX2_weighLeast_36 rfl ?_
      refine z_get (v := .int (O.1 3)) wr_P 0 rfl rfl uin_X2 3 (Nat.le_of_ble_eq_true rfl) tw_f_RX2_18 rfl rfl dX2_weighLeast_37 ?_
      refine z_icmp_ge (tgt := 91) dX2_weighLeast_40 (by decide) (fun c4 => ?_) (fun c4 => ?_)
      · have hp := ip_t hp c4; have hv := it_t hv c4
        refine z_iload_n dX2_weighLeast_91 rfl ?_
        subst hv; exact z_iret_W hQ rfl rfl rfl ⟨rfl, rfl⟩ dX2_weighLeast_92
      · have hp := ip_f hp c4; have hv := it_f hv c4
        refine z_iload_n dX2_weighLeast_43 rfl ?_
        refine z_aload_n dX2_weighLeast_44 rfl ?_
        refine z_get (v := .ref (a 2)) wr_P 0 rfl rfl uin_X2 2 (Nat.le_of_ble_eq_true rfl) tw_f_RX2_15 rfl rfl dX2_weighLeast_45 ?_
        refine z_alen (cA := G.2.2.1 0) (v := 7) 0 (fun _ => rfl) wr_P 2 rfl rfl dX2_weighLeast_48 ?_
        refine z_icmp_ge (tgt := 91) dX2_weighLeast_49 (by decide) (fun c9 => ?_) (fun c9 => ?_)
        · have hp := ip_t hp c9; have hv := it_t hv c9
          refine z_iload_n dX2_weighLeast_91 rfl ?_
          subst hv; exact z_iret_W hQ rfl rfl rfl ⟨rfl, rfl⟩ dX2_weighLeast_92
        · have hp := ip_f hp c9; have hv := it_f hv c9
          refine z_aload_n dX2_weighLeast_52 rfl ?_
          refine z_get (v := .ref (a 2)) wr_P 0 rfl rfl uin_X2 2 (Nat.le_of_ble_eq_true rfl) tw_f_RX2_15 rfl rfl dX2_weighLeast_53 ?_
          refine z_iload_n dX2_weighLeast_56 rfl ?_
          refine z_aload_n dX2_weighLeast_57 rfl ?_
          refine z_get (v := .ref (b 0)) wr_P 0 rfl rfl uin_X2 0 (Nat.le_of_ble_eq_true rfl) tw_f_RX2_34 rfl rfl dX2_weighLeast_58 ?_
          refine z_aload_n dX2_weighLeast_61 rfl ?_
          refine z_get (v := .ref (b 0)) wr_P 0 rfl rfl uin_X2 0 (Nat.le_of_ble_eq_true rfl) tw_f_RX2_34 rfl rfl dX2_weighLeast_62 ?_
          refine z_iload_n dX2_weighLeast_65 rfl ?_
          refine z_iload_n dX2_weighLeast_66 rfl ?_
          refine z_iload_n dX2_weighLeast_67 rfl ?_
          refine z_iconst (v := 0) dX2_weighLeast_68 rfl ?_
          obtain ⟨q13, hp⟩ := hp
          refine z_cvi (c_X4_comesTo G P b R v3 v1 v1 0 q13) zc_X4_comesTo zv_X4_comesTo tw_m_RX2_83 (zrec_of wr_P 3 rfl rfl) (fr_all (sub_P wr_P [3, 4, 5, 6, 7] rfl) (wr_G hw)) (zroom_of rfl) rfl (Nat.le_of_ble_eq_true rfl) dX2_weighLeast_69 ?_
          refine z_cvi (c_X4_weightOf G P b R (v_X4_comesTo P R v3 v1 v1 0) ) zc_X4_weightOf zv_X4_weightOf tw_m_RX2_107 (zrec_of wr_P 3 rfl rfl) (fr_all (sub_P wr_P [3, 4, 5, 6, 7] rfl) (wr_G hw)) (zroom_of rfl) rfl (Nat.le_of_ble_eq_true rfl) dX2_weighLeast_72 ?_
          obtain ⟨q14, hp⟩ := hp
          refine z_iastx (F := upd (O.2 2) v3.toNatClampNeg (v_X4_weightOf R (v_X4_comesTo P R v3 v1 v1 0))) (ws' := orW G a b (osa O 2 (upd (O.2 2) v3.toNatClampNeg (v_X4_weightOf R (v_X4_comesTo P R v3 v1 v1 0)))) ++ rdW G b R) 2 rfl q14 rfl rfl dX2_weighLeast_75 ?_
          refine z_iload_n dX2_weighLeast_76 rfl ?_
          refine z_aload_n dX2_weighLeast_77 rfl ?_
          refine z_get (v := .ref (a 2)) wr_P 0 rfl rfl uin_X2 2 (Nat.le_of_ble_eq_true rfl) tw_f_RX2_15 rfl rfl dX2_weighLeast_78 ?_
          refine z_iload_n dX2_weighLeast_81 rfl ?_
          obtain ⟨q15, hp⟩ := hp
          refine z_ialdx (x := (upd (O.2 2) v3.toNatClampNeg (v_X4_weightOf R (v_X4_comesTo P R v3 v1 v1 0))) v3.toNatClampNeg) wr_P 2 rfl q15 rfl dX2_weighLeast_82 ?_
          refine z_iadd dX2_weighLeast_83 ?_
          suffices z17 : ∀ y16 : Int32, y16 = (v2 + ((upd (O.2 2) v3.toNatClampNeg (v_X4_weightOf R (v_X4_comesTo P R v3 v1 v1 0))) v3.toNatClampNeg)) → Z k_X2_weighLeast G Γ (wr G A Γ.2.2.1.1.heap (orW G a b (osa O 2 (upd (O.2 2) v3.toNatClampNeg (v_X4_weightOf R (v_X4_comesTo P R v3 v1 v1 0)))) ++ rdW G b R)) 0 0 [(0, .ref (a 0)), (1, .int v1), (2, .int v2), (3, .int v3)] 84 [.int y16] from z17 _ rfl
          intro y16 hy16
          have hp := kk_pq hp hy16
          have hv := kk_vq hv hy16
          clear hy16
          refine z_istore_n (lv' := [(2, .int y16), (0, .ref (a 0)), (1, .int v1), (3, .int v3)]) dX2_weighLeast_84 (Nat.le_of_ble_eq_true rfl) rfl ?_
          refine z_iinc (v := v3 + 1) (lv' := [(3, .int (v3 + 1)), (2, .int y16), (0, .ref (a 0)), (1, .int v1)]) dX2_weighLeast_85 3 rfl rfl (Nat.le_of_ble_eq_true rfl) rfl ?_
          refine z_goto (tgt := 35) dX2_weighLeast_88 (by decide) ?_
          exact z_lv rfl ((ih).2 (osa O 2 (upd (O.2 2) v3.toNatClampNeg (v_X4_weightOf R (v_X4_comesTo P R v3 v1 v1 0)))) v1 y16 (v3 + 1) hp hv)
set_option maxHeartbeats 800000 in
theorem c_X2_weighLeast {l : Launch} (G : zG) (P : pT) (a : Nat → Nat) (b : Nat → Nat) (sz : Nat) (O : oT) (R : rT) (hp : p_X2_weighLeast P O R) : Met l yX2_weighLeast (.code yX2_weighLeast k_X2_weighLeast.1 k_X2_weighLeast.2.1 k_X2_weighLeast.2.2.2.1 :: TS) k_X2_weighLeast.2.2.2.2 (Pz G [.ref (a 0)] (Fw G (gX G P) (orW G a b O ++ rdW G b R) sz)) (Qwi G (fun r w => r = (v_X2_weighLeast P O R).1 ∧ w = orW G a b ((v_X2_weighLeast P O R).2) ++ rdW G b R) (va_A (orW G a b O ++ rdW G b R) sz)) 0 0 (va_A (orW G a b O ++ rdW G b R) sz) := by
  refine zmet (K := k_X2_weighLeast) (by decide +kernel) rfl rfl (fun Γ hl0 hQ hN hF => ?_)
  refine z_start (gX_ok G P) hF (fun hw => ?_)
  generalize va_A (orW G a b O ++ rdW G b R) sz = A at hQ hw ⊢
  obtain ⟨res, hv⟩ : ∃ res, v_X2_weighLeast P O R = res := ⟨_, rfl⟩
  rw [hv] at hQ
  unfold v_X2_weighLeast at hv
  unfold p_X2_weighLeast at hp
  show Z k_X2_weighLeast G Γ _ 0 0 [(0, .ref (a 0))] 0 []
  refine z_iconst (v := 0) dX2_weighLeast_0 rfl ?_
  refine z_istore_n (lv' := [(1, .int 0), (0, .ref (a 0))]) dX2_weighLeast_1 (Nat.le_of_ble_eq_true rfl) rfl ?_
  refine z_iconst (v := 0) dX2_weighLeast_2 rfl ?_
  refine z_istore_n (lv' := [(2, .int 0), (1, .int 0), (0, .ref (a 0))]) dX2_weighLeast_3 (Nat.le_of_ble_eq_true rfl) rfl ?_
  exact z_lv rfl ((w_X2_weighLeast a b R hw hQ 200).1 O 0 0 0 hp hv)
theorem dX2_keep_0 : decode cX2_keep 0 = .ok (.iconst 0, 1) := by decide +kernel
theorem dX2_keep_1 : decode cX2_keep 1 = .ok (.istore_n 3, 1) := by decide +kernel
theorem dX2_keep_2 : decode cX2_keep 2 = .ok (.iload_n 3, 1) := by decide +kernel
theorem dX2_keep_3 : decode cX2_keep 3 = .ok (.bipush 7, 2) := by decide +kernel
theorem dX2_keep_5 : decode cX2_keep 5 = .ok (.if_icmp .ge 21, 3) := by decide +kernel
theorem dX2_keep_8 : decode cX2_keep 8 = .ok (.aload_n 0, 1) := by decide +kernel
theorem dX2_keep_9 : decode cX2_keep 9 = .ok (.getfield 9, 3) := by decide +kernel
theorem dX2_keep_12 : decode cX2_keep 12 = .ok (.iload_n 3, 1) := by decide +kernel
theorem dX2_keep_13 : decode cX2_keep 13 = .ok (.aload_n 1, 1) := by decide +kernel
theorem dX2_keep_14 : decode cX2_keep 14 = .ok (.getfield 9, 3) := by decide +kernel
theorem dX2_keep_17 : decode cX2_keep 17 = .ok (.iload_n 3, 1) := by decide +kernel
theorem dX2_keep_18 : decode cX2_keep 18 = .ok (.iaload, 1) := by decide +kernel
theorem dX2_keep_19 : decode cX2_keep 19 = .ok (.iastore, 1) := by decide +kernel
theorem dX2_keep_20 : decode cX2_keep 20 = .ok (.iinc 3 1, 3) := by decide +kernel
theorem dX2_keep_23 : decode cX2_keep 23 = .ok (.goto (-21), 3) := by decide +kernel
theorem dX2_keep_26 : decode cX2_keep 26 = .ok (.aload_n 0, 1) := by decide +kernel
theorem dX2_keep_27 : decode cX2_keep 27 = .ok (.iload_n 2, 1) := by decide +kernel
theorem dX2_keep_28 : decode cX2_keep 28 = .ok (.putfield 31, 3) := by decide +kernel
theorem dX2_keep_31 : decode cX2_keep 31 = .ok (.return_, 1) := by decide +kernel
abbrev k_X2_keep : zK := (cX2_keep, 4, RX2, none, ({ frames := 0, cells := 0, slots := 0, locals := 0 } : Room))
theorem zc_X2_keep : zcal yX2_keep k_X2_keep.1 k_X2_keep.2.1 k_X2_keep.2.2.2.1 2 := ⟨tw_code_yX2_keep, tw_i_TollForHesitators_Order, ⟨by decide +kernel, by decide +kernel⟩, by decide +kernel⟩
theorem zv_X2_keep : Cond.instanceMethod yX2_keep ∈ TS ∧ Cond.selects RX2 yX2_keep yX2_keep ∈ TS := ⟨tw_inst_yX2_keep, tw_s_yX2_keep⟩
def v_X2_keep_r (T : oT) : Nat → oT → Int32 → Int32 → oT
  | 0, O, _, _ => O
  | n + 1, O, v2, v3 => if 7 ≤ v3 then osf O 7 v2 else v_X2_keep_r T n (osa O 1 (upd (O.2 1) v3.toNatClampNeg ((T.2 1) v3.toNatClampNeg))) v2 (v3 + 1)
def p_X2_keep_r (T : oT) : Nat → oT → Int32 → Int32 → Prop
  | 0, _, _, _ => False
  | n + 1, O, v2, v3 => if 7 ≤ v3 then True else vp_in v3 7 ∧ (vp_in v3 7 ∧ (p_X2_keep_r T n (osa O 1 (upd (O.2 1) v3.toNatClampNeg ((T.2 1) v3.toNatClampNeg))) v2 (v3 + 1)))
def v_X2_keep (O : oT) (T : oT) (x2 : Int32) : oT := v_X2_keep_r T 200 O x2 0
def p_X2_keep (O : oT) (T : oT) (x2 : Int32) : Prop := p_X2_keep_r T 200 O x2 0
set_option maxHeartbeats 800000 in
theorem w_X2_keep {G : zG} {P : pT} {Γ : zT} {A : Nat → Prop} {res : oT} (a : Nat → Nat) (b : Nat → Nat) (c : Nat → Nat) (T : oT) (hw : wk (gX G P) A Γ.2.2.1.1.heap) (hQ : zQ Γ (Qwv G (fun w => w = orW G a b (res) ++ orW G c b T) A) 0 0 A) : ∀ n : Nat, (∀ (O : oT) (v2 : Int32) (v3 : Int32), p_X2_keep_r T n O v2 v3 → v_X2_keep_r T n O v2 v3 = res → Z k_X2_keep G Γ (wr G A Γ.2.2.1.1.heap (orW G a b O ++ orW G c b T)) 0 0 [(0, .ref (a 0)), (1, .ref (c 0)), (2, .int v2), (3, .int v3)] 2 []) := by
  intro n
  induction n with
  | zero => exact fun O v2 v3 hp => absurd hp (by rw [p_X2_keep_r]; exact not_false)
  | succ n ih =>
    intro O v2 v3 hp hv
    rw [p_X2_keep_r] at hp
    rw [v_X2_keep_r] at hv
    refine z_iload_n dX2_keep_2 rfl ?_
    refine z_bipush (v := 7) dX2_keep_3 rfl ?_
    refine z_icmp_ge (tgt := 26) dX2_keep_5 (by decide) (fun c1 => ?_) (fun c1 => ?_)
    · have hp := ip_t hp c1; have hv := it_t hv c1
      refine z_aload_n dX2_keep_26 rfl ?_
      refine z_iload_n dX2_keep_27 rfl ?_
      refine z_put (fs := orF a b O) (v := .int v2) (ws' := orW G a b (osf O 7 v2) ++ orW G c b T) 0 rfl rfl uin_X2 tyX2 tyX2_ok nmX2 7 (Nat.le_of_ble_eq_true rfl) tw_f_RX2_31 rfl rfl (ty := .int) rfl rfl rfl (Nat.le_of_ble_eq_true rfl) rfl dX2_keep_28 ?_
      subst hv; exact z_vret_W hQ rfl rfl rfl rfl dX2_keep_31
    · have hp := ip_f hp c1; have hv := it_f hv c1
      refine z_aload_n dX2_keep_8 rfl ?_
      refine z_get (v := .ref (a 1)) wr_P 0 rfl rfl uin_X2 1 (Nat.le_of_ble_eq_true rfl) tw_f_RX2_9 rfl rfl dX2_keep_9 ?_
      refine z_iload_n dX2_keep_12 rfl ?_
      refine z_aload_n dX2_keep_13 rfl ?_
      refine z_get (v := .ref (c 1)) wr_P 3 rfl rfl uin_X2 1 (Nat.le_of_ble_eq_true rfl) tw_f_RX2_9 rfl rfl dX2_keep_14 ?_
      refine z_iload_n dX2_keep_17 rfl ?_
      obtain ⟨q4, hp⟩ := hp
      refine z_ialdx (x := (T.2 1) v3.toNatClampNeg) wr_P 4 rfl q4 rfl dX2_keep_18 ?_
      obtain ⟨q5, hp⟩ := hp
      refine z_iastx (F := upd (O.2 1) v3.toNatClampNeg ((T.2 1) v3.toNatClampNeg)) (ws' := orW G a b (osa O 1 (upd (O.2 1) v3.toNatClampNeg ((T.2 1) v3.toNatClampNeg))) ++ orW G c b T) 1 rfl q5 rfl rfl dX2_keep_19 ?_
      refine z_iinc (v := v3 + 1) (lv' := [(3, .int (v3 + 1)), (0, .ref (a 0)), (1, .ref (c 0)), (2, .int v2)]) dX2_keep_20 3 rfl rfl (Nat.le_of_ble_eq_true rfl) rfl ?_
      refine z_goto (tgt := 2) dX2_keep_23 (by decide) ?_
      exact z_lv rfl ((ih) (osa O 1 (upd (O.2 1) v3.toNatClampNeg ((T.2 1) v3.toNatClampNeg))) v2 (v3 + 1) hp hv)
set_option maxHeartbeats 800000 in
theorem c_X2_keep {l : Launch} (G : zG) (P : pT) (a : Nat → Nat) (b : Nat → Nat) (c : Nat → Nat) (sz : Nat) (O : oT) (T : oT) (x2 : Int32) (hp : p_X2_keep O T x2) : Met l yX2_keep (.code yX2_keep k_X2_keep.1 k_X2_keep.2.1 k_X2_keep.2.2.2.1 :: TS) k_X2_keep.2.2.2.2 (Pz G [.ref (a 0), .ref (c 0), .int x2] (Fw G (gX G P) (orW G a b O ++ orW G c b T) sz)) (Qwv G (fun w => w = orW G a b (v_X2_keep O T x2) ++ orW G c b T) (va_A (orW G a b O ++ orW G c b T) sz)) 0 0 (va_A (orW G a b O ++ orW G c b T) sz) := by
  refine zmet (K := k_X2_keep) (by decide +kernel) rfl rfl (fun Γ hl0 hQ hN hF => ?_)
  refine z_start (gX_ok G P) hF (fun hw => ?_)
  generalize va_A (orW G a b O ++ orW G c b T) sz = A at hQ hw ⊢
  obtain ⟨res, hv⟩ : ∃ res, v_X2_keep O T x2 = res := ⟨_, rfl⟩
  rw [hv] at hQ
  unfold v_X2_keep at hv
  unfold p_X2_keep at hp
  show Z k_X2_keep G Γ _ 0 0 [(0, .ref (a 0)), (1, .ref (c 0)), (2, .int x2)] 0 []
  refine z_iconst (v := 0) dX2_keep_0 rfl ?_
  refine z_istore_n (lv' := [(3, .int 0), (0, .ref (a 0)), (1, .ref (c 0)), (2, .int x2)]) dX2_keep_1 (Nat.le_of_ble_eq_true rfl) rfl ?_
  exact z_lv rfl ((w_X2_keep a b c T hw hQ 200) O x2 0 hp hv)
theorem dX2_search_0 : decode cX2_search 0 = .ok (.aload_n 0, 1) := by decide +kernel
theorem dX2_search_1 : decode cX2_search 1 = .ok (.iload_n 2, 1) := by decide +kernel
theorem dX2_search_2 : decode cX2_search 2 = .ok (.invokevirtual 38, 3) := by decide +kernel
theorem dX2_search_5 : decode cX2_search 5 = .ok (.istore 6, 2) := by decide +kernel
theorem dX2_search_7 : decode cX2_search 7 = .ok (.iload 6, 2) := by decide +kernel
theorem dX2_search_9 : decode cX2_search 9 = .ok (.ifCond .lt 19, 3) := by decide +kernel
theorem dX2_search_12 : decode cX2_search 12 = .ok (.iload 6, 2) := by decide +kernel
theorem dX2_search_14 : decode cX2_search 14 = .ok (.aload_n 0, 1) := by decide +kernel
theorem dX2_search_15 : decode cX2_search 15 = .ok (.getfield 15, 3) := by decide +kernel
theorem dX2_search_18 : decode cX2_search 18 = .ok (.arraylength, 1) := by decide +kernel
theorem dX2_search_19 : decode cX2_search 19 = .ok (.if_icmp .ge 9, 3) := by decide +kernel
theorem dX2_search_22 : decode cX2_search 22 = .ok (.iload_n 2, 1) := by decide +kernel
theorem dX2_search_23 : decode cX2_search 23 = .ok (.bipush 7, 2) := by decide +kernel
theorem dX2_search_25 : decode cX2_search 25 = .ok (.if_icmp .lt 4, 3) := by decide +kernel
theorem dX2_search_28 : decode cX2_search 28 = .ok (.return_, 1) := by decide +kernel
theorem dX2_search_29 : decode cX2_search 29 = .ok (.iload_n 2, 1) := by decide +kernel
theorem dX2_search_30 : decode cX2_search 30 = .ok (.aload_n 0, 1) := by decide +kernel
theorem dX2_search_31 : decode cX2_search 31 = .ok (.getfield 18, 3) := by decide +kernel
theorem dX2_search_34 : decode cX2_search 34 = .ok (.iconst 1, 1) := by decide +kernel
theorem dX2_search_35 : decode cX2_search 35 = .ok (.isub, 1) := by decide +kernel
theorem dX2_search_36 : decode cX2_search 36 = .ok (.if_icmp .eq 14, 3) := by decide +kernel
theorem dX2_search_39 : decode cX2_search 39 = .ok (.iload_n 2, 1) := by decide +kernel
theorem dX2_search_40 : decode cX2_search 40 = .ok (.iconst 1, 1) := by decide +kernel
theorem dX2_search_41 : decode cX2_search 41 = .ok (.iadd, 1) := by decide +kernel
theorem dX2_search_42 : decode cX2_search 42 = .ok (.aload_n 0, 1) := by decide +kernel
theorem dX2_search_43 : decode cX2_search 43 = .ok (.getfield 9, 3) := by decide +kernel
theorem dX2_search_46 : decode cX2_search 46 = .ok (.arraylength, 1) := by decide +kernel
theorem dX2_search_47 : decode cX2_search 47 = .ok (.if_icmp .lt 7, 3) := by decide +kernel
theorem dX2_search_50 : decode cX2_search 50 = .ok (.iconst 1, 1) := by decide +kernel
theorem dX2_search_51 : decode cX2_search 51 = .ok (.goto 4, 3) := by decide +kernel
theorem dX2_search_54 : decode cX2_search 54 = .ok (.iconst 0, 1) := by decide +kernel
theorem dX2_search_55 : decode cX2_search 55 = .ok (.istore 7, 2) := by decide +kernel
theorem dX2_search_57 : decode cX2_search 57 = .ok (.aload_n 0, 1) := by decide +kernel
theorem dX2_search_58 : decode cX2_search 58 = .ok (.iload_n 2, 1) := by decide +kernel
theorem dX2_search_59 : decode cX2_search 59 = .ok (.iconst 1, 1) := by decide +kernel
theorem dX2_search_60 : decode cX2_search 60 = .ok (.isub, 1) := by decide +kernel
theorem dX2_search_61 : decode cX2_search 61 = .ok (.invokevirtual 76, 3) := by decide +kernel
theorem dX2_search_64 : decode cX2_search 64 = .ok (.istore 8, 2) := by decide +kernel
theorem dX2_search_66 : decode cX2_search 66 = .ok (.iconst 0, 1) := by decide +kernel
theorem dX2_search_67 : decode cX2_search 67 = .ok (.istore 9, 2) := by decide +kernel
theorem dX2_search_69 : decode cX2_search 69 = .ok (.iload 9, 2) := by decide +kernel
theorem dX2_search_71 : decode cX2_search 71 = .ok (.iload 7, 2) := by decide +kernel
theorem dX2_search_73 : decode cX2_search 73 = .ok (.ifCond .eq 7, 3) := by decide +kernel
theorem dX2_search_76 : decode cX2_search 76 = .ok (.iconst 1, 1) := by decide +kernel
theorem dX2_search_77 : decode cX2_search 77 = .ok (.goto 7, 3) := by decide +kernel
theorem dX2_search_80 : decode cX2_search 80 = .ok (.aload_n 0, 1) := by decide +kernel
theorem dX2_search_81 : decode cX2_search 81 = .ok (.getfield 18, 3) := by decide +kernel
theorem dX2_search_84 : decode cX2_search 84 = .ok (.if_icmp .ge 169, 3) := by decide +kernel
theorem dX2_search_87 : decode cX2_search 87 = .ok (.iload 7, 2) := by decide +kernel
theorem dX2_search_89 : decode cX2_search 89 = .ok (.ifCond .ne 15, 3) := by decide +kernel
theorem dX2_search_92 : decode cX2_search 92 = .ok (.iload_n 3, 1) := by decide +kernel
theorem dX2_search_93 : decode cX2_search 93 = .ok (.iload 9, 2) := by decide +kernel
theorem dX2_search_95 : decode cX2_search 95 = .ok (.ishr, 1) := by decide +kernel
theorem dX2_search_96 : decode cX2_search 96 = .ok (.iconst 1, 1) := by decide +kernel
theorem dX2_search_97 : decode cX2_search 97 = .ok (.iand, 1) := by decide +kernel
theorem dX2_search_98 : decode cX2_search 98 = .ok (.ifCond .eq 6, 3) := by decide +kernel
theorem dX2_search_101 : decode cX2_search 101 = .ok (.goto 146, 3) := by decide +kernel
theorem dX2_search_104 : decode cX2_search 104 = .ok (.iload 7, 2) := by decide +kernel
theorem dX2_search_106 : decode cX2_search 106 = .ok (.ifCond .eq 7, 3) := by decide +kernel
theorem dX2_search_109 : decode cX2_search 109 = .ok (.iconst 0, 1) := by decide +kernel
theorem dX2_search_110 : decode cX2_search 110 = .ok (.goto 12, 3) := by decide +kernel
theorem dX2_search_113 : decode cX2_search 113 = .ok (.aload_n 0, 1) := by decide +kernel
theorem dX2_search_114 : decode cX2_search 114 = .ok (.getfield 34, 3) := by decide +kernel
theorem dX2_search_117 : decode cX2_search 117 = .ok (.iload 9, 2) := by decide +kernel
theorem dX2_search_119 : decode cX2_search 119 = .ok (.invokevirtual 42, 3) := by decide +kernel
theorem dX2_search_122 : decode cX2_search 122 = .ok (.istore 10, 2) := by decide +kernel
theorem dX2_search_124 : decode cX2_search 124 = .ok (.aload_n 0, 1) := by decide +kernel
theorem dX2_search_125 : decode cX2_search 125 = .ok (.getfield 34, 3) := by decide +kernel
theorem dX2_search_128 : decode cX2_search 128 = .ok (.iload 6, 2) := by decide +kernel
theorem dX2_search_130 : decode cX2_search 130 = .ok (.iload 8, 2) := by decide +kernel
theorem dX2_search_132 : decode cX2_search 132 = .ok (.iload 10, 2) := by decide +kernel
theorem dX2_search_134 : decode cX2_search 134 = .ok (.iconst 0, 1) := by decide +kernel
theorem dX2_search_135 : decode cX2_search 135 = .ok (.iload 4, 2) := by decide +kernel
theorem dX2_search_137 : decode cX2_search 137 = .ok (.invokestatic 90, 3) := by decide +kernel
theorem dX2_search_140 : decode cX2_search 140 = .ok (.invokevirtual 83, 3) := by decide +kernel
theorem dX2_search_143 : decode cX2_search 143 = .ok (.istore 11, 2) := by decide +kernel
theorem dX2_search_145 : decode cX2_search 145 = .ok (.iload 5, 2) := by decide +kernel
theorem dX2_search_147 : decode cX2_search 147 = .ok (.aload_n 0, 1) := by decide +kernel
theorem dX2_search_148 : decode cX2_search 148 = .ok (.getfield 15, 3) := by decide +kernel
theorem dX2_search_151 : decode cX2_search 151 = .ok (.iload 6, 2) := by decide +kernel
theorem dX2_search_153 : decode cX2_search 153 = .ok (.iaload, 1) := by decide +kernel
theorem dX2_search_154 : decode cX2_search 154 = .ok (.isub, 1) := by decide +kernel
theorem dX2_search_155 : decode cX2_search 155 = .ok (.aload_n 0, 1) := by decide +kernel
theorem dX2_search_156 : decode cX2_search 156 = .ok (.getfield 34, 3) := by decide +kernel
theorem dX2_search_159 : decode cX2_search 159 = .ok (.iload 11, 2) := by decide +kernel
theorem dX2_search_161 : decode cX2_search 161 = .ok (.invokevirtual 107, 3) := by decide +kernel
theorem dX2_search_164 : decode cX2_search 164 = .ok (.iadd, 1) := by decide +kernel
theorem dX2_search_165 : decode cX2_search 165 = .ok (.istore 12, 2) := by decide +kernel
theorem dX2_search_167 : decode cX2_search 167 = .ok (.iload 12, 2) := by decide +kernel
theorem dX2_search_169 : decode cX2_search 169 = .ok (.aload_n 1, 1) := by decide +kernel
theorem dX2_search_170 : decode cX2_search 170 = .ok (.getfield 31, 3) := by decide +kernel
theorem dX2_search_173 : decode cX2_search 173 = .ok (.if_icmp .lt 6, 3) := by decide +kernel
theorem dX2_search_176 : decode cX2_search 176 = .ok (.goto 71, 3) := by decide +kernel
theorem dX2_search_179 : decode cX2_search 179 = .ok (.iload 7, 2) := by decide +kernel
theorem dX2_search_181 : decode cX2_search 181 = .ok (.ifCond .eq 13, 3) := by decide +kernel
theorem dX2_search_184 : decode cX2_search 184 = .ok (.aload_n 1, 1) := by decide +kernel
theorem dX2_search_185 : decode cX2_search 185 = .ok (.aload_n 0, 1) := by decide +kernel
theorem dX2_search_186 : decode cX2_search 186 = .ok (.iload 12, 2) := by decide +kernel
theorem dX2_search_188 : decode cX2_search 188 = .ok (.invokevirtual 110, 3) := by decide +kernel
theorem dX2_search_191 : decode cX2_search 191 = .ok (.goto 56, 3) := by decide +kernel
theorem dX2_search_194 : decode cX2_search 194 = .ok (.aload_n 0, 1) := by decide +kernel
theorem dX2_search_195 : decode cX2_search 195 = .ok (.getfield 9, 3) := by decide +kernel
theorem dX2_search_198 : decode cX2_search 198 = .ok (.iload_n 2, 1) := by decide +kernel
theorem dX2_search_199 : decode cX2_search 199 = .ok (.iconst 1, 1) := by decide +kernel
theorem dX2_search_200 : decode cX2_search 200 = .ok (.iadd, 1) := by decide +kernel
theorem dX2_search_201 : decode cX2_search 201 = .ok (.iload 9, 2) := by decide +kernel
theorem dX2_search_203 : decode cX2_search 203 = .ok (.iastore, 1) := by decide +kernel
theorem dX2_search_204 : decode cX2_search 204 = .ok (.iload 11, 2) := by decide +kernel
theorem dX2_search_206 : decode cX2_search 206 = .ok (.iconst 1, 1) := by decide +kernel
theorem dX2_search_207 : decode cX2_search 207 = .ok (.if_icmp .ne 7, 3) := by decide +kernel
theorem dX2_search_210 : decode cX2_search 210 = .ok (.iconst 1, 1) := by decide +kernel
theorem dX2_search_211 : decode cX2_search 211 = .ok (.goto 13, 3) := by decide +kernel
theorem dX2_search_214 : decode cX2_search 214 = .ok (.iload 11, 2) := by decide +kernel
theorem dX2_search_216 : decode cX2_search 216 = .ok (.ifCond .ne 7, 3) := by decide +kernel
theorem dX2_search_219 : decode cX2_search 219 = .ok (.iconst (-1), 1) := by decide +kernel
theorem dX2_search_220 : decode cX2_search 220 = .ok (.goto 4, 3) := by decide +kernel
theorem dX2_search_223 : decode cX2_search 223 = .ok (.iconst 0, 1) := by decide +kernel
theorem dX2_search_224 : decode cX2_search 224 = .ok (.istore 13, 2) := by decide +kernel
theorem dX2_search_226 : decode cX2_search 226 = .ok (.aload_n 0, 1) := by decide +kernel
theorem dX2_search_227 : decode cX2_search 227 = .ok (.aload_n 1, 1) := by decide +kernel
theorem dX2_search_228 : decode cX2_search 228 = .ok (.iload_n 2, 1) := by decide +kernel
theorem dX2_search_229 : decode cX2_search 229 = .ok (.iconst 1, 1) := by decide +kernel
theorem dX2_search_230 : decode cX2_search 230 = .ok (.iadd, 1) := by decide +kernel
theorem dX2_search_231 : decode cX2_search 231 = .ok (.iload_n 3, 1) := by decide +kernel
theorem dX2_search_232 : decode cX2_search 232 = .ok (.iconst 1, 1) := by decide +kernel
theorem dX2_search_233 : decode cX2_search 233 = .ok (.iload 9, 2) := by decide +kernel
theorem dX2_search_235 : decode cX2_search 235 = .ok (.ishl, 1) := by decide +kernel
theorem dX2_search_236 : decode cX2_search 236 = .ok (.ior, 1) := by decide +kernel
theorem dX2_search_237 : decode cX2_search 237 = .ok (.iload 4, 2) := by decide +kernel
theorem dX2_search_239 : decode cX2_search 239 = .ok (.iload 13, 2) := by decide +kernel
theorem dX2_search_241 : decode cX2_search 241 = .ok (.iadd, 1) := by decide +kernel
theorem dX2_search_242 : decode cX2_search 242 = .ok (.iload 12, 2) := by decide +kernel
theorem dX2_search_244 : decode cX2_search 244 = .ok (.invokestatic 103, 3) := by decide +kernel
theorem dX2_search_247 : decode cX2_search 247 = .ok (.iinc 9 1, 3) := by decide +kernel
theorem dX2_search_250 : decode cX2_search 250 = .ok (.goto (-181), 3) := by decide +kernel
theorem dX2_search_253 : decode cX2_search 253 = .ok (.return_, 1) := by decide +kernel
abbrev k_X2_search (d : Nat) : zK := (cX2_search, 14, RX2, none, ({ frames := 4 + d, cells := 0, slots := 0, locals := 90 + d * 33 } : Room))
theorem zc_X2_search (d : Nat) : zcal yX2_search (k_X2_search d).1 (k_X2_search d).2.1 (k_X2_search d).2.2.2.1 6 := ⟨tw_code_yX2_search, tw_i_TollForHesitators_Order, ⟨by decide +kernel, by decide +kernel⟩, by decide +kernel⟩
def v_X2_search_r (P : pT) (rv : oT → oT → rT → Int32 → Int32 → Int32 → Int32 → oT × oT) (R : rT) : Nat → oT → oT → Int32 → Int32 → Int32 → Int32 → Int32 → Int32 → Int32 → Int32 → oT × oT
  | 0, O, T, _, _, _, _, _, _, _, _ => (O, T)
  | n + 1, O, T, v2, v3, v4, v5, v6, v7, v8, v9 => if (if v7 = 0 then O.1 3 else 1) ≤ v9 then (O, T) else kk (if v7 = 0 then (if ((v3 >>> (v9 &&& 31)) &&& 1) = 0 then (if ((v5 - ((O.2 2) v6.toNatClampNeg)) + (v_X4_weightOf R (v_X4_comesTo P R v6 v8 (if v7 = 0 then (v_X4_nerveOf R v9) else 0) (if 0 < v4 then v4 else 0)))) < (T.1 7) then (if v7 = 0 then (rv (osa O 1 (upd (O.2 1) (v2 + 1).toNatClampNeg v9)) T R (v2 + 1) (v3 ||| (1 <<< (v9 &&& 31))) (v4 + (if (v_X4_comesTo P R v6 v8 (if v7 = 0 then (v_X4_nerveOf R v9) else 0) (if 0 < v4 then v4 else 0)) = 1 then 1 else (if (v_X4_comesTo P R v6 v8 (if v7 = 0 then (v_X4_nerveOf R v9) else 0) (if 0 < v4 then v4 else 0)) = 0 then ((-1) : Int32) else 0))) ((v5 - ((O.2 2) v6.toNatClampNeg)) + (v_X4_weightOf R (v_X4_comesTo P R v6 v8 (if v7 = 0 then (v_X4_nerveOf R v9) else 0) (if 0 < v4 then v4 else 0))))).1 else O) else O) else O) else (if ((v5 - ((O.2 2) v6.toNatClampNeg)) + (v_X4_weightOf R (v_X4_comesTo P R v6 v8 (if v7 = 0 then (v_X4_nerveOf R v9) else 0) (if 0 < v4 then v4 else 0)))) < (T.1 7) then (if v7 = 0 then (rv (osa O 1 (upd (O.2 1) (v2 + 1).toNatClampNeg v9)) T R (v2 + 1) (v3 ||| (1 <<< (v9 &&& 31))) (v4 + (if (v_X4_comesTo P R v6 v8 (if v7 = 0 then (v_X4_nerveOf R v9) else 0) (if 0 < v4 then v4 else 0)) = 1 then 1 else (if (v_X4_comesTo P R v6 v8 (if v7 = 0 then (v_X4_nerveOf R v9) else 0) (if 0 < v4 then v4 else 0)) = 0 then ((-1) : Int32) else 0))) ((v5 - ((O.2 2) v6.toNatClampNeg)) + (v_X4_weightOf R (v_X4_comesTo P R v6 v8 (if v7 = 0 then (v_X4_nerveOf R v9) else 0) (if 0 < v4 then v4 else 0))))).1 else O) else O)) (fun M103 : oT => kk (if v7 = 0 then (if ((v3 >>> (v9 &&& 31)) &&& 1) = 0 then (if ((v5 - ((O.2 2) v6.toNatClampNeg)) + (v_X4_weightOf R (v_X4_comesTo P R v6 v8 (if v7 = 0 then (v_X4_nerveOf R v9) else 0) (if 0 < v4 then v4 else 0)))) < (T.1 7) then (if v7 = 0 then (rv (osa O 1 (upd (O.2 1) (v2 + 1).toNatClampNeg v9)) T R (v2 + 1) (v3 ||| (1 <<< (v9 &&& 31))) (v4 + (if (v_X4_comesTo P R v6 v8 (if v7 = 0 then (v_X4_nerveOf R v9) else 0) (if 0 < v4 then v4 else 0)) = 1 then 1 else (if (v_X4_comesTo P R v6 v8 (if v7 = 0 then (v_X4_nerveOf R v9) else 0) (if 0 < v4 then v4 else 0)) = 0 then ((-1) : Int32) else 0))) ((v5 - ((O.2 2) v6.toNatClampNeg)) + (v_X4_weightOf R (v_X4_comesTo P R v6 v8 (if v7 = 0 then (v_X4_nerveOf R v9) else 0) (if 0 < v4 then v4 else 0))))).2 else (v_X2_keep T O ((v5 - ((O.2 2) v6.toNatClampNeg)) + (v_X4_weightOf R (v_X4_comesTo P R v6 v8 (if v7 = 0 then (v_X4_nerveOf R v9) else 0) (if 0 < v4 then v4 else 0)))))) else T) else T) else (if ((v5 - ((O.2 2) v6.toNatClampNeg)) + (v_X4_weightOf R (v_X4_comesTo P R v6 v8 (if v7 = 0 then (v_X4_nerveOf R v9) else 0) (if 0 < v4 then v4 else 0)))) < (T.1 7) then (if v7 = 0 then (rv (osa O 1 (upd (O.2 1) (v2 + 1).toNatClampNeg v9)) T R (v2 + 1) (v3 ||| (1 <<< (v9 &&& 31))) (v4 + (if (v_X4_comesTo P R v6 v8 (if v7 = 0 then (v_X4_nerveOf R v9) else 0) (if 0 < v4 then v4 else 0)) = 1 then 1 else (if (v_X4_comesTo P R v6 v8 (if v7 = 0 then (v_X4_nerveOf R v9) else 0) (if 0 < v4 then v4 else 0)) = 0 then ((-1) : Int32) else 0))) ((v5 - ((O.2 2) v6.toNatClampNeg)) + (v_X4_weightOf R (v_X4_comesTo P R v6 v8 (if v7 = 0 then (v_X4_nerveOf R v9) else 0) (if 0 < v4 then v4 else 0))))).2 else (v_X2_keep T O ((v5 - ((O.2 2) v6.toNatClampNeg)) + (v_X4_weightOf R (v_X4_comesTo P R v6 v8 (if v7 = 0 then (v_X4_nerveOf R v9) else 0) (if 0 < v4 then v4 else 0)))))) else T)) (fun M104 : oT => v_X2_search_r P rv R n M103 M104 v2 v3 v4 v5 v6 v7 v8 (v9 + 1)))
def p_X2_search_r (P : pT) (rv : oT → oT → rT → Int32 → Int32 → Int32 → Int32 → oT × oT) (rp : oT → oT → rT → Int32 → Int32 → Int32 → Int32 → Prop) (R : rT) : Nat → oT → oT → Int32 → Int32 → Int32 → Int32 → Int32 → Int32 → Int32 → Int32 → Prop
  | 0, _, _, _, _, _, _, _, _, _, _ => False
  | n + 1, O, T, v2, v3, v4, v5, v6, v7, v8, v9 => if (if v7 = 0 then O.1 3 else 1) ≤ v9 then True else (if v7 = 0 then if ((v3 >>> (v9 &&& 31)) &&& 1) = 0 then (if v7 = 0 then p_X4_nerveOf R v9 else True) ∧ ((p_X4_comesTo P R v6 v8 (if v7 = 0 then (v_X4_nerveOf R v9) else 0) (if 0 < v4 then v4 else 0)) ∧ (vp_in v6 7 ∧ (if ((v5 - ((O.2 2) v6.toNatClampNeg)) + (v_X4_weightOf R (v_X4_comesTo P R v6 v8 (if v7 = 0 then (v_X4_nerveOf R v9) else 0) (if 0 < v4 then v4 else 0)))) < (T.1 7) then if v7 = 0 then (vp_in (v2 + 1) 7) ∧ (rp (osa O 1 (upd (O.2 1) (v2 + 1).toNatClampNeg v9)) T R (v2 + 1) (v3 ||| (1 <<< (v9 &&& 31))) (v4 + (if (v_X4_comesTo P R v6 v8 (if v7 = 0 then (v_X4_nerveOf R v9) else 0) (if 0 < v4 then v4 else 0)) = 1 then 1 else (if (v_X4_comesTo P R v6 v8 (if v7 = 0 then (v_X4_nerveOf R v9) else 0) (if 0 < v4 then v4 else 0)) = 0 then ((-1) : Int32) else 0))) ((v5 - ((O.2 2) v6.toNatClampNeg)) + (v_X4_weightOf R (v_X4_comesTo P R v6 v8 (if v7 = 0 then (v_X4_nerveOf R v9) else 0) (if 0 < v4 then v4 else 0))))) else p_X2_keep T O ((v5 - ((O.2 2) v6.toNatClampNeg)) + (v_X4_weightOf R (v_X4_comesTo P R v6 v8 (if v7 = 0 then (v_X4_nerveOf R v9) else 0) (if 0 < v4 then v4 else 0)))) else True))) else True else (if v7 = 0 then p_X4_nerveOf R v9 else True) ∧ ((p_X4_comesTo P R v6 v8 (if v7 = 0 then (v_X4_nerveOf R v9) else 0) (if 0 < v4 then v4 else 0)) ∧ (vp_in v6 7 ∧ (if ((v5 - ((O.2 2) v6.toNatClampNeg)) + (v_X4_weightOf R (v_X4_comesTo P R v6 v8 (if v7 = 0 then (v_X4_nerveOf R v9) else 0) (if 0 < v4 then v4 else 0)))) < (T.1 7) then if v7 = 0 then (vp_in (v2 + 1) 7) ∧ (rp (osa O 1 (upd (O.2 1) (v2 + 1).toNatClampNeg v9)) T R (v2 + 1) (v3 ||| (1 <<< (v9 &&& 31))) (v4 + (if (v_X4_comesTo P R v6 v8 (if v7 = 0 then (v_X4_nerveOf R v9) else 0) (if 0 < v4 then v4 else 0)) = 1 then 1 else (if (v_X4_comesTo P R v6 v8 (if v7 = 0 then (v_X4_nerveOf R v9) else 0) (if 0 < v4 then v4 else 0)) = 0 then ((-1) : Int32) else 0))) ((v5 - ((O.2 2) v6.toNatClampNeg)) + (v_X4_weightOf R (v_X4_comesTo P R v6 v8 (if v7 = 0 then (v_X4_nerveOf R v9) else 0) (if 0 < v4 then v4 else 0))))) else p_X2_keep T O ((v5 - ((O.2 2) v6.toNatClampNeg)) + (v_X4_weightOf R (v_X4_comesTo P R v6 v8 (if v7 = 0 then (v_X4_nerveOf R v9) else 0) (if 0 < v4 then v4 else 0)))) else True)))) ∧ (kk (if v7 = 0 then (if ((v3 >>> (v9 &&& 31)) &&& 1) = 0 then (if ((v5 - ((O.2 2) v6.toNatClampNeg)) + (v_X4_weightOf R (v_X4_comesTo P R v6 v8 (if v7 = 0 then (v_X4_nerveOf R v9) else 0) (if 0 < v4 then v4 else 0)))) < (T.1 7) then (if v7 = 0 then (rv (osa O 1 (upd (O.2 1) (v2 + 1).toNatClampNeg v9)) T R (v2 + 1) (v3 ||| (1 <<< (v9 &&& 31))) (v4 + (if (v_X4_comesTo P R v6 v8 (if v7 = 0 then (v_X4_nerveOf R v9) else 0) (if 0 < v4 then v4 else 0)) = 1 then 1 else (if (v_X4_comesTo P R v6 v8 (if v7 = 0 then (v_X4_nerveOf R v9) else 0) (if 0 < v4 then v4 else 0)) = 0 then ((-1) : Int32) else 0))) ((v5 - ((O.2 2) v6.toNatClampNeg)) + (v_X4_weightOf R (v_X4_comesTo P R v6 v8 (if v7 = 0 then (v_X4_nerveOf R v9) else 0) (if 0 < v4 then v4 else 0))))).1 else O) else O) else O) else (if ((v5 - ((O.2 2) v6.toNatClampNeg)) + (v_X4_weightOf R (v_X4_comesTo P R v6 v8 (if v7 = 0 then (v_X4_nerveOf R v9) else 0) (if 0 < v4 then v4 else 0)))) < (T.1 7) then (if v7 = 0 then (rv (osa O 1 (upd (O.2 1) (v2 + 1).toNatClampNeg v9)) T R (v2 + 1) (v3 ||| (1 <<< (v9 &&& 31))) (v4 + (if (v_X4_comesTo P R v6 v8 (if v7 = 0 then (v_X4_nerveOf R v9) else 0) (if 0 < v4 then v4 else 0)) = 1 then 1 else (if (v_X4_comesTo P R v6 v8 (if v7 = 0 then (v_X4_nerveOf R v9) else 0) (if 0 < v4 then v4 else 0)) = 0 then ((-1) : Int32) else 0))) ((v5 - ((O.2 2) v6.toNatClampNeg)) + (v_X4_weightOf R (v_X4_comesTo P R v6 v8 (if v7 = 0 then (v_X4_nerveOf R v9) else 0) (if 0 < v4 then v4 else 0))))).1 else O) else O)) (fun M103 : oT => kk (if v7 = 0 then (if ((v3 >>> (v9 &&& 31)) &&& 1) = 0 then (if ((v5 - ((O.2 2) v6.toNatClampNeg)) + (v_X4_weightOf R (v_X4_comesTo P R v6 v8 (if v7 = 0 then (v_X4_nerveOf R v9) else 0) (if 0 < v4 then v4 else 0)))) < (T.1 7) then (if v7 = 0 then (rv (osa O 1 (upd (O.2 1) (v2 + 1).toNatClampNeg v9)) T R (v2 + 1) (v3 ||| (1 <<< (v9 &&& 31))) (v4 + (if (v_X4_comesTo P R v6 v8 (if v7 = 0 then (v_X4_nerveOf R v9) else 0) (if 0 < v4 then v4 else 0)) = 1 then 1 else (if (v_X4_comesTo P R v6 v8 (if v7 = 0 then (v_X4_nerveOf R v9) else 0) (if 0 < v4 then v4 else 0)) = 0 then ((-1) : Int32) else 0))) ((v5 - ((O.2 2) v6.toNatClampNeg)) + (v_X4_weightOf R (v_X4_comesTo P R v6 v8 (if v7 = 0 then (v_X4_nerveOf R v9) else 0) (if 0 < v4 then v4 else 0))))).2 else (v_X2_keep T O ((v5 - ((O.2 2) v6.toNatClampNeg)) + (v_X4_weightOf R (v_X4_comesTo P R v6 v8 (if v7 = 0 then (v_X4_nerveOf R v9) else 0) (if 0 < v4 then v4 else 0)))))) else T) else T) else (if ((v5 - ((O.2 2) v6.toNatClampNeg)) + (v_X4_weightOf R (v_X4_comesTo P R v6 v8 (if v7 = 0 then (v_X4_nerveOf R v9) else 0) (if 0 < v4 then v4 else 0)))) < (T.1 7) then (if v7 = 0 then (rv (osa O 1 (upd (O.2 1) (v2 + 1).toNatClampNeg v9)) T R (v2 + 1) (v3 ||| (1 <<< (v9 &&& 31))) (v4 + (if (v_X4_comesTo P R v6 v8 (if v7 = 0 then (v_X4_nerveOf R v9) else 0) (if 0 < v4 then v4 else 0)) = 1 then 1 else (if (v_X4_comesTo P R v6 v8 (if v7 = 0 then (v_X4_nerveOf R v9) else 0) (if 0 < v4 then v4 else 0)) = 0 then ((-1) : Int32) else 0))) ((v5 - ((O.2 2) v6.toNatClampNeg)) + (v_X4_weightOf R (v_X4_comesTo P R v6 v8 (if v7 = 0 then (v_X4_nerveOf R v9) else 0) (if 0 < v4 then v4 else 0))))).2 else (v_X2_keep T O ((v5 - ((O.2 2) v6.toNatClampNeg)) + (v_X4_weightOf R (v_X4_comesTo P R v6 v8 (if v7 = 0 then (v_X4_nerveOf R v9) else 0) (if 0 < v4 then v4 else 0)))))) else T)) (fun M104 : oT => p_X2_search_r P rv rp R n M103 M104 v2 v3 v4 v5 v6 v7 v8 (v9 + 1))))
def v_X2_search (P : pT) : Nat → oT → oT → rT → Int32 → Int32 → Int32 → Int32 → oT × oT
  | 0, O, T, _, _, _, _, _ => (O, T)
  | d + 1, O, T, R, x2, x3, x4, x5 => if (v_X2_memberAt O x2) < 0 then (O, T) else if 7 ≤ (v_X2_memberAt O x2) then (O, T) else if x2 < 7 then kk (if x2 = ((O.1 3) - 1) then 1 else (if (x2 + 1) < 7 then (0 : Int32) else 1)) (fun m8 : Int32 => v_X2_search_r P (v_X2_search P d) R 200 O T x2 x3 x4 x5 (v_X2_memberAt O x2) m8 (v_X2_nerveAt O R (x2 - 1)) 0) else (O, T)
def p_X2_search (P : pT) : Nat → oT → oT → rT → Int32 → Int32 → Int32 → Int32 → Prop
  | 0, _, _, _, _, _, _, _ => False
  | d + 1, O, T, R, x2, x3, x4, x5 => p_X2_memberAt O x2 ∧ (if (v_X2_memberAt O x2) < 0 then True else if 7 ≤ (v_X2_memberAt O x2) then True else if x2 < 7 then kk (if x2 = ((O.1 3) - 1) then 1 else (if (x2 + 1) < 7 then (0 : Int32) else 1)) (fun m8 : Int32 => (p_X2_nerveAt O R (x2 - 1)) ∧ (p_X2_search_r P (v_X2_search P d) (p_X2_search P d) R 200 O T x2 x3 x4 x5 (v_X2_memberAt O x2) m8 (v_X2_nerveAt O R (x2 - 1)) 0)) else True)
set_option maxHeartbeats 800000 in
theorem w_X2_search {G : zG} {P : pT} {Γ : zT} {A : Nat → Prop} {res : oT × oT} (a : Nat → Nat) (b : Nat → Nat) (c : Nat → Nat) (R : rT) (hw : wk (gX G P) A Γ.2.2.1.1.heap) (hQ : zQ Γ (Qwv G (fun w => w = orW G a b ((res).1) ++ orW G c b ((res).2) ++ rdW G b R) A) 0 0 A) (d : Nat) (rv : oT → oT → rT → Int32 → Int32 → Int32 → Int32 → oT × oT) (rp : oT → oT → rT → Int32 → Int32 → Int32 → Int32 → Prop) (ihc : ∀ (sz : Nat) (O : oT) (T : oT) (R : rT) (x2 : Int32) (x3 : Int32) (x4 : Int32) (x5 : Int32), rp O T R x2 x3 x4 x5 → Met Γ.1 yX2_search (.code yX2_search (k_X2_search d).1 (k_X2_search d).2.1 (k_X2_search d).2.2.2.1 :: TS) (k_X2_search d).2.2.2.2 (Pz G [.ref (a 0), .ref (c 0), .int x2, .int x3, .int x4, .int x5] (Fw G (gX G P) (orW G a b O ++ orW G c b T ++ rdW G b R) sz)) (Qwv G (fun w => w = orW G a b ((rv O T R x2 x3 x4 x5).1) ++ orW G c b ((rv O T R x2 x3 x4 x5).2) ++ rdW G b R) (va_A (orW G a b O ++ orW G c b T ++ rdW G b R) sz)) 0 0 (va_A (orW G a b O ++ orW G c b T ++ rdW G b R) sz)) : ∀ n : Nat, (∀ (O : oT) (T : oT) (v2 : Int32) (v3 : Int32) (v4 : Int32) (v5 : Int32) (v6 : Int32) (v7 : Int32) (v8 : Int32) (v9 : Int32), p_X2_search_r P rv rp R n O T v2 v3 v4 v5 v6 v7 v8 v9 → v_X2_search_r P rv R n O T v2 v3 v4 v5 v6 v7 v8 v9 = res → Z (k_X2_search (d + 1)) G Γ (wr G A Γ.2.2.1.1.heap (orW G a b O ++ orW G c b T ++ rdW G b R)) 0 0 [(0, .ref (a 0)), (1, .ref (c 0)), (2, .int v2), (3, .int v3), (4, .int v4), (5, .int v5), (6, .int v6), (7, .int v7), (8, .int v8), (9, .int v9)] 69 []) := by
  intro n
  induction n with
  | zero => exact fun O T v2 v3 v4 v5 v6 v7 v8 v9 hp => absurd hp (by rw [p_X2_search_r]; exact not_false)
  | succ n ih =>
    intro O T v2 v3 v4 v5 v6 v7 v8 v9 hp hv
    rw [p_X2_search_r] at hp
    rw [v_X2_search_r] at hv
    refine z_iload dX2_search_69 rfl ?_
    refine z_iload dX2_search_71 rfl ?_
    have J105 : ∀ m11 : Int32, m11 = (if v7 = 0 then O.1 3 else 1) → Z (k_X2_search (d + 1)) G Γ (wr G A Γ.2.2.1.1.heap (orW G a b O ++ orW G c b T ++ rdW G b R)) 0 0 [(0, .ref (a 0)), (1, .ref (c 0)), (2, .int v2), (3, .int v3), (4, .int v4), (5, .int v5), (6, .int v6), (7, .int v7), (8, .int v8), (9, .int v9)] 84 [.int m11, .int v9] := by
      intro m11 em11
      rewrite [em11]; clear em11
      refine z_icmp_ge (tgt := 253) dX2_search_84 (by decide) (fun c12 => ?_) (fun c12 => ?_)
      · have hp := ip_t hp c12; have hv := it_t hv c12
        subst hv; exact z_vret_W hQ rfl rfl rfl rfl dX2_search_253
      · have hp := ip_f hp c12; have hv := it_f hv c12
        refine z_iload dX2_search_87 rfl ?_
        obtain ⟨hpm, hp⟩ := hp
        have J106 : ∀ M103 : oT, M103 = (if v7 = 0 then (if ((v3 >>> (v9 &&& 31)) &&& 1) = 0 then (if ((v5 - ((O.2 2) v6.toNatClampNeg)) + (v_X4_weightOf R (v_X4_comesTo P R v6 v8 (if v7 = 0 then (v_X4_nerveOf R v9) else 0) (if 0 < v4 then v4 else 0)))) < (T.1 7) then (if v7 = 0 then (rv (osa O 1 (upd (O.2 1) (v2 + 1).toNatClampNeg v9)) T R (v2 + 1) (v3 ||| (1 <<< (v9 &&& 31))) (v4 + (if (v_X4_comesTo P R v6 v8 (if v7 = 0 then (v_X4_nerveOf R v9) else 0) (if 0 < v4 then v4 else 0)) = 1 then 1 else (if (v_X4_comesTo P R v6 v8 (if v7 = 0 then (v_X4_nerveOf R v9) else 0) (if 0 < v4 then v4 else 0)) = 0 then ((-1) : Int32) else 0))) ((v5 - ((O.2 2) v6.toNatClampNeg)) + (v_X4_weightOf R (v_X4_comesTo P R v6 v8 (if v7 = 0 then (v_X4_nerveOf R v9) else 0) (if 0 < v4 then v4 else 0))))).1 else O) else O) else O) else (if ((v5 - ((O.2 2) v6.toNatClampNeg)) + (v_X4_weightOf R (v_X4_comesTo P R v6 v8 (if v7 = 0 then (v_X4_nerveOf R v9) else 0) (if 0 < v4 then v4 else 0)))) < (T.1 7) then (if v7 = 0 then (rv (osa O 1 (upd (O.2 1) (v2 + 1).toNatClampNeg v9)) T R (v2 + 1) (v3 ||| (1 <<< (v9 &&& 31))) (v4 + (if (v_X4_comesTo P R v6 v8 (if v7 = 0 then (v_X4_nerveOf R v9) else 0) (if 0 < v4 then v4 else 0)) = 1 then 1 else (if (v_X4_comesTo P R v6 v8 (if v7 = 0 then (v_X4_nerveOf R v9) else 0) (if 0 < v4 then v4 else 0)) = 0 then ((-1) : Int32) else 0))) ((v5 - ((O.2 2) v6.toNatClampNeg)) + (v_X4_weightOf R (v_X4_comesTo P R v6 v8 (if v7 = 0 then (v_X4_nerveOf R v9) else 0) (if 0 < v4 then v4 else 0))))).1 else O) else O)) → ∀ M104 : oT, M104 = (if v7 = 0 then (if ((v3 >>> (v9 &&& 31)) &&& 1) = 0 then (if ((v5 - ((O.2 2) v6.toNatClampNeg)) + (v_X4_weightOf R (v_X4_comesTo P R v6 v8 (if v7 = 0 then (v_X4_nerveOf R v9) else 0) (if 0 < v4 then v4 else 0)))) < (T.1 7) then (if v7 = 0 then (rv (osa O 1 (upd (O.2 1) (v2 + 1).toNatClampNeg v9)) T R (v2 + 1) (v3 ||| (1 <<< (v9 &&& 31))) (v4 + (if (v_X4_comesTo P R v6 v8 (if v7 = 0 then (v_X4_nerveOf R v9) else 0) (if 0 < v4 then v4 else 0)) = 1 then 1 else (if (v_X4_comesTo P R v6 v8 (if v7 = 0 then (v_X4_nerveOf R v9) else 0) (if 0 < v4 then v4 else 0)) = 0 then ((-1) : Int32) else 0))) ((v5 - ((O.2 2) v6.toNatClampNeg)) + (v_X4_weightOf R (v_X4_comesTo P R v6 v8 (if v7 = 0 then (v_X4_nerveOf R v9) else 0) (if 0 < v4 then v4 else 0))))).2 else (v_X2_keep T O ((v5 - ((O.2 2) v6.toNatClampNeg)) + (v_X4_weightOf R (v_X4_comesTo P R v6 v8 (if v7 = 0 then (v_X4_nerveOf R v9) else 0) (if 0 < v4 then v4 else 0)))))) else T) else T) else (if ((v5 - ((O.2 2) v6.toNatClampNeg)) + (v_X4_weightOf R (v_X4_comesTo P R v6 v8 (if v7 = 0 then (v_X4_nerveOf R v9) else 0) (if 0 < v4 then v4 else 0)))) < (T.1 7) then (if v7 = 0 then (rv (osa O 1 (upd (O.2 1) (v2 + 1).toNatClampNeg v9)) T R (v2 + 1) (v3 ||| (1 <<< (v9 &&& 31))) (v4 + (if (v_X4_comesTo P R v6 v8 (if v7 = 0 then (v_X4_nerveOf R v9) else 0) (if 0 < v4 then v4 else 0)) = 1 then 1 else (if (v_X4_comesTo P R v6 v8 (if v7 = 0 then (v_X4_nerveOf R v9) else 0) (if 0 < v4 then v4 else 0)) = 0 then ((-1) : Int32) else 0))) ((v5 - ((O.2 2) v6.toNatClampNeg)) + (v_X4_weightOf R (v_X4_comesTo P R v6 v8 (if v7 = 0 then (v_X4_nerveOf R v9) else 0) (if 0 < v4 then v4 else 0))))).2 else (v_X2_keep T O ((v5 - ((O.2 2) v6.toNatClampNeg)) + (v_X4_weightOf R (v_X4_comesTo P R v6 v8 (if v7 = 0 then (v_X4_nerveOf R v9) else 0) (if 0 < v4 then v4 else 0)))))) else T)) → Z (k_X2_search (d + 1)) G Γ (wr G A Γ.2.2.1.1.heap (orW G a b M103 ++ orW G c b M104 ++ rdW G b R)) 0 0 [(0, .ref (a 0)), (1, .ref (c 0)), (2, .int v2), (3, .int v3), (4, .int v4), (5, .int v5), (6, .int v6), (7, .int v7), (8, .int v8), (9, .int v9)] 247 [] := by
          intro M103 eM103 M104 eM104
          have hp := kk_pq hp eM103
          have hv := kk_vq hv eM103
          clear eM103
          have hp := kk_pq hp eM104
          have hv := kk_vq hv eM104
          clear eM104
          refine z_iinc (v := v9 + 1) (lv' := [(9, .int (v9 + 1)), (0, .ref (a 0)), (1, .ref (c 0)), (2, .int v2), (3, .int v3), (4, .int v4), (5, .int v5), (6, .int v6), (7, .int v7), (8, .int v8)]) dX2_search_247 9 rfl rfl (Nat.le_of_ble_eq_true rfl) rfl ?_
          refine z_goto (tgt := 69) dX2_search_250 (by decide) ?_
          exact z_lv rfl ((ih) M103 M104 v2 v3 v4 v5 v6 v7 v8 (v9 + 1) hp hv)
        refine z_if_ne (tgt := 104) dX2_search_89 (by decide) (fun c59 => ?_) (fun c59 => ?_)
        · have hp := ip_f hpm c59
          refine z_iload dX2_search_104 rfl ?_
          obtain ⟨hpm, hp⟩ := hp
          have J107 : ∀ m62 : Int32, m62 = (if v7 = 0 then (v_X4_nerveOf R v9) else 0) → Z (k_X2_search (d + 1)) G Γ (wr G A Γ.2.2.1.1.heap (orW G a b O ++ orW G c b T ++ rdW G b R)) 0 0 [(0, .ref (a 0)), (1, .ref (c 0)), (2, .int v2), (3, .int v3), (4, .int v4), (5, .int v5), (6, .int v6), (7, .int v7), (8, .int v8), (9, .int v9)] 122 [.int m62] := by
            intro m62 em62
            rewrite [em62]; clear em62
            refine z_istore (lv' := [(10, .int (if v7 = 0 then (v_X4_nerveOf R v9) else 0)), (0, .ref (a 0)), (1, .ref (c 0)), (2, .int v2), (3, .int v3), (4, .int v4), (5, .int v5), (6, .int v6), (7, .int v7), (8, .int v8), (9, .int v9)]) dX2_search_122 (Nat.le_of_ble_eq_true rfl) rfl ?_
            refine z_aload_n dX2_search_124 rfl ?_
            refine z_get (v := .ref (b 0)) wr_P 0 rfl rfl uin_X2 0 (Nat.le_of_ble_eq_true rfl) tw_f_RX2_34 rfl rfl dX2_search_125 ?_
            refine z_iload dX2_search_128 rfl ?_
            refine z_iload dX2_search_130 rfl ?_
            refine z_iload dX2_search_132 rfl ?_
            refine z_iconst (v := 0) dX2_search_134 rfl ?_
            refine z_iload dX2_search_135 rfl ?_
            refine z_max tw_m_RX2_90 tw_st_yJ9_max_7cf53 tw_i_java_lang_Math tw_code_yJ9_max_7cf53 ⟨by simp only [k_X2_search]; omega, Nat.le_trans (m := 21) (Nat.le_of_ble_eq_true rfl) (by simp only [k_X2_search]; omega), Nat.zero_le _, Nat.zero_le _⟩ dX2_search_137 ?_
            obtain ⟨q63, hp⟩ := hp
            refine z_cvi (c_X4_comesTo G P b R v6 v8 (if v7 = 0 then (v_X4_nerveOf R v9) else 0) (if 0 < v4 then v4 else 0) q63) zc_X4_comesTo zv_X4_comesTo tw_m_RX2_83 (zrec_of wr_P 6 rfl rfl) (fr_all (sub_P wr_P [6, 7, 8, 9, 10] rfl) (wr_G hw)) (by refine ⟨rfl, rfl, ⟨?_, ?_⟩, ⟨?_, ?_⟩⟩ <;> (simp only [k_X2_search, k_X4_comesTo]; omega)) rfl (Nat.le_of_ble_eq_true rfl) dX2_search_140 ?_
            refine z_istore (lv' := [(11, .int (v_X4_comesTo P R v6 v8 (if v7 = 0 then (v_X4_nerveOf R v9) else 0) (if 0 < v4 then v4 else 0))), (10, .int (if v7 = 0 then (v_X4_nerveOf R v9) else 0)), (0, .ref (a 0)), (1, .ref (c 0)), (2, .int v2), (3, .int v3), (4, .int v4), (5, .int v5), (6, .int v6), (7, .int v7), (8, .int v8), (9, .int v9)]) dX2_search_143 (Nat.le_of_ble_eq_true rfl) rfl ?_
            refine z_iload dX2_search_145 rfl ?_
            refine z_aload_n dX2_search_147 rfl ?_
            refine z_get (v := .ref (a 2)) wr_P 0 rfl rfl uin_X2 2 (Nat.le_of_ble_eq_true rfl) tw_f_RX2_15 rfl rfl dX2_search_148 ?_
            refine z_iload dX2_search_151 rfl ?_
            obtain ⟨q64, hp⟩ := hp
            refine z_ialdx (x := (O.2 2) v6.toNatClampNeg) wr_P 2 rfl q64 rfl dX2_search_153 ?_
            refine z_isub dX2_search_154 ?_
            refine z_aload_n dX2_search_155 rfl ?_
            refine z_get (v := .ref (b 0)) wr_P 0 rfl rfl uin_X2 0 (Nat.le_of_ble_eq_true rfl) tw_f_RX2_34 rfl rfl dX2_search_156 ?_
            refine z_iload dX2_search_159 rfl ?_
            refine z_cvi (c_X4_weightOf G P b R (v_X4_comesTo P R v6 v8 (if v7 = 0 then (v_X4_nerveOf R v9) else 0) (if 0 < v4 then v4 else 0)) ) zc_X4_weightOf zv_X4_weightOf tw_m_RX2_107 (zrec_of wr_P 6 rfl rfl) (fr_all (sub_P wr_P [6, 7, 8, 9, 10] rfl) (wr_G hw)) (by refine ⟨rfl, rfl, ⟨?_, ?_⟩, ⟨?_, ?_⟩⟩ <;> (simp only [k_X2_search, k_X4_weightOf]; omega)) rfl (Nat.le_of_ble_eq_true rfl) dX2_search_161 ?_
            refine z_iadd dX2_search_164 ?_
            refine z_istore (lv' := [(12, .int ((v5 - ((O.2 2) v6.toNatClampNeg)) + (v_X4_weightOf R (v_X4_comesTo P R v6 v8 (if v7 = 0 then (v_X4_nerveOf R v9) else 0) (if 0 < v4 then v4 else 0))))), (11, .int (v_X4_comesTo P R v6 v8 (if v7 = 0 then (v_X4_nerveOf R v9) else 0) (if 0 < v4 then v4 else 0))), (10, .int (if v7 = 0 then (v_X4_nerveOf R v9) else 0)), (0, .ref (a 0)), (1, .ref (c 0)), (2, .int v2), (3, .int v3), (4, .int v4), (5, .int v5), (6, .int v6), (7, .int v7), (8, .int v8), (9, .int v9)]) dX2_search_165 (Nat.le_of_ble_eq_true rfl) rfl ?_
            refine z_iload dX2_search_167 rfl ?_
            refine z_aload_n dX2_search_169 rfl ?_
            refine z_get (v := .int (T.1 7)) wr_P 3 rfl rfl uin_X2 7 (Nat.le_of_ble_eq_true rfl) tw_f_RX2_31 rfl rfl dX2_search_170 ?_
            have hpm := hp
            have J108 : ∀ M78 : oT, M78 = (if ((v5 - ((O.2 2) v6.toNatClampNeg)) + (v_X4_weightOf R (v_X4_comesTo P R v6 v8 (if v7 = 0 then (v_X4_nerveOf R v9) else 0) (if 0 < v4 then v4 else 0)))) < (T.1 7) then (if v7 = 0 then (rv (osa O 1 (upd (O.2 1) (v2 + 1).toNatClampNeg v9)) T R (v2 + 1) (v3 ||| (1 <<< (v9 &&& 31))) (v4 + (if (v_X4_comesTo P R v6 v8 (if v7 = 0 then (v_X4_nerveOf R v9) else 0) (if 0 < v4 then v4 else 0)) = 1 then 1 else (if (v_X4_comesTo P R v6 v8 (if v7 = 0 then (v_X4_nerveOf R v9) else 0) (if 0 < v4 then v4 else 0)) = 0 then ((-1) : Int32) else 0))) ((v5 - ((O.2 2) v6.toNatClampNeg)) + (v_X4_weightOf R (v_X4_comesTo P R v6 v8 (if v7 = 0 then (v_X4_nerveOf R v9) else 0) (if 0 < v4 then v4 else 0))))).1 else O) else O) → ∀ M79 : oT, M79 = (if ((v5 - ((O.2 2) v6.toNatClampNeg)) + (v_X4_weightOf R (v_X4_comesTo P R v6 v8 (if v7 = 0 then (v_X4_nerveOf R v9) else 0) (if 0 < v4 then v4 else 0)))) < (T.1 7) then (if v7 = 0 then (rv (osa O 1 (upd (O.2 1) (v2 + 1).toNatClampNeg v9)) T R (v2 + 1) (v3 ||| (1 <<< (v9 &&& 31))) (v4 + (if (v_X4_comesTo P R v6 v8 (if v7 = 0 then (v_X4_nerveOf R v9) else 0) (if 0 < v4 then v4 else 0)) = 1 then 1 else (if (v_X4_comesTo P R v6 v8 (if v7 = 0 then (v_X4_nerveOf R v9) else 0) (if 0 < v4 then v4 else 0)) = 0 then ((-1) : Int32) else 0))) ((v5 - ((O.2 2) v6.toNatClampNeg)) + (v_X4_weightOf R (v_X4_comesTo P R v6 v8 (if v7 = 0 then (v_X4_nerveOf R v9) else 0) (if 0 < v4 then v4 else 0))))).2 else (v_X2_keep T O ((v5 - ((O.2 2) v6.toNatClampNeg)) + (v_X4_weightOf R (v_X4_comesTo P R v6 v8 (if v7 = 0 then (v_X4_nerveOf R v9) else 0) (if 0 < v4 then v4 else 0)))))) else T) → Z (k_X2_search (d + 1)) G Γ (wr G A Γ.2.2.1.1.heap (orW G a b M78 ++ orW G c b M79 ++ rdW G b R)) 0 0 [(12, .int ((v5 - ((O.2 2) v6.toNatClampNeg)) + (v_X4_weightOf R (v_X4_comesTo P R v6 v8 (if v7 = 0 then (v_X4_nerveOf R v9) else 0) (if 0 < v4 then v4 else 0))))), (11, .int (v_X4_comesTo P R v6 v8 (if v7 = 0 then (v_X4_nerveOf R v9) else 0) (if 0 < v4 then v4 else 0))), (10, .int (if v7 = 0 then (v_X4_nerveOf R v9) else 0)), (0, .ref (a 0)), (1, .ref (c 0)), (2, .int v2), (3, .int v3), (4, .int v4), (5, .int v5), (6, .int v6), (7, .int v7), (8, .int v8), (9, .int v9)] 247 [] := by
              intro M78 eM78 M79 eM79
              rewrite [eM78]; clear eM78
              rewrite [eM79]; clear eM79
              exact z_lv rfl (J106 _ (if_neg c59).symm _ (if_neg c59).symm)
            refine z_icmp_lt (tgt := 179) dX2_search_173 (by decide) (fun c65 => ?_) (fun c65 => ?_)
            · have hp := ip_t hpm c65
              refine z_iload dX2_search_179 rfl ?_
              have hpm := hp
              have J109 : ∀ M76 : oT, M76 = (if v7 = 0 then (rv (osa O 1 (upd (O.2 1) (v2 + 1).toNatClampNeg v9)) T R (v2 + 1) (v3 ||| (1 <<< (v9 &&& 31))) (v4 + (if (v_X4_comesTo P R v6 v8 (if v7 = 0 then (v_X4_nerveOf R v9) else 0) (if 0 < v4 then v4 else 0)) = 1 then 1 else (if (v_X4_comesTo P R v6 v8 (if v7 = 0 then (v_X4_nerveOf R v9) else 0) (if 0 < v4 then v4 else 0)) = 0 then ((-1) : Int32) else 0))) ((v5 - ((O.2 2) v6.toNatClampNeg)) + (v_X4_weightOf R (v_X4_comesTo P R v6 v8 (if v7 = 0 then (v_X4_nerveOf R v9) else 0) (if 0 < v4 then v4 else 0))))).1 else O) → ∀ M77 : oT, M77 = (if v7 = 0 then (rv (osa O 1 (upd (O.2 1) (v2 + 1).toNatClampNeg v9)) T R (v2 + 1) (v3 ||| (1 <<< (v9 &&& 31))) (v4 + (if (v_X4_comesTo P R v6 v8 (if v7 = 0 then (v_X4_nerveOf R v9) else 0) (if 0 < v4 then v4 else 0)) = 1 then 1 else (if (v_X4_comesTo P R v6 v8 (if v7 = 0 then (v_X4_nerveOf R v9) else 0) (if 0 < v4 then v4 else 0)) = 0 then ((-1) : Int32) else 0))) ((v5 - ((O.2 2) v6.toNatClampNeg)) + (v_X4_weightOf R (v_X4_comesTo P R v6 v8 (if v7 = 0 then (v_X4_nerveOf R v9) else 0) (if 0 < v4 then v4 else 0))))).2 else (v_X2_keep T O ((v5 - ((O.2 2) v6.toNatClampNeg)) + (v_X4_weightOf R (v_X4_comesTo P R v6 v8 (if v7 = 0 then (v_X4_nerveOf R v9) else 0) (if 0 < v4 then v4 else 0)))))) → Z (k_X2_search (d + 1)) G Γ (wr G A Γ.2.2.1.1.heap (orW G a b M76 ++ orW G c b M77 ++ rdW G b R)) 0 0 [(12, .int ((v5 - ((O.2 2) v6.toNatClampNeg)) + (v_X4_weightOf R (v_X4_comesTo P R v6 v8 (if v7 = 0 then (v_X4_nerveOf R v9) else 0) (if 0 < v4 then v4 else 0))))), (11, .int (v_X4_comesTo P R v6 v8 (if v7 = 0 then (v_X4_nerveOf R v9) else 0) (if 0 < v4 then v4 else 0))), (10, .int (if v7 = 0 then (v_X4_nerveOf R v9) else 0)), (0, .ref (a 0)), (1, .ref (c 0)), (2, .int v2), (3, .int v3), (4, .int v4), (5, .int v5), (6, .int v6), (7, .int v7), (8, .int v8), (9, .int v9)] 247 [] := by
                intro M76 eM76 M77 eM77
                rewrite [eM76]; clear eM76
                rewrite [eM77]; clear eM77
                exact z_lv rfl (J108 _ (if_pos c65).symm _ (if_pos c65).symm)
              refine z_if_eq (tgt := 194) dX2_search_181 (by decide) (fun c66 => ?_) (fun c66 => ?_)
              · have hp := ip_t hpm c66
                refine z_aload_n dX2_search_194 rfl ?_
                refine z_get (v := .ref (a 1)) wr_P 0 rfl rfl uin_X2 1 (Nat.le_of_ble_eq_true rfl) tw_f_RX2_9 rfl rfl dX2_search_195 ?_
                refine z_iload_n dX2_search_198 rfl ?_
                refine z_iconst (v := 1) dX2_search_199 rfl ?_
                refine z_iadd dX2_search_200 ?_
                refine z_iload dX2_search_201 rfl ?_
                obtain ⟨q67, hp⟩ := hp
                refine z_iastx (F := upd (O.2 1) (v2 + 1).toNatClampNeg v9) (ws' := orW G a b (osa O 1 (upd (O.2 1) (v2 + 1).toNatClampNeg v9)) ++ orW G c b T ++ rdW G b R) 1 rfl q67 rfl rfl dX2_search_203 ?_
                refine z_iload dX2_search_204 rfl ?_
                refine z_iconst (v := 1) dX2_search_206 rfl ?_
                have J110 : ∀ m71 : Int32, m71 = (if (v_X4_comesTo P R v6 v8 (if v7 = 0 then (v_X4_nerveOf R v9) else 0) (if 0 < v4 then v4 else 0)) = 1 then 1 else (if (v_X4_comesTo P R v6 v8 (if v7 = 0 then (v_X4_nerveOf R v9) else 0) (if 0 < v4 then v4 else 0)) = 0 then ((-1) : Int32) else 0)) → Z (k_X2_search (d + 1)) G Γ (wr G A Γ.2.2.1.1.heap (orW G a b (osa O 1 (upd (O.2 1) (v2 + 1).toNatClampNeg v9)) ++ orW G c b T ++ rdW G b R)) 0 0 [(12, .int ((v5 - ((O.2 2) v6.toNatClampNeg)) + (v_X4_weightOf R (v_X4_comesTo P R v6 v8 (if v7 = 0 then (v_X4_nerveOf R v9) else 0) (if 0 < v4 then v4 else 0))))), (11, .int (v_X4_comesTo P R v6 v8 (if v7 = 0 then (v_X4_nerveOf R v9) else 0) (if 0 < v4 then v4 else 0))), (10, .int (if v7 = 0 then (v_X4_nerveOf R v9) else 0)), (0, .ref (a 0)), (1, .ref (c 0)), (2, .int v2), (3, .int v3), (4, .int v4), (5, .int v5), (6, .int v6), (7, .int v7), (8, .int v8), (9, .int v9)] 224 [.int m71] := by
                  intro m71 em71
                  rewrite [em71]; clear em71
                  refine z_istore (lv' := [(13, .int (if (v_X4_comesTo P R v6 v8 (if v7 = 0 then (v_X4_nerveOf R v9) else 0) (if 0 < v4 then v4 else 0)) = 1 then 1 else (if (v_X4_comesTo P R v6 v8 (if v7 = 0 then (v_X4_nerveOf R v9) else 0) (if 0 < v4 then v4 else 0)) = 0 then ((-1) : Int32) else 0))), (12, .int ((v5 - ((O.2 2) v6.toNatClampNeg)) + (v_X4_weightOf R (v_X4_comesTo P R v6 v8 (if v7 = 0 then (v_X4_nerveOf R v9) else 0) (if 0 < v4 then v4 else 0))))), (11, .int (v_X4_comesTo P R v6 v8 (if v7 = 0 then (v_X4_nerveOf R v9) else 0) (if 0 < v4 then v4 else 0))), (10, .int (if v7 = 0 then (v_X4_nerveOf R v9) else 0)), (0, .ref (a 0)), (1, .ref (c 0)), (2, .int v2), (3, .int v3), (4, .int v4), (5, .int v5), (6, .int v6), (7, .int v7), (8, .int v8), (9, .int v9)]) dX2_search_224 (Nat.le_of_ble_eq_true rfl) rfl ?_
                  refine z_aload_n dX2_search_226 rfl ?_
                  refine z_aload_n dX2_search_227 rfl ?_
                  refine z_iload_n dX2_search_228 rfl ?_
                  refine z_iconst (v := 1) dX2_search_229 rfl ?_
                  refine z_iadd dX2_search_230 ?_
                  refine z_iload_n dX2_search_231 rfl ?_
                  refine z_iconst (v := 1) dX2_search_232 rfl ?_
                  refine z_iload dX2_search_233 rfl ?_
                  refine z_ishl dX2_search_235 ?_
                  refine z_ior dX2_search_236 ?_
                  refine z_iload dX2_search_237 rfl ?_
                  refine z_iload dX2_search_239 rfl ?_
                  refine z_iadd dX2_search_241 ?_
                  refine z_iload dX2_search_242 rfl ?_
                  have q72 := hp
                  refine z_casvD (ws' := orW G a b ((rv (osa O 1 (upd (O.2 1) (v2 + 1).toNatClampNeg v9)) T R (v2 + 1) (v3 ||| (1 <<< (v9 &&& 31))) (v4 + (if (v_X4_comesTo P R v6 v8 (if v7 = 0 then (v_X4_nerveOf R v9) else 0) (if 0 < v4 then v4 else 0)) = 1 then 1 else (if (v_X4_comesTo P R v6 v8 (if v7 = 0 then (v_X4_nerveOf R v9) else 0) (if 0 < v4 then v4 else 0)) = 0 then ((-1) : Int32) else 0))) ((v5 - ((O.2 2) v6.toNatClampNeg)) + (v_X4_weightOf R (v_X4_comesTo P R v6 v8 (if v7 = 0 then (v_X4_nerveOf R v9) else 0) (if 0 < v4 then v4 else 0))))).1) ++ orW G c b ((rv (osa O 1 (upd (O.2 1) (v2 + 1).toNatClampNeg v9)) T R (v2 + 1) (v3 ||| (1 <<< (v9 &&& 31))) (v4 + (if (v_X4_comesTo P R v6 v8 (if v7 = 0 then (v_X4_nerveOf R v9) else 0) (if 0 < v4 then v4 else 0)) = 1 then 1 else (if (v_X4_comesTo P R v6 v8 (if v7 = 0 then (v_X4_nerveOf R v9) else 0) (if 0 < v4 then v4 else 0)) = 0 then ((-1) : Int32) else 0))) ((v5 - ((O.2 2) v6.toNatClampNeg)) + (v_X4_weightOf R (v_X4_comesTo P R v6 v8 (if v7 = 0 then (v_X4_nerveOf R v9) else 0) (if 0 < v4 then v4 else 0))))).2) ++ rdW G b R) hw (fun sz => ihc sz (osa O 1 (upd (O.2 1) (v2 + 1).toNatClampNeg v9)) T R (v2 + 1) (v3 ||| (1 <<< (v9 &&& 31))) (v4 + (if (v_X4_comesTo P R v6 v8 (if v7 = 0 then (v_X4_nerveOf R v9) else 0) (if 0 < v4 then v4 else 0)) = 1 then 1 else (if (v_X4_comesTo P R v6 v8 (if v7 = 0 then (v_X4_nerveOf R v9) else 0) (if 0 < v4 then v4 else 0)) = 0 then ((-1) : Int32) else 0))) ((v5 - ((O.2 2) v6.toNatClampNeg)) + (v_X4_weightOf R (v_X4_comesTo P R v6 v8 (if v7 = 0 then (v_X4_nerveOf R v9) else 0) (if 0 < v4 then v4 else 0)))) q72) (zc_X2_search d) tw_st_yX2_search tw_m_RX2_103 (by refine ⟨rfl, rfl, ⟨?_, ?_⟩, ⟨?_, ?_⟩⟩ <;> (simp only [k_X2_search]; omega)) rfl (Nat.le_of_ble_eq_true rfl) dX2_search_244 ?_
                  exact z_lv rfl (J109 _ (if_pos c66).symm _ (if_pos c66).symm)
                refine z_icmp_ne (tgt := 214) dX2_search_207 (by decide) (fun c68 => ?_) (fun c68 => ?_)
                · skip
                  refine z_iload dX2_search_214 rfl ?_
                  have J111 : ∀ m70 : Int32, m70 = (if (v_X4_comesTo P R v6 v8 (if v7 = 0 then (v_X4_nerveOf R v9) else 0) (if 0 < v4 then v4 else 0)) = 0 then ((-1) : Int32) else 0) → Z (k_X2_search (d + 1)) G Γ (wr G A Γ.2.2.1.1.heap (orW G a b (osa O 1 (upd (O.2 1) (v2 + 1).toNatClampNeg v9)) ++ orW G c b T ++ rdW G b R)) 0 0 [(12, .int ((v5 - ((O.2 2) v6.toNatClampNeg)) + (v_X4_weightOf R (v_X4_comesTo P R v6 v8 (if v7 = 0 then (v_X4_nerveOf R v9) else 0) (if 0 < v4 then v4 else 0))))), (11, .int (v_X4_comesTo P R v6 v8 (if v7 = 0 then (v_X4_nerveOf R v9) else 0) (if 0 < v4 then v4 else 0))), (10, .int (if v7 = 0 then (v_X4_nerveOf R v9) else 0)), (0, .ref (a 0)), (1, .ref (c 0)), (2, .int v2), (3, .int v3), (4, .int v4), (5, .int v5), (6, .int v6), (7, .int v7), (8, .int v8), (9, .int v9)] 224 [.int m70] := by
                    intro m70 em70
                    rewrite [em70]; clear em70
                    exact z_lv rfl (J110 _ (if_neg c68).symm)
                  refine z_if_ne (tgt := 223) dX2_search_216 (by decide) (fun c69 => ?_) (fun c69 => ?_)
                  · skip
                    refine z_iconst (v := 0) dX2_search_223 rfl ?_
                    exact z_lv rfl (J111 _ (if_neg c69).symm)
                  · skip
                    refine z_iconst (v := (-1)) dX2_search_219 rfl ?_
                    refine z_goto (tgt := 224) dX2_search_220 (by decide) ?_
                    exact z_lv rfl (J111 _ (if_pos c69).symm)
                · skip
                  refine z_iconst (v := 1) dX2_search_210 rfl ?_
                  refine z_goto (tgt := 224) dX2_search_211 (by decide) ?_
                  exact z_lv rfl (J110 _ (if_pos c68).symm)
              · have hp := ip_f hpm c66
                refine z_aload_n dX2_search_184 rfl ?_
                refine z_aload_n dX2_search_185 rfl ?_
                refine z_iload dX2_search_186 rfl ?_
                have q74 := hp
                refine z_cwvvD (ws' := orW G a b O ++ orW G c b (v_X2_keep T O ((v5 - ((O.2 2) v6.toNatClampNeg)) + (v_X4_weightOf R (v_X4_comesTo P R v6 v8 (if v7 = 0 then (v_X4_nerveOf R v9) else 0) (if 0 < v4 then v4 else 0))))) ++ rdW G b R) hw (fun sz => c_X2_keep G P c b a sz T O ((v5 - ((O.2 2) v6.toNatClampNeg)) + (v_X4_weightOf R (v_X4_comesTo P R v6 v8 (if v7 = 0 then (v_X4_nerveOf R v9) else 0) (if 0 < v4 then v4 else 0)))) q74) [3, 4, 5, 0, 1, 2] [6, 7, 8, 9, 10] [8, 9, 10, 5, 6, 7, 0, 1, 2, 3, 4] 11 rfl rfl rfl rfl zc_X2_keep zv_X2_keep tw_m_RX2_110 (zrec_of wr_P 3 rfl rfl) (by refine ⟨rfl, rfl, ⟨?_, ?_⟩, ⟨?_, ?_⟩⟩ <;> (simp only [k_X2_search, k_X2_keep]; omega)) rfl (Nat.le_of_ble_eq_true rfl) dX2_search_188 ?_
                refine z_goto (tgt := 247) dX2_search_191 (by decide) ?_
                exact z_lv rfl (J109 _ (if_neg c66).symm _ (if_neg c66).symm)
            · have hp := ip_f hpm c65
              refine z_goto (tgt := 247) dX2_search_176 (by decide) ?_
              exact z_lv rfl (J108 _ (if_neg c65).symm _ (if_neg c65).symm)
          refine z_if_eq (tgt := 113) dX2_search_106 (by decide) (fun c60 => ?_) (fun c60 => ?_)
          · have hp := ip_t hpm c60
            refine z_aload_n dX2_search_113 rfl ?_
            refine z_get (v := .ref (b 0)) wr_P 0 rfl rfl uin_X2 0 (Nat.le_of_ble_eq_true rfl) tw_f_RX2_34 rfl rfl dX2_search_114 ?_
            refine z_iload dX2_search_117 rfl ?_
            have q61 := hp
            refine z_cvi (c_X4_nerveOf G P b R v9 q61) zc_X4_nerveOf zv_X4_nerveOf tw_m_RX2_42 (zrec_of wr_P 6 rfl rfl) (fr_all (sub_P wr_P [6, 7, 8, 9, 10] rfl) (wr_G hw)) (by refine ⟨rfl, rfl, ⟨?_, ?_⟩, ⟨?_, ?_⟩⟩ <;> (simp only [k_X2_search, k_X4_nerveOf]; omega)) rfl (Nat.le_of_ble_eq_true rfl) dX2_search_119 ?_
            exact z_lv rfl (J107 _ (if_pos c60).symm)
          · have hp := ip_f hpm c60
            refine z_iconst (v := 0) dX2_search_109 rfl ?_
            refine z_goto (tgt := 122) dX2_search_110 (by decide) ?_
            exact z_lv rfl (J107 _ (if_neg c60).symm)
        · have hp := ip_t hpm c59
          refine z_iload_n dX2_search_92 rfl ?_
          refine z_iload dX2_search_93 rfl ?_
          refine z_ishr dX2_search_95 ?_
          refine z_iconst (v := 1) dX2_search_96 rfl ?_
          refine z_iand dX2_search_97 ?_
          have hpm := hp
          have J112 : ∀ M101 : oT, M101 = (if ((v3 >>> (v9 &&& 31)) &&& 1) = 0 then (if ((v5 - ((O.2 2) v6.toNatClampNeg)) + (v_X4_weightOf R (v_X4_comesTo P R v6 v8 (if v7 = 0 then (v_X4_nerveOf R v9) else 0) (if 0 < v4 then v4 else 0)))) < (T.1 7) then (if v7 = 0 then (rv (osa O 1 (upd (O.2 1) (v2 + 1).toNatClampNeg v9)) T R (v2 + 1) (v3 ||| (1 <<< (v9 &&& 31))) (v4 + (if (v_X4_comesTo P R v6 v8 (if v7 = 0 then (v_X4_nerveOf R v9) else 0) (if 0 < v4 then v4 else 0)) = 1 then 1 else (if (v_X4_comesTo P R v6 v8 (if v7 = 0 then (v_X4_nerveOf R v9) else 0) (if 0 < v4 then v4 else 0)) = 0 then ((-1) : Int32) else 0))) ((v5 - ((O.2 2) v6.toNatClampNeg)) + (v_X4_weightOf R (v_X4_comesTo P R v6 v8 (if v7 = 0 then (v_X4_nerveOf R v9) else 0) (if 0 < v4 then v4 else 0))))).1 else O) else O) else O) → ∀ M102 : oT, M102 = (if ((v3 >>> (v9 &&& 31)) &&& 1) = 0 then (if ((v5 - ((O.2 2) v6.toNatClampNeg)) + (v_X4_weightOf R (v_X4_comesTo P R v6 v8 (if v7 = 0 then (v_X4_nerveOf R v9) else 0) (if 0 < v4 then v4 else 0)))) < (T.1 7) then (if v7 = 0 then (rv (osa O 1 (upd (O.2 1) (v2 + 1).toNatClampNeg v9)) T R (v2 + 1) (v3 ||| (1 <<< (v9 &&& 31))) (v4 + (if (v_X4_comesTo P R v6 v8 (if v7 = 0 then (v_X4_nerveOf R v9) else 0) (if 0 < v4 then v4 else 0)) = 1 then 1 else (if (v_X4_comesTo P R v6 v8 (if v7 = 0 then (v_X4_nerveOf R v9) else 0) (if 0 < v4 then v4 else 0)) = 0 then ((-1) : Int32) else 0))) ((v5 - ((O.2 2) v6.toNatClampNeg)) + (v_X4_weightOf R (v_X4_comesTo P R v6 v8 (if v7 = 0 then (v_X4_nerveOf R v9) else 0) (if 0 < v4 then v4 else 0))))).2 else (v_X2_keep T O ((v5 - ((O.2 2) v6.toNatClampNeg)) + (v_X4_weightOf R (v_X4_comesTo P R v6 v8 (if v7 = 0 then (v_X4_nerveOf R v9) else 0) (if 0 < v4 then v4 else 0)))))) else T) else T) → Z (k_X2_search (d + 1)) G Γ (wr G A Γ.2.2.1.1.heap (orW G a b M101 ++ orW G c b M102 ++ rdW G b R)) 0 0 [(0, .ref (a 0)), (1, .ref (c 0)), (2, .int v2), (3, .int v3), (4, .int v4), (5, .int v5), (6, .int v6), (7, .int v7), (8, .int v8), (9, .int v9)] 247 [] := by
            intro M101 eM101 M102 eM102
            rewrite [eM101]; clear eM101
            rewrite [eM102]; clear eM102
            exact z_lv rfl (J106 _ (if_pos c59).symm _ (if_pos c59).symm)
          refine z_if_eq (tgt := 104) dX2_search_98 (by decide) (fun c80 => ?_) (fun c80 => ?_)
          · have hp := ip_t hpm c80
            refine z_iload dX2_search_104 rfl ?_
            obtain ⟨hpm, hp⟩ := hp
            have J113 : ∀ m83 : Int32, m83 = (if v7 = 0 then (v_X4_nerveOf R v9) else 0) → Z (k_X2_search (d + 1)) G Γ (wr G A Γ.2.2.1.1.heap (orW G a b O ++ orW G c b T ++ rdW G b R)) 0 0 [(0, .ref (a 0)), (1, .ref (c 0)), (2, .int v2), (3, .int v3), (4, .int v4), (5, .int v5), (6, .int v6), (7, .int v7), (8, .int v8), (9, .int v9)] 122 [.int m83] := by
              intro m83 em83
              rewrite [em83]; clear em83
              refine z_istore (lv' := [(10, .int (if v7 = 0 then (v_X4_nerveOf R v9) else 0)), (0, .ref (a 0)), (1, .ref (c 0)), (2, .int v2), (3, .int v3), (4, .int v4), (5, .int v5), (6, .int v6), (7, .int v7), (8, .int v8), (9, .int v9)]) dX2_search_122 (Nat.le_of_ble_eq_true rfl) rfl ?_
              refine z_aload_n dX2_search_124 rfl ?_
              refine z_get (v := .ref (b 0)) wr_P 0 rfl rfl uin_X2 0 (Nat.le_of_ble_eq_true rfl) tw_f_RX2_34 rfl rfl dX2_search_125 ?_
              refine z_iload dX2_search_128 rfl ?_
              refine z_iload dX2_search_130 rfl ?_
              refine z_iload dX2_search_132 rfl ?_
              refine z_iconst (v := 0) dX2_search_134 rfl ?_
              refine z_iload dX2_search_135 rfl ?_
              refine z_max tw_m_RX2_90 tw_st_yJ9_max_7cf53 tw_i_java_lang_Math tw_code_yJ9_max_7cf53 ⟨by simp only [k_X2_search]; omega, Nat.le_trans (m := 21) (Nat.le_of_ble_eq_true rfl) (by simp only [k_X2_search]; omega), Nat.zero_le _, Nat.zero_le _⟩ dX2_search_137 ?_
              obtain ⟨q84, hp⟩ := hp
              refine z_cvi (c_X4_comesTo G P b R v6 v8 (if v7 = 0 then (v_X4_nerveOf R v9) else 0) (if 0 < v4 then v4 else 0) q84) zc_X4_comesTo zv_X4_comesTo tw_m_RX2_83 (zrec_of wr_P 6 rfl rfl) (fr_all (sub_P wr_P [6, 7, 8, 9, 10] rfl) (wr_G hw)) (by refine ⟨rfl, rfl, ⟨?_, ?_⟩, ⟨?_, ?_⟩⟩ <;> (simp only [k_X2_search, k_X4_comesTo]; omega)) rfl (Nat.le_of_ble_eq_true rfl) dX2_search_140 ?_
              refine z_istore (lv' := [(11, .int (v_X4_comesTo P R v6 v8 (if v7 = 0 then (v_X4_nerveOf R v9) else 0) (if 0 < v4 then v4 else 0))), (10, .int (if v7 = 0 then (v_X4_nerveOf R v9) else 0)), (0, .ref (a 0)), (1, .ref (c 0)), (2, .int v2), (3, .int v3), (4, .int v4), (5, .int v5), (6, .int v6), (7, .int v7), (8, .int v8), (9, .int v9)]) dX2_search_143 (Nat.le_of_ble_eq_true rfl) rfl ?_
              refine z_iload dX2_search_145 rfl ?_
              refine z_aload_n dX2_search_147 rfl ?_
              refine z_get (v := .ref (a 2)) wr_P 0 rfl rfl uin_X2 2 (Nat.le_of_ble_eq_true rfl) tw_f_RX2_15 rfl rfl dX2_search_148 ?_
              refine z_iload dX2_search_151 rfl ?_
              obtain ⟨q85, hp⟩ := hp
              refine z_ialdx (x := (O.2 2) v6.toNatClampNeg) wr_P 2 rfl q85 rfl dX2_search_153 ?_
              refine z_isub dX2_search_154 ?_
              refine z_aload_n dX2_search_155 rfl ?_
              refine z_get (v := .ref (b 0)) wr_P 0 rfl rfl uin_X2 0 (Nat.le_of_ble_eq_true rfl) tw_f_RX2_34 rfl rfl dX2_search_156 ?_
              refine z_iload dX2_search_159 rfl ?_
              refine z_cvi (c_X4_weightOf G P b R (v_X4_comesTo P R v6 v8 (if v7 = 0 then (v_X4_nerveOf R v9) else 0) (if 0 < v4 then v4 else 0)) ) zc_X4_weightOf zv_X4_weightOf tw_m_RX2_107 (zrec_of wr_P 6 rfl rfl) (fr_all (sub_P wr_P [6, 7, 8, 9, 10] rfl) (wr_G hw)) (by refine ⟨rfl, rfl, ⟨?_, ?_⟩, ⟨?_, ?_⟩⟩ <;> (simp only [k_X2_search, k_X4_weightOf]; omega)) rfl (Nat.le_of_ble_eq_true rfl) dX2_search_161 ?_
              refine z_iadd dX2_search_164 ?_
              refine z_istore (lv' := [(12, .int ((v5 - ((O.2 2) v6.toNatClampNeg)) + (v_X4_weightOf R (v_X4_comesTo P R v6 v8 (if v7 = 0 then (v_X4_nerveOf R v9) else 0) (if 0 < v4 then v4 else 0))))), (11, .int (v_X4_comesTo P R v6 v8 (if v7 = 0 then (v_X4_nerveOf R v9) else 0) (if 0 < v4 then v4 else 0))), (10, .int (if v7 = 0 then (v_X4_nerveOf R v9) else 0)), (0, .ref (a 0)), (1, .ref (c 0)), (2, .int v2), (3, .int v3), (4, .int v4), (5, .int v5), (6, .int v6), (7, .int v7), (8, .int v8), (9, .int v9)]) dX2_search_165 (Nat.le_of_ble_eq_true rfl) rfl ?_
              refine z_iload dX2_search_167 rfl ?_
              refine z_aload_n dX2_search_169 rfl ?_
              refine z_get (v := .int (T.1 7)) wr_P 3 rfl rfl uin_X2 7 (Nat.le_of_ble_eq_true rfl) tw_f_RX2_31 rfl rfl dX2_search_170 ?_
              have hpm := hp
              have J114 : ∀ M99 : oT, M99 = (if ((v5 - ((O.2 2) v6.toNatClampNeg)) + (v_X4_weightOf R (v_X4_comesTo P R v6 v8 (if v7 = 0 then (v_X4_nerveOf R v9) else 0) (if 0 < v4 then v4 else 0)))) < (T.1 7) then (if v7 = 0 then (rv (osa O 1 (upd (O.2 1) (v2 + 1).toNatClampNeg v9)) T R (v2 + 1) (v3 ||| (1 <<< (v9 &&& 31))) (v4 + (if (v_X4_comesTo P R v6 v8 (if v7 = 0 then (v_X4_nerveOf R v9) else 0) (if 0 < v4 then v4 else 0)) = 1 then 1 else (if (v_X4_comesTo P R v6 v8 (if v7 = 0 then (v_X4_nerveOf R v9) else 0) (if 0 < v4 then v4 else 0)) = 0 then ((-1) : Int32) else 0))) ((v5 - ((O.2 2) v6.toNatClampNeg)) + (v_X4_weightOf R (v_X4_comesTo P R v6 v8 (if v7 = 0 then (v_X4_nerveOf R v9) else 0) (if 0 < v4 then v4 else 0))))).1 else O) else O) → ∀ M100 : oT, M100 = (if ((v5 - ((O.2 2) v6.toNatClampNeg)) + (v_X4_weightOf R (v_X4_comesTo P R v6 v8 (if v7 = 0 then (v_X4_nerveOf R v9) else 0) (if 0 < v4 then v4 else 0)))) < (T.1 7) then (if v7 = 0 then (rv (osa O 1 (upd (O.2 1) (v2 + 1).toNatClampNeg v9)) T R (v2 + 1) (v3 ||| (1 <<< (v9 &&& 31))) (v4 + (if (v_X4_comesTo P R v6 v8 (if v7 = 0 then (v_X4_nerveOf R v9) else 0) (if 0 < v4 then v4 else 0)) = 1 then 1 else (if (v_X4_comesTo P R v6 v8 (if v7 = 0 then (v_X4_nerveOf R v9) else 0) (if 0 < v4 then v4 else 0)) = 0 then ((-1) : Int32) else 0))) ((v5 - ((O.2 2) v6.toNatClampNeg)) + (v_X4_weightOf R (v_X4_comesTo P R v6 v8 (if v7 = 0 then (v_X4_nerveOf R v9) else 0) (if 0 < v4 then v4 else 0))))).2 else (v_X2_keep T O ((v5 - ((O.2 2) v6.toNatClampNeg)) + (v_X4_weightOf R (v_X4_comesTo P R v6 v8 (if v7 = 0 then (v_X4_nerveOf R v9) else 0) (if 0 < v4 then v4 else 0)))))) else T) → Z (k_X2_search (d + 1)) G Γ (wr G A Γ.2.2.1.1.heap (orW G a b M99 ++ orW G c b M100 ++ rdW G b R)) 0 0 [(12, .int ((v5 - ((O.2 2) v6.toNatClampNeg)) + (v_X4_weightOf R (v_X4_comesTo P R v6 v8 (if v7 = 0 then (v_X4_nerveOf R v9) else 0) (if 0 < v4 then v4 else 0))))), (11, .int (v_X4_comesTo P R v6 v8 (if v7 = 0 then (v_X4_nerveOf R v9) else 0) (if 0 < v4 then v4 else 0))), (10, .int (if v7 = 0 then (v_X4_nerveOf R v9) else 0)), (0, .ref (a 0)), (1, .ref (c 0)), (2, .int v2), (3, .int v3), (4, .int v4), (5, .int v5), (6, .int v6), (7, .int v7), (8, .int v8), (9, .int v9)] 247 [] := by
                intro M99 eM99 M100 eM100
                rewrite [eM99]; clear eM99
                rewrite [eM100]; clear eM100
                exact z_lv rfl (J112 _ (if_pos c80).symm _ (if_pos c80).symm)
              refine z_icmp_lt (tgt := 179) dX2_search_173 (by decide) (fun c86 => ?_) (fun c86 => ?_)
              · have hp := ip_t hpm c86
                refine z_iload dX2_search_179 rfl ?_
                have hpm := hp
                have J115 : ∀ M97 : oT, M97 = (if v7 = 0 then (rv (osa O 1 (upd (O.2 1) (v2 + 1).toNatClampNeg v9)) T R (v2 + 1) (v3 ||| (1 <<< (v9 &&& 31))) (v4 + (if (v_X4_comesTo P R v6 v8 (if v7 = 0 then (v_X4_nerveOf R v9) else 0) (if 0 < v4 then v4 else 0)) = 1 then 1 else (if (v_X4_comesTo P R v6 v8 (if v7 = 0 then (v_X4_nerveOf R v9) else 0) (if 0 < v4 then v4 else 0)) = 0 then ((-1) : Int32) else 0))) ((v5 - ((O.2 2) v6.toNatClampNeg)) + (v_X4_weightOf R (v_X4_comesTo P R v6 v8 (if v7 = 0 then (v_X4_nerveOf R v9) else 0) (if 0 < v4 then v4 else 0))))).1 else O) → ∀ M98 : oT, M98 = (if v7 = 0 then (rv (osa O 1 (upd (O.2 1) (v2 + 1).toNatClampNeg v9)) T R (v2 + 1) (v3 ||| (1 <<< (v9 &&& 31))) (v4 + (if (v_X4_comesTo P R v6 v8 (if v7 = 0 then (v_X4_nerveOf R v9) else 0) (if 0 < v4 then v4 else 0)) = 1 then 1 else (if (v_X4_comesTo P R v6 v8 (if v7 = 0 then (v_X4_nerveOf R v9) else 0) (if 0 < v4 then v4 else 0)) = 0 then ((-1) : Int32) else 0))) ((v5 - ((O.2 2) v6.toNatClampNeg)) + (v_X4_weightOf R (v_X4_comesTo P R v6 v8 (if v7 = 0 then (v_X4_nerveOf R v9) else 0) (if 0 < v4 then v4 else 0))))).2 else (v_X2_keep T O ((v5 - ((O.2 2) v6.toNatClampNeg)) + (v_X4_weightOf R (v_X4_comesTo P R v6 v8 (if v7 = 0 then (v_X4_nerveOf R v9) else 0) (if 0 < v4 then v4 else 0)))))) → Z (k_X2_search (d + 1)) G Γ (wr G A Γ.2.2.1.1.heap (orW G a b M97 ++ orW G c b M98 ++ rdW G b R)) 0 0 [(12, .int ((v5 - ((O.2 2) v6.toNatClampNeg)) + (v_X4_weightOf R (v_X4_comesTo P R v6 v8 (if v7 = 0 then (v_X4_nerveOf R v9) else 0) (if 0 < v4 then v4 else 0))))), (11, .int (v_X4_comesTo P R v6 v8 (if v7 = 0 then (v_X4_nerveOf R v9) else 0) (if 0 < v4 then v4 else 0))), (10, .int (if v7 = 0 then (v_X4_nerveOf R v9) else 0)), (0, .ref (a 0)), (1, .ref (c 0)), (2, .int v2), (3, .int v3), (4, .int v4), (5, .int v5), (6, .int v6), (7, .int v7), (8, .int v8), (9, .int v9)] 247 [] := by
                  intro M97 eM97 M98 eM98
                  rewrite [eM97]; clear eM97
                  rewrite [eM98]; clear eM98
                  exact z_lv rfl (J114 _ (if_pos c86).symm _ (if_pos c86).symm)
                refine z_if_eq (tgt := 194) dX2_search_181 (by decide) (fun c87 => ?_) (fun c87 => ?_)
                · have hp := ip_t hpm c87
                  refine z_aload_n dX2_search_194 rfl ?_
                  refine z_get (v := .ref (a 1)) wr_P 0 rfl rfl uin_X2 1 (Nat.le_of_ble_eq_true rfl) tw_f_RX2_9 rfl rfl dX2_search_195 ?_
                  refine z_iload_n dX2_search_198 rfl ?_
                  refine z_iconst (v := 1) dX2_search_199 rfl ?_
                  refine z_iadd dX2_search_200 ?_
                  refine z_iload dX2_search_201 rfl ?_
                  obtain ⟨q88, hp⟩ := hp
                  refine z_iastx (F := upd (O.2 1) (v2 + 1).toNatClampNeg v9) (ws' := orW G a b (osa O 1 (upd (O.2 1) (v2 + 1).toNatClampNeg v9)) ++ orW G c b T ++ rdW G b R) 1 rfl q88 rfl rfl dX2_search_203 ?_
                  refine z_iload dX2_search_204 rfl ?_
                  refine z_iconst (v := 1) dX2_search_206 rfl ?_
                  have J116 : ∀ m92 : Int32, m92 = (if (v_X4_comesTo P R v6 v8 (if v7 = 0 then (v_X4_nerveOf R v9) else 0) (if 0 < v4 then v4 else 0)) = 1 then 1 else (if (v_X4_comesTo P R v6 v8 (if v7 = 0 then (v_X4_nerveOf R v9) else 0) (if 0 < v4 then v4 else 0)) = 0 then ((-1) : Int32) else 0)) → Z (k_X2_search (d + 1)) G Γ (wr G A Γ.2.2.1.1.heap (orW G a b (osa O 1 (upd (O.2 1) (v2 + 1).toNatClampNeg v9)) ++ orW G c b T ++ rdW G b R)) 0 0 [(12, .int ((v5 - ((O.2 2) v6.toNatClampNeg)) + (v_X4_weightOf R (v_X4_comesTo P R v6 v8 (if v7 = 0 then (v_X4_nerveOf R v9) else 0) (if 0 < v4 then v4 else 0))))), (11, .int (v_X4_comesTo P R v6 v8 (if v7 = 0 then (v_X4_nerveOf R v9) else 0) (if 0 < v4 then v4 else 0))), (10, .int (if v7 = 0 then (v_X4_nerveOf R v9) else 0)), (0, .ref (a 0)), (1, .ref (c 0)), (2, .int v2), (3, .int v3), (4, .int v4), (5, .int v5), (6, .int v6), (7, .int v7), (8, .int v8), (9, .int v9)] 224 [.int m92] := by
                    intro m92 em92
                    rewrite [em92]; clear em92
                    refine z_istore (lv' := [(13, .int (if (v_X4_comesTo P R v6 v8 (if v7 = 0 then (v_X4_nerveOf R v9) else 0) (if 0 < v4 then v4 else 0)) = 1 then 1 else (if (v_X4_comesTo P R v6 v8 (if v7 = 0 then (v_X4_nerveOf R v9) else 0) (if 0 < v4 then v4 else 0)) = 0 then ((-1) : Int32) else 0))), (12, .int ((v5 - ((O.2 2) v6.toNatClampNeg)) + (v_X4_weightOf R (v_X4_comesTo P R v6 v8 (if v7 = 0 then (v_X4_nerveOf R v9) else 0) (if 0 < v4 then v4 else 0))))), (11, .int (v_X4_comesTo P R v6 v8 (if v7 = 0 then (v_X4_nerveOf R v9) else 0) (if 0 < v4 then v4 else 0))), (10, .int (if v7 = 0 then (v_X4_nerveOf R v9) else 0)), (0, .ref (a 0)), (1, .ref (c 0)), (2, .int v2), (3, .int v3), (4, .int v4), (5, .int v5), (6, .int v6), (7, .int v7), (8, .int v8), (9, .int v9)]) dX2_search_224 (Nat.le_of_ble_eq_true rfl) rfl ?_
                    refine z_aload_n dX2_search_226 rfl ?_
                    refine z_aload_n dX2_search_227 rfl ?_
                    refine z_iload_n dX2_search_228 rfl ?_
                    refine z_iconst (v := 1) dX2_search_229 rfl ?_
                    refine z_iadd dX2_search_230 ?_
                    refine z_iload_n dX2_search_231 rfl ?_
                    refine z_iconst (v := 1) dX2_search_232 rfl ?_
                    refine z_iload dX2_search_233 rfl ?_
                    refine z_ishl dX2_search_235 ?_
                    refine z_ior dX2_search_236 ?_
                    refine z_iload dX2_search_237 rfl ?_
                    refine z_iload dX2_search_239 rfl ?_
                    refine z_iadd dX2_search_241 ?_
                    refine z_iload dX2_search_242 rfl ?_
                    have q93 := hp
                    refine z_casvD (ws' := orW G a b ((rv (osa O 1 (upd (O.2 1) (v2 + 1).toNatClampNeg v9)) T R (v2 + 1) (v3 ||| (1 <<< (v9 &&& 31))) (v4 + (if (v_X4_comesTo P R v6 v8 (if v7 = 0 then (v_X4_nerveOf R v9) else 0) (if 0 < v4 then v4 else 0)) = 1 then 1 else (if (v_X4_comesTo P R v6 v8 (if v7 = 0 then (v_X4_nerveOf R v9) else 0) (if 0 < v4 then v4 else 0)) = 0 then ((-1) : Int32) else 0))) ((v5 - ((O.2 2) v6.toNatClampNeg)) + (v_X4_weightOf R (v_X4_comesTo P R v6 v8 (if v7 = 0 then (v_X4_nerveOf R v9) else 0) (if 0 < v4 then v4 else 0))))).1) ++ orW G c b ((rv (osa O 1 (upd (O.2 1) (v2 + 1).toNatClampNeg v9)) T R (v2 + 1) (v3 ||| (1 <<< (v9 &&& 31))) (v4 + (if (v_X4_comesTo P R v6 v8 (if v7 = 0 then (v_X4_nerveOf R v9) else 0) (if 0 < v4 then v4 else 0)) = 1 then 1 else (if (v_X4_comesTo P R v6 v8 (if v7 = 0 then (v_X4_nerveOf R v9) else 0) (if 0 < v4 then v4 else 0)) = 0 then ((-1) : Int32) else 0))) ((v5 - ((O.2 2) v6.toNatClampNeg)) + (v_X4_weightOf R (v_X4_comesTo P R v6 v8 (if v7 = 0 then (v_X4_nerveOf R v9) else 0) (if 0 < v4 then v4 else 0))))).2) ++ rdW G b R) hw (fun sz => ihc sz (osa O 1 (upd (O.2 1) (v2 + 1).toNatClampNeg v9)) T R (v2 + 1) (v3 ||| (1 <<< (v9 &&& 31))) (v4 + (if (v_X4_comesTo P R v6 v8 (if v7 = 0 then (v_X4_nerveOf R v9) else 0) (if 0 < v4 then v4 else 0)) = 1 then 1 else (if (v_X4_comesTo P R v6 v8 (if v7 = 0 then (v_X4_nerveOf R v9) else 0) (if 0 < v4 then v4 else 0)) = 0 then ((-1) : Int32) else 0))) ((v5 - ((O.2 2) v6.toNatClampNeg)) + (v_X4_weightOf R (v_X4_comesTo P R v6 v8 (if v7 = 0 then (v_X4_nerveOf R v9) else 0) (if 0 < v4 then v4 else 0)))) q93) (zc_X2_search d) tw_st_yX2_search tw_m_RX2_103 (by refine ⟨rfl, rfl, ⟨?_, ?_⟩, ⟨?_, ?_⟩⟩ <;> (simp only [k_X2_search]; omega)) rfl (Nat.le_of_ble_eq_true rfl) dX2_search_244 ?_
                    exact z_lv rfl (J115 _ (if_pos c87).symm _ (if_pos c87).symm)
                  refine z_icmp_ne (tgt := 214) dX2_search_207 (by decide) (fun c89 => ?_) (fun c89 => ?_)
                  · skip
                    refine z_iload dX2_search_214 rfl ?_
                    have J117 : ∀ m91 : Int32, m91 = (if (v_X4_comesTo P R v6 v8 (if v7 = 0 then (v_X4_nerveOf R v9) else 0) (if 0 < v4 then v4 else 0)) = 0 then ((-1) : Int32) else 0) → Z (k_X2_search (d + 1)) G Γ (wr G A Γ.2.2.1.1.heap (orW G a b (osa O 1 (upd (O.2 1) (v2 + 1).toNatClampNeg v9)) ++ orW G c b T ++ rdW G b R)) 0 0 [(12, .int ((v5 - ((O.2 2) v6.toNatClampNeg)) + (v_X4_weightOf R (v_X4_comesTo P R v6 v8 (if v7 = 0 then (v_X4_nerveOf R v9) else 0) (if 0 < v4 then v4 else 0))))), (11, .int (v_X4_comesTo P R v6 v8 (if v7 = 0 then (v_X4_nerveOf R v9) else 0) (if 0 < v4 then v4 else 0))), (10, .int (if v7 = 0 then (v_X4_nerveOf R v9) else 0)), (0, .ref (a 0)), (1, .ref (c 0)), (2, .int v2), (3, .int v3), (4, .int v4), (5, .int v5), (6, .int v6), (7, .int v7), (8, .int v8), (9, .int v9)] 224 [.int m91] := by
                      intro m91 em91
                      rewrite [em91]; clear em91
                      exact z_lv rfl (J116 _ (if_neg c89).symm)
                    refine z_if_ne (tgt := 223) dX2_search_216 (by decide) (fun c90 => ?_) (fun c90 => ?_)
                    · skip
                      refine z_iconst (v := 0) dX2_search_223 rfl ?_
                      exact z_lv rfl (J117 _ (if_neg c90).symm)
                    · skip
                      refine z_iconst (v := (-1)) dX2_search_219 rfl ?_
                      refine z_goto (tgt := 224) dX2_search_220 (by decide) ?_
                      exact z_lv rfl (J117 _ (if_pos c90).symm)
                  · skip
                    refine z_iconst (v := 1) dX2_search_210 rfl ?_
                    refine z_goto (tgt := 224) dX2_search_211 (by decide) ?_
                    exact z_lv rfl (J116 _ (if_pos c89).symm)
                · have hp := ip_f hpm c87
                  refine z_aload_n dX2_search_184 rfl ?_
                  refine z_aload_n dX2_search_185 rfl ?_
                  refine z_iload dX2_search_186 rfl ?_
                  have q95 := hp
                  refine z_cwvvD (ws' := orW G a b O ++ orW G c b (v_X2_keep T O ((v5 - ((O.2 2) v6.toNatClampNeg)) + (v_X4_weightOf R (v_X4_comesTo P R v6 v8 (if v7 = 0 then (v_X4_nerveOf R v9) else 0) (if 0 < v4 then v4 else 0))))) ++ rdW G b R) hw (fun sz => c_X2_keep G P c b a sz T O ((v5 - ((O.2 2) v6.toNatClampNeg)) + (v_X4_weightOf R (v_X4_comesTo P R v6 v8 (if v7 = 0 then (v_X4_nerveOf R v9) else 0) (if 0 < v4 then v4 else 0)))) q95) [3, 4, 5, 0, 1, 2] [6, 7, 8, 9, 10] [8, 9, 10, 5, 6, 7, 0, 1, 2, 3, 4] 11 rfl rfl rfl rfl zc_X2_keep zv_X2_keep tw_m_RX2_110 (zrec_of wr_P 3 rfl rfl) (by refine ⟨rfl, rfl, ⟨?_, ?_⟩, ⟨?_, ?_⟩⟩ <;> (simp only [k_X2_search, k_X2_keep]; omega)) rfl (Nat.le_of_ble_eq_true rfl) dX2_search_188 ?_
                  refine z_goto (tgt := 247) dX2_search_191 (by decide) ?_
                  exact z_lv rfl (J115 _ (if_neg c87).symm _ (if_neg c87).symm)
              · have hp := ip_f hpm c86
                refine z_goto (tgt := 247) dX2_search_176 (by decide) ?_
                exact z_lv rfl (J114 _ (if_neg c86).symm _ (if_neg c86).symm)
            refine z_if_eq (tgt := 113) dX2_search_106 (by decide) (fun c81 => ?_) (fun c81 => ?_)
            · have hp := ip_t hpm c81
              refine z_aload_n dX2_search_113 rfl ?_
              refine z_get (v := .ref (b 0)) wr_P 0 rfl rfl uin_X2 0 (Nat.le_of_ble_eq_true rfl) tw_f_RX2_34 rfl rfl dX2_search_114 ?_
              refine z_iload dX2_search_117 rfl ?_
              have q82 := hp
              refine z_cvi (c_X4_nerveOf G P b R v9 q82) zc_X4_nerveOf zv_X4_nerveOf tw_m_RX2_42 (zrec_of wr_P 6 rfl rfl) (fr_all (sub_P wr_P [6, 7, 8, 9, 10] rfl) (wr_G hw)) (by refine ⟨rfl, rfl, ⟨?_, ?_⟩, ⟨?_, ?_⟩⟩ <;> (simp only [k_X2_search, k_X4_nerveOf]; omega)) rfl (Nat.le_of_ble_eq_true rfl) dX2_search_119 ?_
              exact z_lv rfl (J113 _ (if_pos c81).symm)
            · have hp := ip_f hpm c81
              refine z_iconst (v := 0) dX2_search_109 rfl ?_
              refine z_goto (tgt := 122) dX2_search_110 (by decide) ?_
              exact z_lv rfl (J113 _ (if_neg c81).symm)
          · have hp := ip_f hpm c80
            refine z_goto (tgt := 247) dX2_search_101 (by decide) ?_
            exact z_lv rfl (J112 _ (if_neg c80).symm _ (if_neg c80).symm)
    refine z_if_eq (tgt := 80) dX2_search_73 (by decide) (fun c10 => ?_) (fun c10 => ?_)
    · skip
      refine z_aload_n dX2_search_80 rfl ?_
      refine z_get (v := .int (O.1 3)) wr_P 0 rfl rfl uin_X2 3 (Nat.le_of_ble_eq_true rfl) tw_f_RX2_18 rfl rfl dX2_search_81 ?_
      exact z_lv rfl (J105 _ (if_pos c10).symm)
    · skip
      refine z_iconst (v := 1) dX2_search_76 rfl ?_
      refine z_goto (tgt := 84) dX2_search_77 (by decide) ?_
      exact z_lv rfl (J105 _ (if_neg c10).symm)
set_option maxHeartbeats 800000 in
theorem c_X2_search {l : Launch} (G : zG) (P : pT) (a : Nat → Nat) (b : Nat → Nat) (c : Nat → Nat) : ∀ (d : Nat) (sz : Nat) (O : oT) (T : oT) (R : rT) (x2 : Int32) (x3 : Int32) (x4 : Int32) (x5 : Int32) (hp : p_X2_search P d O T R x2 x3 x4 x5), Met l yX2_search (.code yX2_search (k_X2_search d).1 (k_X2_search d).2.1 (k_X2_search d).2.2.2.1 :: TS) (k_X2_search d).2.2.2.2 (Pz G [.ref (a 0), .ref (c 0), .int x2, .int x3, .int x4, .int x5] (Fw G (gX G P) (orW G a b O ++ orW G c b T ++ rdW G b R) sz)) (Qwv G (fun w => w = orW G a b ((v_X2_search P d O T R x2 x3 x4 x5).1) ++ orW G c b ((v_X2_search P d O T R x2 x3 x4 x5).2) ++ rdW G b R) (va_A (orW G a b O ++ orW G c b T ++ rdW G b R) sz)) 0 0 (va_A (orW G a b O ++ orW G c b T ++ rdW G b R) sz) := by
  intro d
  induction d with
  | zero => exact fun sz O T R x2 x3 x4 x5 hp => absurd hp (by rw [p_X2_search]; exact not_false)
  | succ d ihd =>
  intro sz O T R x2 x3 x4 x5 hp
  refine zmet (K := (k_X2_search (d + 1))) (by decide +kernel) rfl rfl (fun Γ hl0 hQ hN hF => ?_)
  subst hl0
  refine z_start (gX_ok G P) hF (fun hw => ?_)
  generalize va_A (orW G a b O ++ orW G c b T ++ rdW G b R) sz = A at hQ hw ⊢
  obtain ⟨res, hv⟩ : ∃ res, v_X2_search P (d + 1) O T R x2 x3 x4 x5 = res := ⟨_, rfl⟩
  rw [hv] at hQ
  rw [v_X2_search] at hv
  rw [p_X2_search] at hp
  show Z (k_X2_search (d + 1)) G Γ _ 0 0 [(0, .ref (a 0)), (1, .ref (c 0)), (2, .int x2), (3, .int x3), (4, .int x4), (5, .int x5)] 0 []
  refine z_aload_n dX2_search_0 rfl ?_
  refine z_iload_n dX2_search_1 rfl ?_
  obtain ⟨q1, hp⟩ := hp
  refine z_cvi (c_X2_memberAt G P a b O x2 q1) zc_X2_memberAt zv_X2_memberAt tw_m_RX2_38 (zrec_of wr_P 0 rfl rfl) (fr_all (sub_P wr_P [0, 1, 2] rfl) (wr_G hw)) (by refine ⟨rfl, rfl, ⟨?_, ?_⟩, ⟨?_, ?_⟩⟩ <;> (simp only [k_X2_search, k_X2_memberAt]; omega)) rfl (Nat.le_of_ble_eq_true rfl) dX2_search_2 ?_
  refine z_istore (lv' := [(6, .int (v_X2_memberAt O x2)), (0, .ref (a 0)), (1, .ref (c 0)), (2, .int x2), (3, .int x3), (4, .int x4), (5, .int x5)]) dX2_search_5 (Nat.le_of_ble_eq_true rfl) rfl ?_
  refine z_iload dX2_search_7 rfl ?_
  refine z_if_lt (tgt := 28) dX2_search_9 (by decide) (fun c2 => ?_) (fun c2 => ?_)
  · have hp := ip_t hp c2; have hv := it_t hv c2
    subst hv; exact z_vret_W hQ rfl rfl rfl rfl dX2_search_28
  · have hp := ip_f hp c2; have hv := it_f hv c2
    refine z_iload dX2_search_12 rfl ?_
    refine z_aload_n dX2_search_14 rfl ?_
    refine z_get (v := .ref (a 2)) wr_P 0 rfl rfl uin_X2 2 (Nat.le_of_ble_eq_true rfl) tw_f_RX2_15 rfl rfl dX2_search_15 ?_
    refine z_alen (cA := G.2.2.1 0) (v := 7) 0 (fun _ => rfl) wr_P 2 rfl rfl dX2_search_18 ?_
    refine z_icmp_ge (tgt := 28) dX2_search_19 (by decide) (fun c3 => ?_) (fun c3 => ?_)
    · have hp := ip_t hp c3; have hv := it_t hv c3
      subst hv; exact z_vret_W hQ rfl rfl rfl rfl dX2_search_28
    · have hp := ip_f hp c3; have hv := it_f hv c3
      refine z_iload_n dX2_search_22 rfl ?_
      refine z_bipush (v := 7) dX2_search_23 rfl ?_
      refine z_icmp_lt (tgt := 29) dX2_search_25 (by decide) (fun c4 => ?_) (fun c4 => ?_)
      · have hp := ip_t hp c4; have hv := it_t hv c4
        refine z_iload_n dX2_search_29 rfl ?_
        refine z_aload_n dX2_search_30 rfl ?_
        refine z_get (v := .int (O.1 3)) wr_P 0 rfl rfl uin_X2 3 (Nat.le_of_ble_eq_true rfl) tw_f_RX2_18 rfl rfl dX2_search_31 ?_
        refine z_iconst (v := 1) dX2_search_34 rfl ?_
        refine z_isub dX2_search_35 ?_
        have J118 : ∀ m8 : Int32, m8 = (if x2 = ((O.1 3) - 1) then 1 else (if (x2 + 1) < 7 then (0 : Int32) else 1)) → Z (k_X2_search (d + 1)) G Γ (wr G A Γ.2.2.1.1.heap (orW G a b O ++ orW G c b T ++ rdW G b R)) 0 0 [(6, .int (v_X2_memberAt O x2)), (0, .ref (a 0)), (1, .ref (c 0)), (2, .int x2), (3, .int x3), (4, .int x4), (5, .int x5)] 55 [.int m8] := by
          intro m8 em8
          have hp := kk_pq hp em8
          have hv := kk_vq hv em8
          clear em8
          refine z_istore (lv' := [(7, .int m8), (6, .int (v_X2_memberAt O x2)), (0, .ref (a 0)), (1, .ref (c 0)), (2, .int x2), (3, .int x3), (4, .int x4), (5, .int x5)]) dX2_search_55 (Nat.le_of_ble_eq_true rfl) rfl ?_
          refine z_aload_n dX2_search_57 rfl ?_
          refine z_iload_n dX2_search_58 rfl ?_
          refine z_iconst (v := 1) dX2_search_59 rfl ?_
          refine z_isub dX2_search_60 ?_
          obtain ⟨q9, hp⟩ := hp
          refine z_cvi (c_X2_nerveAt G P a b O R (x2 - 1) q9) zc_X2_nerveAt zv_X2_nerveAt tw_m_RX2_76 (zrec_of wr_P 0 rfl rfl) (fr_all (sub_P wr_P [0, 1, 2, 6, 7, 8, 9, 10] rfl) (wr_G hw)) (by refine ⟨rfl, rfl, ⟨?_, ?_⟩, ⟨?_, ?_⟩⟩ <;> (simp only [k_X2_search, k_X2_nerveAt]; omega)) rfl (Nat.le_of_ble_eq_true rfl) dX2_search_61 ?_
          refine z_istore (lv' := [(8, .int (v_X2_nerveAt O R (x2 - 1))), (7, .int m8), (6, .int (v_X2_memberAt O x2)), (0, .ref (a 0)), (1, .ref (c 0)), (2, .int x2), (3, .int x3), (4, .int x4), (5, .int x5)]) dX2_search_64 (Nat.le_of_ble_eq_true rfl) rfl ?_
          refine z_iconst (v := 0) dX2_search_66 rfl ?_
          refine z_istore (lv' := [(9, .int 0), (8, .int (v_X2_nerveAt O R (x2 - 1))), (7, .int m8), (6, .int (v_X2_memberAt O x2)), (0, .ref (a 0)), (1, .ref (c 0)), (2, .int x2), (3, .int x3), (4, .int x4), (5, .int x5)]) dX2_search_67 (Nat.le_of_ble_eq_true rfl) rfl ?_
          exact z_lv rfl ((w_X2_search a b c R hw hQ d (v_X2_search P d) (p_X2_search P d) (fun sz O T R x2 x3 x4 x5 hp => ihd sz O T R x2 x3 x4 x5 hp) 200) O T x2 x3 x4 x5 (v_X2_memberAt O x2) m8 (v_X2_nerveAt O R (x2 - 1)) 0 hp hv)
        refine z_icmp_eq (tgt := 50) dX2_search_36 (by decide) (fun c5 => ?_) (fun c5 => ?_)
        · skip
          refine z_iconst (v := 1) dX2_search_50 rfl ?_
          refine z_goto (tgt := 55) dX2_search_51 (by decide) ?_
          exact z_lv rfl (J118 _ (if_pos c5).symm)
        · skip
          refine z_iload_n dX2_search_39 rfl ?_
          refine z_iconst (v := 1) dX2_search_40 rfl ?_
          refine z_iadd dX2_search_41 ?_
          refine z_aload_n dX2_search_42 rfl ?_
          refine z_get (v := .ref (a 1)) wr_P 0 rfl rfl uin_X2 1 (Nat.le_of_ble_eq_true rfl) tw_f_RX2_9 rfl rfl dX2_search_43 ?_
          refine z_alen (cA := G.2.2.1 0) (v := 7) 0 (fun _ => rfl) wr_P 1 rfl rfl dX2_search_46 ?_
          have J119 : ∀ m7 : Int32, m7 = (if (x2 + 1) < 7 then (0 : Int32) else 1) → Z (k_X2_search (d + 1)) G Γ (wr G A Γ.2.2.1.1.heap (orW G a b O ++ orW G c b T ++ rdW G b R)) 0 0 [(6, .int (v_X2_memberAt O x2)), (0, .ref (a 0)), (1, .ref (c 0)), (2, .int x2), (3, .int x3), (4, .int x4), (5, .int x5)] 55 [.int m7] := by
            intro m7 em7
            rewrite [em7]; clear em7
            exact z_lv rfl (J118 _ (if_neg c5).symm)
          refine z_icmp_lt (tgt := 54) dX2_search_47 (by decide) (fun c6 => ?_) (fun c6 => ?_)
          · skip
            refine z_iconst (v := 0) dX2_search_54 rfl ?_
            exact z_lv rfl (J119 _ (if_pos c6).symm)
          · skip
            refine z_iconst (v := 1) dX2_search_50 rfl ?_
            refine z_goto (tgt := 55) dX2_search_51 (by decide) ?_
            exact z_lv rfl (J119 _ (if_neg c6).symm)
      · have hp := ip_f hp c4; have hv := it_f hv c4
        subst hv; exact z_vret_W hQ rfl rfl rfl rfl dX2_search_28
theorem dX2_findBest_0 : decode cX2_findBest 0 = .ok (.aload_n 0, 1) := by decide +kernel
theorem dX2_findBest_1 : decode cX2_findBest 1 = .ok (.invokevirtual 97, 3) := by decide +kernel
theorem dX2_findBest_4 : decode cX2_findBest 4 = .ok (.aload_n 1, 1) := by decide +kernel
theorem dX2_findBest_5 : decode cX2_findBest 5 = .ok (.invokevirtual 97, 3) := by decide +kernel
theorem dX2_findBest_8 : decode cX2_findBest 8 = .ok (.aload_n 1, 1) := by decide +kernel
theorem dX2_findBest_9 : decode cX2_findBest 9 = .ok (.aload_n 0, 1) := by decide +kernel
theorem dX2_findBest_10 : decode cX2_findBest 10 = .ok (.getfield 18, 3) := by decide +kernel
theorem dX2_findBest_13 : decode cX2_findBest 13 = .ok (.ifCond .ne 7, 3) := by decide +kernel
theorem dX2_findBest_16 : decode cX2_findBest 16 = .ok (.iconst 0, 1) := by decide +kernel
theorem dX2_findBest_17 : decode cX2_findBest 17 = .ok (.goto 6, 3) := by decide +kernel
theorem dX2_findBest_20 : decode cX2_findBest 20 = .ok (.sipush 8000, 3) := by decide +kernel
theorem dX2_findBest_23 : decode cX2_findBest 23 = .ok (.putfield 31, 3) := by decide +kernel
theorem dX2_findBest_26 : decode cX2_findBest 26 = .ok (.aload_n 0, 1) := by decide +kernel
theorem dX2_findBest_27 : decode cX2_findBest 27 = .ok (.invokevirtual 100, 3) := by decide +kernel
theorem dX2_findBest_30 : decode cX2_findBest 30 = .ok (.istore_n 2, 1) := by decide +kernel
theorem dX2_findBest_31 : decode cX2_findBest 31 = .ok (.iconst 0, 1) := by decide +kernel
theorem dX2_findBest_32 : decode cX2_findBest 32 = .ok (.istore_n 3, 1) := by decide +kernel
theorem dX2_findBest_33 : decode cX2_findBest 33 = .ok (.iload_n 3, 1) := by decide +kernel
theorem dX2_findBest_34 : decode cX2_findBest 34 = .ok (.aload_n 0, 1) := by decide +kernel
theorem dX2_findBest_35 : decode cX2_findBest 35 = .ok (.getfield 18, 3) := by decide +kernel
theorem dX2_findBest_38 : decode cX2_findBest 38 = .ok (.if_icmp .ge 35, 3) := by decide +kernel
theorem dX2_findBest_41 : decode cX2_findBest 41 = .ok (.iload_n 2, 1) := by decide +kernel
theorem dX2_findBest_42 : decode cX2_findBest 42 = .ok (.aload_n 1, 1) := by decide +kernel
theorem dX2_findBest_43 : decode cX2_findBest 43 = .ok (.getfield 31, 3) := by decide +kernel
theorem dX2_findBest_46 : decode cX2_findBest 46 = .ok (.if_icmp .ge 27, 3) := by decide +kernel
theorem dX2_findBest_49 : decode cX2_findBest 49 = .ok (.aload_n 0, 1) := by decide +kernel
theorem dX2_findBest_50 : decode cX2_findBest 50 = .ok (.getfield 9, 3) := by decide +kernel
theorem dX2_findBest_53 : decode cX2_findBest 53 = .ok (.iconst 0, 1) := by decide +kernel
theorem dX2_findBest_54 : decode cX2_findBest 54 = .ok (.iload_n 3, 1) := by decide +kernel
theorem dX2_findBest_55 : decode cX2_findBest 55 = .ok (.iastore, 1) := by decide +kernel
theorem dX2_findBest_56 : decode cX2_findBest 56 = .ok (.aload_n 0, 1) := by decide +kernel
theorem dX2_findBest_57 : decode cX2_findBest 57 = .ok (.aload_n 1, 1) := by decide +kernel
theorem dX2_findBest_58 : decode cX2_findBest 58 = .ok (.iconst 0, 1) := by decide +kernel
theorem dX2_findBest_59 : decode cX2_findBest 59 = .ok (.iconst 1, 1) := by decide +kernel
theorem dX2_findBest_60 : decode cX2_findBest 60 = .ok (.iload_n 3, 1) := by decide +kernel
theorem dX2_findBest_61 : decode cX2_findBest 61 = .ok (.ishl, 1) := by decide +kernel
theorem dX2_findBest_62 : decode cX2_findBest 62 = .ok (.iconst 0, 1) := by decide +kernel
theorem dX2_findBest_63 : decode cX2_findBest 63 = .ok (.iload_n 2, 1) := by decide +kernel
theorem dX2_findBest_64 : decode cX2_findBest 64 = .ok (.invokestatic 103, 3) := by decide +kernel
theorem dX2_findBest_67 : decode cX2_findBest 67 = .ok (.iinc 3 1, 3) := by decide +kernel
theorem dX2_findBest_70 : decode cX2_findBest 70 = .ok (.goto (-37), 3) := by decide +kernel
theorem dX2_findBest_73 : decode cX2_findBest 73 = .ok (.return_, 1) := by decide +kernel
abbrev k_X2_findBest : zK := (cX2_findBest, 4, RX2, none, ({ frames := 14, cells := 0, slots := 0, locals := 420 } : Room))
theorem zc_X2_findBest : zcal yX2_findBest k_X2_findBest.1 k_X2_findBest.2.1 k_X2_findBest.2.2.2.1 2 := ⟨tw_code_yX2_findBest, tw_i_TollForHesitators_Order, ⟨by decide +kernel, by decide +kernel⟩, by decide +kernel⟩
def v_X2_findBest_r (P : pT) (R : rT) : Nat → oT → oT → Int32 → Int32 → oT × oT
  | 0, O, T, _, _ => (O, T)
  | n + 1, O, T, v2, v3 => if (O.1 3) ≤ v3 then (O, T) else if (T.1 7) ≤ v2 then (O, T) else kk (v_X2_search P 9 (osa O 1 (upd (O.2 1) ((0 : Int32)).toNatClampNeg v3)) T R 0 (1 <<< (v3 &&& 31)) 0 v2) (fun q17 : oT × oT => v_X2_findBest_r P R n q17.1 q17.2 v2 (v3 + 1))
def p_X2_findBest_r (P : pT) (R : rT) : Nat → oT → oT → Int32 → Int32 → Prop
  | 0, _, _, _, _ => False
  | n + 1, O, T, v2, v3 => if (O.1 3) ≤ v3 then True else if (T.1 7) ≤ v2 then True else (p_X2_search P 9 (osa O 1 (upd (O.2 1) ((0 : Int32)).toNatClampNeg v3)) T R 0 (1 <<< (v3 &&& 31)) 0 v2) ∧ (kk (v_X2_search P 9 (osa O 1 (upd (O.2 1) ((0 : Int32)).toNatClampNeg v3)) T R 0 (1 <<< (v3 &&& 31)) 0 v2) (fun q17 : oT × oT => p_X2_findBest_r P R n q17.1 q17.2 v2 (v3 + 1)))
def v_X2_findBest (P : pT) (O : oT) (T : oT) (R : rT) : oT × oT := kk (v_X2_byNumbers O R) (fun q2 : oT => kk (v_X2_byNumbers T R) (fun q4 : oT => kk (v_X2_weighLeast P q2 R) (fun q8 : Int32 × oT => v_X2_findBest_r P R 200 q8.2 (osf q4 7 (if (q2.1 3) = 0 then (0 : Int32) else 8000)) q8.1 0)))
def p_X2_findBest (P : pT) (O : oT) (T : oT) (R : rT) : Prop := p_X2_byNumbers O R ∧ (kk (v_X2_byNumbers O R) (fun q2 : oT => p_X2_byNumbers T R ∧ (kk (v_X2_byNumbers T R) (fun q4 : oT => p_X2_weighLeast P q2 R ∧ (kk (v_X2_weighLeast P q2 R) (fun q8 : Int32 × oT => p_X2_findBest_r P R 200 q8.2 (osf q4 7 (if (q2.1 3) = 0 then (0 : Int32) else 8000)) q8.1 0))))))
set_option maxHeartbeats 800000 in
theorem w_X2_findBest {G : zG} {P : pT} {Γ : zT} {A : Nat → Prop} {res : oT × oT} (a : Nat → Nat) (b : Nat → Nat) (c : Nat → Nat) (R : rT) (hw : wk (gX G P) A Γ.2.2.1.1.heap) (hQ : zQ Γ (Qwv G (fun w => w = orW G a b ((res).1) ++ orW G c b ((res).2) ++ rdW G b R) A) 0 0 A) : ∀ n : Nat, (∀ (O : oT) (T : oT) (v2 : Int32) (v3 : Int32), p_X2_findBest_r P R n O T v2 v3 → v_X2_findBest_r P R n O T v2 v3 = res → Z k_X2_findBest G Γ (wr G A Γ.2.2.1.1.heap (orW G a b O ++ orW G c b T ++ rdW G b R)) 0 0 [(0, .ref (a 0)), (1, .ref (c 0)), (2, .int v2), (3, .int v3)] 33 []) := by
  intro n
  induction n with
  | zero => exact fun O T v2 v3 hp => absurd hp (by rw [p_X2_findBest_r]; exact not_false)
  | succ n ih =>
    intro O T v2 v3 hp hv
    rw [p_X2_findBest_r] at hp
    rw [v_X2_findBest_r] at hv
    refine z_iload_n dX2_findBest_33 rfl ?_
    refine z_aload_n dX2_findBest_34 rfl ?_
    refine z_get (v := .int (O.1 3)) wr_P 0 rfl rfl uin_X2 3 (Nat.le_of_ble_eq_true rfl) tw_f_RX2_18 rfl rfl dX2_findBest_35 ?_
    refine z_icmp_ge (tgt := 73) dX2_findBest_38 (by decide) (fun c9 => ?_) (fun c9 => ?_)
    · have hp := ip_t hp c9; have hv := it_t hv c9
      subst hv; exact z_vret_W hQ rfl rfl rfl rfl dX2_findBest_73
    · have hp := ip_f hp c9; have hv := it_f hv c9
      refine z_iload_n dX2_findBest_41 rfl ?_
      refine z_aload_n dX2_findBest_42 rfl ?_
      refine z_get (v := .int (T.1 7)) wr_P 3 rfl rfl uin_X2 7 (Nat.le_of_ble_eq_true rfl) tw_f_RX2_31 rfl rfl dX2_findBest_43 ?_
      refine z_icmp_ge (tgt := 73) dX2_findBest_46 (by decide) (fun c13 => ?_) (fun c13 => ?_)
      · have hp := ip_t hp c13; have hv := it_t hv c13
        subst hv; exact z_vret_W hQ rfl rfl rfl rfl dX2_findBest_73
      · have hp := ip_f hp c13; have hv := it_f hv c13
        refine z_aload_n dX2_findBest_49 rfl ?_
        refine z_get (v := .ref (a 1)) wr_P 0 rfl rfl uin_X2 1 (Nat.le_of_ble_eq_true rfl) tw_f_RX2_9 rfl rfl dX2_findBest_50 ?_
        refine z_iconst (v := 0) dX2_findBest_53 rfl ?_
        refine z_iload_n dX2_findBest_54 rfl ?_
        refine z_iastx (F := upd (O.2 1) ((0 : Int32)).toNatClampNeg v3) (ws' := orW G a b (osa O 1 (upd (O.2 1) ((0 : Int32)).toNatClampNeg v3)) ++ orW G c b T ++ rdW G b R) 1 rfl (vin rfl) rfl rfl dX2_findBest_55 ?_
        refine z_aload_n dX2_findBest_56 rfl ?_
        refine z_aload_n dX2_findBest_57 rfl ?_
        refine z_iconst (v := 0) dX2_findBest_58 rfl ?_
        refine z_iconst (v := 1) dX2_findBest_59 rfl ?_
        refine z_iload_n dX2_findBest_60 rfl ?_
        refine z_ishl dX2_findBest_61 ?_
        refine z_iconst (v := 0) dX2_findBest_62 rfl ?_
        refine z_iload_n dX2_findBest_63 rfl ?_
        obtain ⟨q16, hp⟩ := hp
        refine z_casvD (ws' := orW G a b ((v_X2_search P 9 (osa O 1 (upd (O.2 1) ((0 : Int32)).toNatClampNeg v3)) T R 0 (1 <<< (v3 &&& 31)) 0 v2).1) ++ orW G c b ((v_X2_search P 9 (osa O 1 (upd (O.2 1) ((0 : Int32)).toNatClampNeg v3)) T R 0 (1 <<< (v3 &&& 31)) 0 v2).2) ++ rdW G b R) hw (fun sz => c_X2_search G P a b c 9 sz (osa O 1 (upd (O.2 1) ((0 : Int32)).toNatClampNeg v3)) T R 0 (1 <<< (v3 &&& 31)) 0 v2 q16) (zc_X2_search 9) tw_st_yX2_search tw_m_RX2_103 (zroom_of rfl) rfl (Nat.le_of_ble_eq_true rfl) dX2_findBest_64 ?_
        suffices z18 : ∀ q17 : oT × oT, q17 = (v_X2_search P 9 (osa O 1 (upd (O.2 1) ((0 : Int32)).toNatClampNeg v3)) T R 0 (1 <<< (v3 &&& 31)) 0 v2) → Z k_X2_findBest G Γ (wr G A Γ.2.2.1.1.heap (orW G a b q17.1 ++ orW G c b q17.2 ++ rdW G b R)) 0 0 [(0, .ref (a 0)), (1, .ref (c 0)), (2, .int v2), (3, .int v3)] 67 [] from z18 _ rfl
        intro q17 hq17
        have hp := kk_pq hp hq17
        have hv := kk_vq hv hq17
        clear hq17
        refine z_iinc (v := v3 + 1) (lv' := [(3, .int (v3 + 1)), (0, .ref (a 0)), (1, .ref (c 0)), (2, .int v2)]) dX2_findBest_67 3 rfl rfl (Nat.le_of_ble_eq_true rfl) rfl ?_
        refine z_goto (tgt := 33) dX2_findBest_70 (by decide) ?_
        exact z_lv rfl ((ih) q17.1 q17.2 v2 (v3 + 1) hp hv)
set_option maxHeartbeats 800000 in
theorem c_X2_findBest {l : Launch} (G : zG) (P : pT) (a : Nat → Nat) (b : Nat → Nat) (c : Nat → Nat) (sz : Nat) (O : oT) (T : oT) (R : rT) (hp : p_X2_findBest P O T R) : Met l yX2_findBest (.code yX2_findBest k_X2_findBest.1 k_X2_findBest.2.1 k_X2_findBest.2.2.2.1 :: TS) k_X2_findBest.2.2.2.2 (Pz G [.ref (a 0), .ref (c 0)] (Fw G (gX G P) (orW G a b O ++ orW G c b T ++ rdW G b R) sz)) (Qwv G (fun w => w = orW G a b ((v_X2_findBest P O T R).1) ++ orW G c b ((v_X2_findBest P O T R).2) ++ rdW G b R) (va_A (orW G a b O ++ orW G c b T ++ rdW G b R) sz)) 0 0 (va_A (orW G a b O ++ orW G c b T ++ rdW G b R) sz) := by
  refine zmet (K := k_X2_findBest) (by decide +kernel) rfl rfl (fun Γ hl0 hQ hN hF => ?_)
  refine z_start (gX_ok G P) hF (fun hw => ?_)
  generalize va_A (orW G a b O ++ orW G c b T ++ rdW G b R) sz = A at hQ hw ⊢
  obtain ⟨res, hv⟩ : ∃ res, v_X2_findBest P O T R = res := ⟨_, rfl⟩
  rw [hv] at hQ
  unfold v_X2_findBest at hv
  unfold p_X2_findBest at hp
  show Z k_X2_findBest G Γ _ 0 0 [(0, .ref (a 0)), (1, .ref (c 0))] 0 []
  refine z_aload_n dX2_findBest_0 rfl ?_
  obtain ⟨q1, hp⟩ := hp
  refine z_cwvvD (ws' := orW G a b (v_X2_byNumbers O R) ++ orW G c b T ++ rdW G b R) hw (fun sz => c_X2_byNumbers G P a b sz O R q1) [0, 1, 2, 6, 7, 8, 9, 10] [3, 4, 5] [3, 4, 5, 0, 1, 2, 6, 7, 8, 9, 10] 11 rfl rfl rfl rfl zc_X2_byNumbers zv_X2_byNumbers tw_m_RX2_97 (zrec_of wr_P 0 rfl rfl) (zroom_of rfl) rfl (Nat.le_of_ble_eq_true rfl) dX2_findBest_1 ?_
  suffices z19 : ∀ q2 : oT, q2 = (v_X2_byNumbers O R) → Z k_X2_findBest G Γ (wr G A Γ.2.2.1.1.heap (orW G a b q2 ++ orW G c b T ++ rdW G b R)) 0 0 [(0, .ref (a 0)), (1, .ref (c 0))] 4 [] from z19 _ rfl
  intro q2 hq2
  have hp := kk_pq hp hq2
  have hv := kk_vq hv hq2
  clear hq2
  refine z_aload_n dX2_findBest_4 rfl ?_
  obtain ⟨q3, hp⟩ := hp
  refine z_cwvvD (ws' := orW G a b q2 ++ orW G c b (v_X2_byNumbers T R) ++ rdW G b R) hw (fun sz => c_X2_byNumbers G P c b sz T R q3) [3, 4, 5, 6, 7, 8, 9, 10] [0, 1, 2] [0, 1, 2, 3, 4, 5, 6, 7, 8, 9, 10] 11 rfl rfl rfl rfl zc_X2_byNumbers zv_X2_byNumbers tw_m_RX2_97 (zrec_of wr_P 3 rfl rfl) (zroom_of rfl) rfl (Nat.le_of_ble_eq_true rfl) dX2_findBest_5 ?_
  suffices z20 : ∀ q4 : oT, q4 = (v_X2_byNumbers T R) → Z k_X2_findBest G Γ (wr G A Γ.2.2.1.1.heap (orW G a b q2 ++ orW G c b q4 ++ rdW G b R)) 0 0 [(0, .ref (a 0)), (1, .ref (c 0))] 8 [] from z20 _ rfl
  intro q4 hq4
  have hp := kk_pq hp hq4
  have hv := kk_vq hv hq4
  clear hq4
  refine z_aload_n dX2_findBest_8 rfl ?_
  refine z_aload_n dX2_findBest_9 rfl ?_
  refine z_get (v := .int (q2.1 3)) wr_P 0 rfl rfl uin_X2 3 (Nat.le_of_ble_eq_true rfl) tw_f_RX2_18 rfl rfl dX2_findBest_10 ?_
  have J21 : ∀ m6 : Int32, m6 = (if (q2.1 3) = 0 then (0 : Int32) else 8000) → Z k_X2_findBest G Γ (wr G A Γ.2.2.1.1.heap (orW G a b q2 ++ orW G c b q4 ++ rdW G b R)) 0 0 [(0, .ref (a 0)), (1, .ref (c 0))] 23 [.int m6, .ref (c 0)] := by
    intro m6 em6
    rewrite [em6]; clear em6
    refine z_put (fs := orF c b q4) (v := .int (if (q2.1 3) = 0 then (0 : Int32) else 8000)) (ws' := orW G a b q2 ++ orW G c b (osf q4 7 (if (q2.1 3) = 0 then (0 : Int32) else 8000)) ++ rdW G b R) 3 rfl rfl uin_X2 tyX2 tyX2_ok nmX2 7 (Nat.le_of_ble_eq_true rfl) tw_f_RX2_31 rfl rfl (ty := .int) rfl rfl rfl (Nat.le_of_ble_eq_true rfl) rfl dX2_findBest_23 ?_
    refine z_aload_n dX2_findBest_26 rfl ?_
    obtain ⟨q7, hp⟩ := hp
    refine z_cwviD (ws' := orW G a b ((v_X2_weighLeast P q2 R).2) ++ orW G c b (osf q4 7 (if (q2.1 3) = 0 then (0 : Int32) else 8000)) ++ rdW G b R) hw (fun sz => c_X2_weighLeast G P a b sz q2 R q7) [0, 1, 2, 6, 7, 8, 9, 10] [3, 4, 5] [3, 4, 5, 0, 1, 2, 6, 7, 8, 9, 10] 11 rfl rfl rfl rfl zc_X2_weighLeast zv_X2_weighLeast tw_m_RX2_100 (zrec_of wr_P 0 rfl rfl) (zroom_of rfl) rfl (Nat.le_of_ble_eq_true rfl) dX2_findBest_27 ?_
    suffices z22 : ∀ q8 : Int32 × oT, q8 = (v_X2_weighLeast P q2 R) → Z k_X2_findBest G Γ (wr G A Γ.2.2.1.1.heap (orW G a b q8.2 ++ orW G c b (osf q4 7 (if (q2.1 3) = 0 then (0 : Int32) else 8000)) ++ rdW G b R)) 0 0 [(0, .ref (a 0)), (1, .ref (c 0))] 30 [.int q8.1] from z22 _ rfl
    intro q8 hq8
    have hp := kk_pq hp hq8
    have hv := kk_vq hv hq8
    clear hq8
    refine z_istore_n (lv' := [(2, .int q8.1), (0, .ref (a 0)), (1, .ref (c 0))]) dX2_findBest_30 (Nat.le_of_ble_eq_true rfl) rfl ?_
    refine z_iconst (v := 0) dX2_findBest_31 rfl ?_
    refine z_istore_n (lv' := [(3, .int 0), (2, .int q8.1), (0, .ref (a 0)), (1, .ref (c 0))]) dX2_findBest_32 (Nat.le_of_ble_eq_true rfl) rfl ?_
    exact z_lv rfl ((w_X2_findBest a b c R hw hQ 200) q8.2 (osf q4 7 (if (q2.1 3) = 0 then (0 : Int32) else 8000)) q8.1 0 hp hv)
  refine z_if_ne (tgt := 20) dX2_findBest_13 (by decide) (fun c5 => ?_) (fun c5 => ?_)
  · skip
    refine z_sipush (v := 8000) dX2_findBest_20 rfl ?_
    exact z_lv rfl (J21 _ (if_neg c5).symm)
  · skip
    refine z_iconst (v := 0) dX2_findBest_16 rfl ?_
    refine z_goto (tgt := 23) dX2_findBest_17 (by decide) ?_
    exact z_lv rfl (J21 _ (if_pos c5).symm)
