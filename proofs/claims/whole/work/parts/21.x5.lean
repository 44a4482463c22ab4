theorem tw_f_RX6_58 : Cond.fieldLink RX6 58 RX6 "refused" "[I" ∈ TS := ts_mem 266 (by decide +kernel) rfl
theorem tw_code_yX6_refuse : Cond.code yX6_refuse cX6_refuse 2 (some .int) ∈ TS := ts_mem 305 (by decide +kernel) rfl
theorem tw_inst_yX6_refuse : Cond.instanceMethod yX6_refuse ∈ TS := ts_mem 304 (by decide +kernel) rfl
theorem tw_s_yX6_refuse : Cond.selects RX6 yX6_refuse yX6_refuse ∈ TS := ts_mem 1 (by decide +kernel) rfl
theorem tw_f_RX6_24 : Cond.fieldLink RX6 24 RX6 "shelves" "[LTollForHesitators$Shelf;" ∈ TS := ts_mem 260 (by decide +kernel) rfl
theorem tw_code_yX6_shelfAt : Cond.code yX6_shelfAt cX6_shelfAt 2 (some (.object RX5)) ∈ TS := ts_mem 301 (by decide +kernel) rfl
theorem tw_inst_yX6_shelfAt : Cond.instanceMethod yX6_shelfAt ∈ TS := ts_mem 300 (by decide +kernel) rfl
theorem tw_s_yX6_shelfAt : Cond.selects RX6 yX6_shelfAt yX6_shelfAt ∈ TS := ts_mem 0 (by decide +kernel) rfl
theorem tw_m_RX6_66 : Cond.methodLink RX6 66 yX6_shelfAt ∈ TS := ts_mem 298 (by decide +kernel) rfl
theorem tw_m_RX6_93 : Cond.methodLink RX6 93 yX5_isComer ∈ TS := ts_mem 327 (by decide +kernel) rfl
theorem tw_m_RX6_97 : Cond.methodLink RX6 97 yX5_isRow ∈ TS := ts_mem 331 (by decide +kernel) rfl
theorem tw_code_yX6_rowRefusal : Cond.code yX6_rowRefusal cX6_rowRefusal 3 (some .int) ∈ TS := ts_mem 326 (by decide +kernel) rfl
theorem tw_inst_yX6_rowRefusal : Cond.instanceMethod yX6_rowRefusal ∈ TS := ts_mem 325 (by decide +kernel) rfl
theorem tw_s_yX6_rowRefusal : Cond.selects RX6 yX6_rowRefusal yX6_rowRefusal ∈ TS := ts_mem 2 (by decide +kernel) rfl
theorem tw_m_RX6_82 : Cond.methodLink RX6 82 yX6_rowRefusal ∈ TS := ts_mem 323 (by decide +kernel) rfl
theorem tw_f_RX6_320 : Cond.fieldLink RX6 320 RX5 "length" "I" ∈ TS := ts_mem 166 (by decide +kernel) rfl
theorem tw_code_yX6_dayRefusal : Cond.code yX6_dayRefusal cX6_dayRefusal 6 (some .int) ∈ TS := ts_mem 632 (by decide +kernel) rfl
theorem tw_inst_yX6_dayRefusal : Cond.instanceMethod yX6_dayRefusal ∈ TS := ts_mem 631 (by decide +kernel) rfl
theorem tw_s_yX6_dayRefusal : Cond.selects RX6 yX6_dayRefusal yX6_dayRefusal ∈ TS := ts_mem 11 (by decide +kernel) rfl
theorem tw_f_RX6_10 : Cond.fieldLink RX6 10 RX6 "road" "LTollForHesitators$Road;" ∈ TS := ts_mem 257 (by decide +kernel) rfl
theorem tw_m_RX6_121 : Cond.methodLink RX6 121 yX4_has ∈ TS := ts_mem 367 (by decide +kernel) rfl
theorem tw_l_RX6_323 : Cond.constantLong RX6 323 2 ∈ TS := ts_mem 730 (by decide +kernel) rfl
theorem tw_m_RX6_103 : Cond.methodLink RX6 103 yX5_spans ∈ TS := ts_mem 348 (by decide +kernel) rfl
theorem tw_m_RX6_325 : Cond.methodLink RX6 325 yX5_intAt ∈ TS := ts_mem 731 (by decide +kernel) rfl
theorem tw_m_RX6_74 : Cond.methodLink RX6 74 yX6_within ∈ TS := ts_mem 306 (by decide +kernel) rfl
theorem tw_code_yX6_twosRefusal : Cond.code yX6_twosRefusal cX6_twosRefusal 7 (some .int) ∈ TS := ts_mem 729 (by decide +kernel) rfl
theorem tw_inst_yX6_twosRefusal : Cond.instanceMethod yX6_twosRefusal ∈ TS := ts_mem 728 (by decide +kernel) rfl
theorem tw_s_yX6_twosRefusal : Cond.selects RX6 yX6_twosRefusal yX6_twosRefusal ∈ TS := ts_mem 17 (by decide +kernel) rfl
theorem tw_m_RX6_210 : Cond.methodLink RX6 210 yX4_slowAlone ∈ TS := ts_mem 604 (by decide +kernel) rfl
theorem tw_code_yX6_fitting : Cond.code yX6_fitting cX6_fitting 9 (some .int) ∈ TS := ts_mem 735 (by decide +kernel) rfl
theorem tw_inst_yX6_fitting : Cond.instanceMethod yX6_fitting ∈ TS := ts_mem 734 (by decide +kernel) rfl
theorem tw_s_yX6_fitting : Cond.selects RX6 yX6_fitting yX6_fitting ∈ TS := ts_mem 18 (by decide +kernel) rfl
theorem tw_code_yX6_slowAmong : Cond.code yX6_slowAmong cX6_slowAmong 6 (some .int) ∈ TS := ts_mem 743 (by decide +kernel) rfl
theorem tw_inst_yX6_slowAmong : Cond.instanceMethod yX6_slowAmong ∈ TS := ts_mem 742 (by decide +kernel) rfl
theorem tw_s_yX6_slowAmong : Cond.selects RX6 yX6_slowAmong yX6_slowAmong ∈ TS := ts_mem 19 (by decide +kernel) rfl
theorem dX6_refuse_0 : decode cX6_refuse 0 = .ok (.iload_n 1, 1) := by decide +kernel
theorem dX6_refuse_1 : decode cX6_refuse 1 = .ok (.ifCond .lt 22, 3) := by decide +kernel
theorem dX6_refuse_4 : decode cX6_refuse 4 = .ok (.iload_n 1, 1) := by decide +kernel
theorem dX6_refuse_5 : decode cX6_refuse 5 = .ok (.aload_n 0, 1) := by decide +kernel
theorem dX6_refuse_6 : decode cX6_refuse 6 = .ok (.getfield 58, 3) := by decide +kernel
theorem dX6_refuse_9 : decode cX6_refuse 9 = .ok (.arraylength, 1) := by decide +kernel
theorem dX6_refuse_10 : decode cX6_refuse 10 = .ok (.if_icmp .ge 13, 3) := by decide +kernel
theorem dX6_refuse_13 : decode cX6_refuse 13 = .ok (.aload_n 0, 1) := by decide +kernel
theorem dX6_refuse_14 : decode cX6_refuse 14 = .ok (.getfield 58, 3) := by decide +kernel
theorem dX6_refuse_17 : decode cX6_refuse 17 = .ok (.iload_n 1, 1) := by decide +kernel
theorem dX6_refuse_18 : decode cX6_refuse 18 = .ok (.dup2, 1) := by decide +kernel
theorem dX6_refuse_19 : decode cX6_refuse 19 = .ok (.iaload, 1) := by decide +kernel
theorem dX6_refuse_20 : decode cX6_refuse 20 = .ok (.iconst 1, 1) := by decide +kernel
theorem dX6_refuse_21 : decode cX6_refuse 21 = .ok (.iadd, 1) := by decide +kernel
theorem dX6_refuse_22 : decode cX6_refuse 22 = .ok (.iastore, 1) := by decide +kernel
theorem dX6_refuse_23 : decode cX6_refuse 23 = .ok (.iload_n 1, 1) := by decide +kernel
theorem dX6_refuse_24 : decode cX6_refuse 24 = .ok (.ineg, 1) := by decide +kernel
theorem dX6_refuse_25 : decode cX6_refuse 25 = .ok (.ireturn, 1) := by decide +kernel
abbrev k_X6_refuse : zK := (cX6_refuse, 2, RX6, (some .int), ({ frames := 0, cells := 0, slots := 0, locals := 0 } : Room))
theorem zc_X6_refuse : zcal yX6_refuse k_X6_refuse.1 k_X6_refuse.2.1 k_X6_refuse.2.2.2.1 1 := ⟨tw_code_yX6_refuse, tw_i_TollForHesitators, ⟨by decide +kernel, by decide +kernel⟩, by decide +kernel⟩
theorem zv_X6_refuse : Cond.instanceMethod yX6_refuse ∈ TS ∧ Cond.selects RX6 yX6_refuse yX6_refuse ∈ TS := ⟨tw_inst_yX6_refuse, tw_s_yX6_refuse⟩
def v_X6_refuse (N : nT) (x1 : Int32) : Int32 × nT := kk (if x1 < 0 then N else (if 8 ≤ x1 then N else nsa N (upd N.2 x1.toNatClampNeg ((N.2 x1.toNatClampNeg) + 1)))) (fun M6 : nT => (-x1, M6))
def p_X6_refuse (N : nT) (x1 : Int32) : Prop := if x1 < 0 then True else if 8 ≤ x1 then True else vp_in x1 8 ∧ vp_in x1 8
set_option maxHeartbeats 800000 in
theorem c_X6_refuse {l : Launch} (G : zG) (P : pT) (a : Nat → Nat) (sz : Nat) (N : nT) (x1 : Int32) (hp : p_X6_refuse N x1) : Met l yX6_refuse (.code yX6_refuse k_X6_refuse.1 k_X6_refuse.2.1 k_X6_refuse.2.2.2.1 :: TS) k_X6_refuse.2.2.2.2 (Pz G [.ref (a 0), .int x1] (Fw G (gX G P) (maW G a N) sz)) (Qwi G (fun r w => r = (v_X6_refuse N x1).1 ∧ w = maW G a ((v_X6_refuse N x1).2)) (va_A (maW G a N) sz)) 0 0 (va_A (maW G a N) sz) := by
  refine zmet (K := k_X6_refuse) (by decide +kernel) rfl rfl (fun Γ hl0 hQ hN hF => ?_)
  refine z_start (gX_ok G P) hF (fun hw => ?_)
  generalize va_A (maW G a N) sz = A at hQ hw ⊢
  obtain ⟨res, hv⟩ : ∃ res, v_X6_refuse N x1 = res := ⟨_, rfl⟩
  rw [hv] at hQ
  unfold v_X6_refuse at hv
  unfold p_X6_refuse at hp
  show Z k_X6_refuse G Γ _ 0 0 [(0, .ref (a 0)), (1, .int x1)] 0 []
  refine z_iload_n dX6_refuse_0 rfl ?_
  have hpm := hp
  have J7 : ∀ M6 : nT, M6 = (if x1 < 0 then N else (if 8 ≤ x1 then N else nsa N (upd N.2 x1.toNatClampNeg ((N.2 x1.toNatClampNeg) + 1)))) → Z k_X6_refuse G Γ (wr G A Γ.2.2.1.1.heap (maW G a M6)) 0 0 [(0, .ref (a 0)), (1, .int x1)] 23 [] := by
    intro M6 eM6
    have hv := kk_vq hv eM6
    clear eM6
    refine z_iload_n dX6_refuse_23 rfl ?_
    refine z_ineg dX6_refuse_24 ?_
    subst hv; exact z_iret_W hQ rfl rfl rfl ⟨rfl, rfl⟩ dX6_refuse_25
  refine z_if_lt (tgt := 23) dX6_refuse_1 (by decide) (fun c1 => ?_) (fun c1 => ?_)
  · have hp := ip_t hpm c1
    exact z_lv rfl (J7 _ (if_pos c1).symm)
  · have hp := ip_f hpm c1
    refine z_iload_n dX6_refuse_4 rfl ?_
    refine z_aload_n dX6_refuse_5 rfl ?_
    refine z_get (v := .ref (a 2)) wr_P 0 rfl rfl uin_X6 9 (Nat.le_of_ble_eq_true rfl) tw_f_RX6_58 rfl rfl dX6_refuse_6 ?_
    refine z_alen (cA := G.2.2.1 0) (v := 8) 0 (fun _ => rfl) wr_P 2 rfl rfl dX6_refuse_9 ?_
    have hpm := hp
    have J8 : ∀ M5 : nT, M5 = (if 8 ≤ x1 then N else nsa N (upd N.2 x1.toNatClampNeg ((N.2 x1.toNatClampNeg) + 1))) → Z k_X6_refuse G Γ (wr G A Γ.2.2.1.1.heap (maW G a M5)) 0 0 [(0, .ref (a 0)), (1, .int x1)] 23 [] := by
      intro M5 eM5
      rewrite [eM5]; clear eM5
      exact z_lv rfl (J7 _ (if_neg c1).symm)
    refine z_icmp_ge (tgt := 23) dX6_refuse_10 (by decide) (fun c2 => ?_) (fun c2 => ?_)
    · have hp := ip_t hpm c2
      exact z_lv rfl (J8 _ (if_pos c2).symm)
    · have hp := ip_f hpm c2
      refine z_aload_n dX6_refuse_13 rfl ?_
      refine z_get (v := .ref (a 2)) wr_P 0 rfl rfl uin_X6 9 (Nat.le_of_ble_eq_true rfl) tw_f_RX6_58 rfl rfl dX6_refuse_14 ?_
      refine z_iload_n dX6_refuse_17 rfl ?_
      refine z_dup2_11 dX6_refuse_18 rfl rfl ?_
      obtain ⟨q3, hp⟩ := hp
      refine z_ialdx (x := N.2 x1.toNatClampNeg) wr_P 2 rfl q3 rfl dX6_refuse_19 ?_
      refine z_iconst (v := 1) dX6_refuse_20 rfl ?_
      refine z_iadd dX6_refuse_21 ?_
      have q4 := hp
      refine z_iastx (F := upd N.2 x1.toNatClampNeg ((N.2 x1.toNatClampNeg) + 1)) (ws' := maW G a (nsa N (upd N.2 x1.toNatClampNeg ((N.2 x1.toNatClampNeg) + 1)))) 2 rfl q4 rfl rfl dX6_refuse_22 ?_
      exact z_lv rfl (J8 _ (if_neg c2).symm)
theorem dX6_shelfAt_0 : decode cX6_shelfAt 0 = .ok (.iload_n 1, 1) := by decide +kernel
theorem dX6_shelfAt_1 : decode cX6_shelfAt 1 = .ok (.ifCond .lt 12, 3) := by decide +kernel
theorem dX6_shelfAt_4 : decode cX6_shelfAt 4 = .ok (.iload_n 1, 1) := by decide +kernel
theorem dX6_shelfAt_5 : decode cX6_shelfAt 5 = .ok (.aload_n 0, 1) := by decide +kernel
theorem dX6_shelfAt_6 : decode cX6_shelfAt 6 = .ok (.getfield 24, 3) := by decide +kernel
theorem dX6_shelfAt_9 : decode cX6_shelfAt 9 = .ok (.arraylength, 1) := by decide +kernel
theorem dX6_shelfAt_10 : decode cX6_shelfAt 10 = .ok (.if_icmp .lt 7, 3) := by decide +kernel
theorem dX6_shelfAt_13 : decode cX6_shelfAt 13 = .ok (.aconst_null, 1) := by decide +kernel
theorem dX6_shelfAt_14 : decode cX6_shelfAt 14 = .ok (.goto 9, 3) := by decide +kernel
theorem dX6_shelfAt_17 : decode cX6_shelfAt 17 = .ok (.aload_n 0, 1) := by decide +kernel
theorem dX6_shelfAt_18 : decode cX6_shelfAt 18 = .ok (.getfield 24, 3) := by decide +kernel
theorem dX6_shelfAt_21 : decode cX6_shelfAt 21 = .ok (.iload_n 1, 1) := by decide +kernel
theorem dX6_shelfAt_22 : decode cX6_shelfAt 22 = .ok (.aaload, 1) := by decide +kernel
theorem dX6_shelfAt_23 : decode cX6_shelfAt 23 = .ok (.areturn, 1) := by decide +kernel
abbrev k_X6_shelfAt : zK := (cX6_shelfAt, 2, RX6, (some (.object RX5)), ({ frames := 0, cells := 0, slots := 0, locals := 0 } : Room))
theorem zc_X6_shelfAt : zcal yX6_shelfAt k_X6_shelfAt.1 k_X6_shelfAt.2.1 k_X6_shelfAt.2.2.2.1 1 := ⟨tw_code_yX6_shelfAt, tw_i_TollForHesitators, ⟨by decide +kernel, by decide +kernel⟩, by decide +kernel⟩
theorem zv_X6_shelfAt : Cond.instanceMethod yX6_shelfAt ∈ TS ∧ Cond.selects RX6 yX6_shelfAt yX6_shelfAt ∈ TS := ⟨tw_inst_yX6_shelfAt, tw_s_yX6_shelfAt⟩
def v_X6_shelfAt (N : nT) (x1 : Int32) : Option Nat := if x1 < 0 then none else if x1 < 8 then some x1.toNatClampNeg else none
def p_X6_shelfAt (N : nT) (x1 : Int32) : Prop := if x1 < 0 then True else if x1 < 8 then vp_in x1 8 else True
set_option maxHeartbeats 800000 in
theorem c_X6_shelfAt {l : Launch} (G : zG) (P : pT) (a : Nat → Nat) (N : nT) (x1 : Int32) (hp : p_X6_shelfAt N x1) : Met l yX6_shelfAt (.code yX6_shelfAt k_X6_shelfAt.1 k_X6_shelfAt.2.1 k_X6_shelfAt.2.2.2.1 :: TS) k_X6_shelfAt.2.2.2.2 (Pz G [.ref (a 0), .int x1] (Fr G P (maW G a N))) (va_Sq (fun r => r = (v_X6_shelfAt N x1).map (fun k => sh a (30 + 2 * k) 0))) 0 0 (fun _ => False) := by
  refine zmet (K := k_X6_shelfAt) (by decide +kernel) rfl rfl (fun Γ hl0 hQ hN hF => ?_)
  have hI := rd_P (G := G) hF.1
  have hG := rd_F hF.2
  obtain ⟨res, hv⟩ : ∃ res, v_X6_shelfAt N x1 = res := ⟨_, rfl⟩
  rw [hv] at hQ
  unfold v_X6_shelfAt at hv
  unfold p_X6_shelfAt at hp
  show Z k_X6_shelfAt G Γ _ 0 0 [(0, .ref (a 0)), (1, .int x1)] 0 []
  refine z_iload_n dX6_shelfAt_0 rfl ?_
  refine z_if_lt (tgt := 13) dX6_shelfAt_1 (by decide) (fun c1 => ?_) (fun c1 => ?_)
  · have hp := ip_t hp c1; have hv := it_t hv c1
    refine z_null dX6_shelfAt_13 ?_
    refine z_goto (tgt := 23) dX6_shelfAt_14 (by decide) ?_
    exact z_aret_S (r := none) hQ rfl (by subst hv; rfl) dX6_shelfAt_23
  · have hp := ip_f hp c1; have hv := it_f hv c1
    refine z_iload_n dX6_shelfAt_4 rfl ?_
    refine z_aload_n dX6_shelfAt_5 rfl ?_
    refine z_get (v := .ref (a 1)) hI 0 rfl rfl uin_X6 3 (Nat.le_of_ble_eq_true rfl) tw_f_RX6_24 rfl rfl dX6_shelfAt_6 ?_
    refine z_alen (cA := G.2.2.1 0) (v := 8) 3 (fun _ => rfl) hI 1 rfl rfl dX6_shelfAt_9 ?_
    refine z_icmp_lt (tgt := 17) dX6_shelfAt_10 (by decide) (fun c4 => ?_) (fun c4 => ?_)
    · have hp := ip_t hp c4; have hv := it_t hv c4
      refine z_aload_n dX6_shelfAt_17 rfl ?_
      refine z_get (v := .ref (a 1)) hI 0 rfl rfl uin_X6 3 (Nat.le_of_ble_eq_true rfl) tw_f_RX6_24 rfl rfl dX6_shelfAt_18 ?_
      refine z_iload_n dX6_shelfAt_21 rfl ?_
      have q6 := hp
      refine z_aalds (q := sh a (30 + 2 * x1.toNatClampNeg) 0) hI 1 rfl q6 rfl dX6_shelfAt_22 ?_
      exact z_aret_S (r := some (sh a (30 + 2 * x1.toNatClampNeg) 0)) hQ rfl (by subst hv; rfl) dX6_shelfAt_23
    · have hp := ip_f hp c4; have hv := it_f hv c4
      refine z_null dX6_shelfAt_13 ?_
      refine z_goto (tgt := 23) dX6_shelfAt_14 (by decide) ?_
      exact z_aret_S (r := none) hQ rfl (by subst hv; rfl) dX6_shelfAt_23
theorem shelfAt_lt (N : nT) (x1 : Int32) : ∀ k : Nat, v_X6_shelfAt N x1 = some k → k < 8 := by
  intro k h
  unfold v_X6_shelfAt at h
  split at h
  · cases h
  · split at h
    · cases h
      rename_i h1 h2
      have := Int32.lt_iff_toInt_lt.mp h2
      have e : (8 : Int32).toInt = 8 := rfl
      unfold Int32.toNatClampNeg
      omega
    · cases h
theorem dX6_rowRefusal_0 : decode cX6_rowRefusal 0 = .ok (.aload_n 0, 1) := by decide +kernel
theorem dX6_rowRefusal_1 : decode cX6_rowRefusal 1 = .ok (.iload_n 1, 1) := by decide +kernel
theorem dX6_rowRefusal_2 : decode cX6_rowRefusal 2 = .ok (.invokevirtual 66, 3) := by decide +kernel
theorem dX6_rowRefusal_5 : decode cX6_rowRefusal 5 = .ok (.astore_n 2, 1) := by decide +kernel
theorem dX6_rowRefusal_6 : decode cX6_rowRefusal 6 = .ok (.aload_n 2, 1) := by decide +kernel
theorem dX6_rowRefusal_7 : decode cX6_rowRefusal 7 = .ok (.ifnonnull 5, 3) := by decide +kernel
theorem dX6_rowRefusal_10 : decode cX6_rowRefusal 10 = .ok (.iconst 1, 1) := by decide +kernel
theorem dX6_rowRefusal_11 : decode cX6_rowRefusal 11 = .ok (.ireturn, 1) := by decide +kernel
theorem dX6_rowRefusal_12 : decode cX6_rowRefusal 12 = .ok (.aload_n 2, 1) := by decide +kernel
theorem dX6_rowRefusal_13 : decode cX6_rowRefusal 13 = .ok (.invokevirtual 93, 3) := by decide +kernel
theorem dX6_rowRefusal_16 : decode cX6_rowRefusal 16 = .ok (.ifCond .eq 5, 3) := by decide +kernel
theorem dX6_rowRefusal_19 : decode cX6_rowRefusal 19 = .ok (.iconst 2, 1) := by decide +kernel
theorem dX6_rowRefusal_20 : decode cX6_rowRefusal 20 = .ok (.ireturn, 1) := by decide +kernel
theorem dX6_rowRefusal_21 : decode cX6_rowRefusal 21 = .ok (.aload_n 2, 1) := by decide +kernel
theorem dX6_rowRefusal_22 : decode cX6_rowRefusal 22 = .ok (.invokevirtual 97, 3) := by decide +kernel
theorem dX6_rowRefusal_25 : decode cX6_rowRefusal 25 = .ok (.ifCond .eq 7, 3) := by decide +kernel
theorem dX6_rowRefusal_28 : decode cX6_rowRefusal 28 = .ok (.iconst 0, 1) := by decide +kernel
theorem dX6_rowRefusal_29 : decode cX6_rowRefusal 29 = .ok (.goto 4, 3) := by decide +kernel
theorem dX6_rowRefusal_32 : decode cX6_rowRefusal 32 = .ok (.iconst 3, 1) := by decide +kernel
theorem dX6_rowRefusal_33 : decode cX6_rowRefusal 33 = .ok (.ireturn, 1) := by decide +kernel
abbrev k_X6_rowRefusal : zK := (cX6_rowRefusal, 3, RX6, (some .int), ({ frames := 1, cells := 0, slots := 0, locals := 21 } : Room))
theorem zc_X6_rowRefusal : zcal yX6_rowRefusal k_X6_rowRefusal.1 k_X6_rowRefusal.2.1 k_X6_rowRefusal.2.2.2.1 1 := ⟨tw_code_yX6_rowRefusal, tw_i_TollForHesitators, ⟨by decide +kernel, by decide +kernel⟩, by decide +kernel⟩
theorem zv_X6_rowRefusal : Cond.instanceMethod yX6_rowRefusal ∈ TS ∧ Cond.selects RX6 yX6_rowRefusal yX6_rowRefusal ∈ TS := ⟨tw_inst_yX6_rowRefusal, tw_s_yX6_rowRefusal⟩
def v_X6_rowRefusal (N : nT) (F : fT) (x1 : Int32) : Int32 := oc (v_X6_shelfAt N x1) (1) (fun r2 : Nat => if (v_X5_isComer (F r2)) = 0 then (if (v_X5_isRow (F r2)) = 0 then (3 : Int32) else 0) else 2)
def p_X6_rowRefusal (N : nT) (F : fT) (x1 : Int32) : Prop := p_X6_shelfAt N x1
set_option maxHeartbeats 800000 in
theorem c_X6_rowRefusal {l : Launch} (G : zG) (P : pT) (a : Nat → Nat) (N : nT) (F : fT) (x1 : Int32) (hp : p_X6_rowRefusal N F x1) : Met l yX6_rowRefusal (.code yX6_rowRefusal k_X6_rowRefusal.1 k_X6_rowRefusal.2.1 k_X6_rowRefusal.2.2.2.1 :: TS) k_X6_rowRefusal.2.2.2.2 (Pz G [.ref (a 0), .int x1] (Fr G P (maW G a N ++ faW G a F))) (vp_Si (fun r => r = v_X6_rowRefusal N F x1)) 0 0 (fun _ => False) := by
  refine zmet (K := k_X6_rowRefusal) (by decide +kernel) rfl rfl (fun Γ hl0 hQ hN hF => ?_)
  have hI := rd_P (G := G) hF.1
  have hG := rd_F hF.2
  obtain ⟨res, hv⟩ : ∃ res, v_X6_rowRefusal N F x1 = res := ⟨_, rfl⟩
  rw [hv] at hQ
  unfold v_X6_rowRefusal at hv
  unfold p_X6_rowRefusal at hp
  show Z k_X6_rowRefusal G Γ _ 0 0 [(0, .ref (a 0)), (1, .int x1)] 0 []
  refine z_aload_n dX6_rowRefusal_0 rfl ?_
  refine z_iload_n dX6_rowRefusal_1 rfl ?_
  have q1 := hp
  refine z_cvq (c_X6_shelfAt G P a N x1 q1) zc_X6_shelfAt zv_X6_shelfAt tw_m_RX6_66 (zrec_of hI 0 rfl rfl) (fr_all (sub_P hI [0, 1, 2] rfl) hG) (zroom_of rfl) rfl (Nat.le_of_ble_eq_true rfl) dX6_rowRefusal_2 ?_
  suffices z6 : ∀ r2 : Option Nat, r2 = (v_X6_shelfAt N x1) → (∀ k : Nat, r2 = some k → k < 8) → Z k_X6_rowRefusal G Γ (rd Γ.2.2.1.1.heap) 0 0 [(0, .ref (a 0)), (1, .int x1)] 5 [va_rf (r2.map (fun k => sh a (30 + 2 * k) 0))] from z6 _ rfl (shelfAt_lt N x1)
  intro r2 hr2 fr2
  have hv := oc_vq hv hr2
  clear hr2
  rcases r2 with _ | r2
  · have hv := oc_n hv
    refine z_astore_nN (lv' := [(2, .null), (0, .ref (a 0)), (1, .int x1)]) dX6_rowRefusal_5 (Nat.le_of_ble_eq_true rfl) rfl ?_
    refine z_aload_nN dX6_rowRefusal_6 rfl ?_
    refine z_ifnonnullN dX6_rowRefusal_7 ?_
    refine z_iconst (v := 1) dX6_rowRefusal_10 rfl ?_
    exact z_iret_S hQ rfl hv dX6_rowRefusal_11
  · have hv := oc_s hv
    have hr2 := fr2 _ rfl; clear fr2
    refine z_astore_n (lv' := [(2, .ref (sh a (30 + 2 * r2) 0)), (0, .ref (a 0)), (1, .int x1)]) dX6_rowRefusal_5 (Nat.le_of_ble_eq_true rfl) rfl ?_
    refine z_aload_n dX6_rowRefusal_6 rfl ?_
    refine z_ifnonnull (tgt := 12) dX6_rowRefusal_7 (by decide) ?_
    refine z_aload_n dX6_rowRefusal_12 rfl ?_
    refine z_cvi (c_X5_isComer G P (sh a (30 + 2 * r2)) (F r2) ) zc_X5_isComer zv_X5_isComer tw_m_RX6_93 (zrec_of (fam_P (a := a) hr2 (sub_P hI [3, 4, 5, 6, 7, 8, 9, 10, 11, 12, 13, 14, 15, 16, 17, 18] rfl)) 0 rfl rfl) (fr_all (fam_P (a := a) hr2 (sub_P hI [3, 4, 5, 6, 7, 8, 9, 10, 11, 12, 13, 14, 15, 16, 17, 18] rfl)) hG) (zroom_of rfl) rfl (Nat.le_of_ble_eq_true rfl) dX6_rowRefusal_13 ?_
    refine z_if_eq (tgt := 21) dX6_rowRefusal_16 (by decide) (fun c3 => ?_) (fun c3 => ?_)
    · have hv := it_t hv c3
      refine z_aload_n dX6_rowRefusal_21 rfl ?_
      refine z_cvi (c_X5_isRow G P (sh a (30 + 2 * r2)) (F r2) ) zc_X5_isRow zv_X5_isRow tw_m_RX6_97 (zrec_of (fam_P (a := a) hr2 (sub_P hI [3, 4, 5, 6, 7, 8, 9, 10, 11, 12, 13, 14, 15, 16, 17, 18] rfl)) 0 rfl rfl) (fr_all (fam_P (a := a) hr2 (sub_P hI [3, 4, 5, 6, 7, 8, 9, 10, 11, 12, 13, 14, 15, 16, 17, 18] rfl)) hG) (zroom_of rfl) rfl (Nat.le_of_ble_eq_true rfl) dX6_rowRefusal_22 ?_
      have J7 : ∀ m5 : Int32, m5 = (if (v_X5_isRow (F r2)) = 0 then (3 : Int32) else 0) → Z k_X6_rowRefusal G Γ (rd Γ.2.2.1.1.heap) 0 0 [(2, .ref (sh a (30 + 2 * r2) 0)), (0, .ref (a 0)), (1, .int x1)] 33 [.int m5] := by
        intro m5 em5
        rewrite [em5]; clear em5
        exact z_iret_S hQ rfl hv dX6_rowRefusal_33
      refine z_if_eq (tgt := 32) dX6_rowRefusal_25 (by decide) (fun c4 => ?_) (fun c4 => ?_)
      · skip
        refine z_iconst (v := 3) dX6_rowRefusal_32 rfl ?_
        exact z_lv rfl (J7 _ (if_pos c4).symm)
      · skip
        refine z_iconst (v := 0) dX6_rowRefusal_28 rfl ?_
        refine z_goto (tgt := 33) dX6_rowRefusal_29 (by decide) ?_
        exact z_lv rfl (J7 _ (if_neg c4).symm)
    · have hv := it_f hv c3
      refine z_iconst (v := 2) dX6_rowRefusal_19 rfl ?_
      exact z_iret_S hQ rfl hv dX6_rowRefusal_20
theorem dX6_dayRefusal_0 : decode cX6_dayRefusal 0 = .ok (.aload_n 0, 1) := by decide +kernel
theorem dX6_dayRefusal_1 : decode cX6_dayRefusal 1 = .ok (.iload_n 1, 1) := by decide +kernel
theorem dX6_dayRefusal_2 : decode cX6_dayRefusal 2 = .ok (.invokevirtual 82, 3) := by decide +kernel
theorem dX6_dayRefusal_5 : decode cX6_dayRefusal 5 = .ok (.istore 4, 2) := by decide +kernel
theorem dX6_dayRefusal_7 : decode cX6_dayRefusal 7 = .ok (.aload_n 0, 1) := by decide +kernel
theorem dX6_dayRefusal_8 : decode cX6_dayRefusal 8 = .ok (.iload_n 1, 1) := by decide +kernel
theorem dX6_dayRefusal_9 : decode cX6_dayRefusal 9 = .ok (.invokevirtual 66, 3) := by decide +kernel
theorem dX6_dayRefusal_12 : decode cX6_dayRefusal 12 = .ok (.astore 5, 2) := by decide +kernel
theorem dX6_dayRefusal_14 : decode cX6_dayRefusal 14 = .ok (.iload 4, 2) := by decide +kernel
theorem dX6_dayRefusal_16 : decode cX6_dayRefusal 16 = .ok (.ifCond .ne 8, 3) := by decide +kernel
theorem dX6_dayRefusal_19 : decode cX6_dayRefusal 19 = .ok (.aload 5, 2) := by decide +kernel
theorem dX6_dayRefusal_21 : decode cX6_dayRefusal 21 = .ok (.ifnonnull 6, 3) := by decide +kernel
theorem dX6_dayRefusal_24 : decode cX6_dayRefusal 24 = .ok (.iload 4, 2) := by decide +kernel
theorem dX6_dayRefusal_26 : decode cX6_dayRefusal 26 = .ok (.ireturn, 1) := by decide +kernel
theorem dX6_dayRefusal_27 : decode cX6_dayRefusal 27 = .ok (.iload_n 2, 1) := by decide +kernel
theorem dX6_dayRefusal_28 : decode cX6_dayRefusal 28 = .ok (.ifCond .ge 5, 3) := by decide +kernel
theorem dX6_dayRefusal_31 : decode cX6_dayRefusal 31 = .ok (.iconst 4, 1) := by decide +kernel
theorem dX6_dayRefusal_32 : decode cX6_dayRefusal 32 = .ok (.ireturn, 1) := by decide +kernel
theorem dX6_dayRefusal_33 : decode cX6_dayRefusal 33 = .ok (.iload_n 2, 1) := by decide +kernel
theorem dX6_dayRefusal_34 : decode cX6_dayRefusal 34 = .ok (.aload 5, 2) := by decide +kernel
theorem dX6_dayRefusal_36 : decode cX6_dayRefusal 36 = .ok (.getfield 320, 3) := by decide +kernel
theorem dX6_dayRefusal_39 : decode cX6_dayRefusal 39 = .ok (.if_icmp .gt 7, 3) := by decide +kernel
theorem dX6_dayRefusal_42 : decode cX6_dayRefusal 42 = .ok (.iload_n 3, 1) := by decide +kernel
theorem dX6_dayRefusal_43 : decode cX6_dayRefusal 43 = .ok (.ifCond .ne 5, 3) := by decide +kernel
theorem dX6_dayRefusal_46 : decode cX6_dayRefusal 46 = .ok (.iconst 5, 1) := by decide +kernel
theorem dX6_dayRefusal_47 : decode cX6_dayRefusal 47 = .ok (.ireturn, 1) := by decide +kernel
theorem dX6_dayRefusal_48 : decode cX6_dayRefusal 48 = .ok (.iload_n 2, 1) := by decide +kernel
theorem dX6_dayRefusal_49 : decode cX6_dayRefusal 49 = .ok (.bipush 7, 2) := by decide +kernel
theorem dX6_dayRefusal_51 : decode cX6_dayRefusal 51 = .ok (.if_icmp .le 8, 3) := by decide +kernel
theorem dX6_dayRefusal_54 : decode cX6_dayRefusal 54 = .ok (.bipush 6, 2) := by decide +kernel
theorem dX6_dayRefusal_56 : decode cX6_dayRefusal 56 = .ok (.goto 4, 3) := by decide +kernel
theorem dX6_dayRefusal_59 : decode cX6_dayRefusal 59 = .ok (.iconst 0, 1) := by decide +kernel
theorem dX6_dayRefusal_60 : decode cX6_dayRefusal 60 = .ok (.ireturn, 1) := by decide +kernel
abbrev k_X6_dayRefusal : zK := (cX6_dayRefusal, 6, RX6, (some .int), ({ frames := 2, cells := 0, slots := 0, locals := 43 } : Room))
theorem zc_X6_dayRefusal : zcal yX6_dayRefusal k_X6_dayRefusal.1 k_X6_dayRefusal.2.1 k_X6_dayRefusal.2.2.2.1 3 := ⟨tw_code_yX6_dayRefusal, tw_i_TollForHesitators, ⟨by decide +kernel, by decide +kernel⟩, by decide +kernel⟩
theorem zv_X6_dayRefusal : Cond.instanceMethod yX6_dayRefusal ∈ TS ∧ Cond.selects RX6 yX6_dayRefusal yX6_dayRefusal ∈ TS := ⟨tw_inst_yX6_dayRefusal, tw_s_yX6_dayRefusal⟩
def v_X6_dayRefusal (N : nT) (F : fT) (x1 : Int32) (x2 : Int32) (x3 : Int32) : Int32 := oc (v_X6_shelfAt N x1) (if (v_X6_rowRefusal N F x1) = 0 then (v_X6_rowRefusal N F x1) else (v_X6_rowRefusal N F x1)) (fun r3 : Nat => if (v_X6_rowRefusal N F x1) = 0 then if 0 ≤ x2 then if ((F r3).1 2) < x2 then 5 else if x3 = 0 then 5 else (if x2 ≤ 7 then (0 : Int32) else 6) else 4 else (v_X6_rowRefusal N F x1))
def p_X6_dayRefusal (N : nT) (F : fT) (x1 : Int32) (x2 : Int32) (x3 : Int32) : Prop := p_X6_rowRefusal N F x1 ∧ p_X6_shelfAt N x1
set_option maxHeartbeats 800000 in
theorem c_X6_dayRefusal {l : Launch} (G : zG) (P : pT) (a : Nat → Nat) (N : nT) (F : fT) (x1 : Int32) (x2 : Int32) (x3 : Int32) (hp : p_X6_dayRefusal N F x1 x2 x3) : Met l yX6_dayRefusal (.code yX6_dayRefusal k_X6_dayRefusal.1 k_X6_dayRefusal.2.1 k_X6_dayRefusal.2.2.2.1 :: TS) k_X6_dayRefusal.2.2.2.2 (Pz G [.ref (a 0), .int x1, .int x2, .int x3] (Fr G P (maW G a N ++ faW G a F))) (vp_Si (fun r => r = v_X6_dayRefusal N F x1 x2 x3)) 0 0 (fun _ => False) := by
  refine zmet (K := k_X6_dayRefusal) (by decide +kernel) rfl rfl (fun Γ hl0 hQ hN hF => ?_)
  have hI := rd_P (G := G) hF.1
  have hG := rd_F hF.2
  obtain ⟨res, hv⟩ : ∃ res, v_X6_dayRefusal N F x1 x2 x3 = res := ⟨_, rfl⟩
  rw [hv] at hQ
  unfold v_X6_dayRefusal at hv
  unfold p_X6_dayRefusal at hp
  show Z k_X6_dayRefusal G Γ _ 0 0 [(0, .ref (a 0)), (1, .int x1), (2, .int x2), (3, .int x3)] 0 []
  refine z_aload_n dX6_dayRefusal_0 rfl ?_
  refine z_iload_n dX6_dayRefusal_1 rfl ?_
  obtain ⟨q1, hp⟩ := hp
  refine z_cvi (c_X6_rowRefusal G P a N F x1 q1) zc_X6_rowRefusal zv_X6_rowRefusal tw_m_RX6_82 (zrec_of hI 0 rfl rfl) (fr_all hI hG) (zroom_of rfl) rfl (Nat.le_of_ble_eq_true rfl) dX6_dayRefusal_2 ?_
  refine z_istore (lv' := [(4, .int (v_X6_rowRefusal N F x1)), (0, .ref (a 0)), (1, .int x1), (2, .int x2), (3, .int x3)]) dX6_dayRefusal_5 (Nat.le_of_ble_eq_true rfl) rfl ?_
  refine z_aload_n dX6_dayRefusal_7 rfl ?_
  refine z_iload_n dX6_dayRefusal_8 rfl ?_
  have q2 := hp
  refine z_cvq (c_X6_shelfAt G P a N x1 q2) zc_X6_shelfAt zv_X6_shelfAt tw_m_RX6_66 (zrec_of hI 0 rfl rfl) (fr_all (sub_P hI [0, 1, 2] rfl) hG) (zroom_of rfl) rfl (Nat.le_of_ble_eq_true rfl) dX6_dayRefusal_9 ?_
  suffices z11 : ∀ r3 : Option Nat, r3 = (v_X6_shelfAt N x1) → (∀ k : Nat, r3 = some k → k < 8) → Z k_X6_dayRefusal G Γ (rd Γ.2.2.1.1.heap) 0 0 [(4, .int (v_X6_rowRefusal N F x1)), (0, .ref (a 0)), (1, .int x1), (2, .int x2), (3, .int x3)] 12 [va_rf (r3.map (fun k => sh a (30 + 2 * k) 0))] from z11 _ rfl (shelfAt_lt N x1)
  intro r3 hr3 fr3
  have hv := oc_vq hv hr3
  clear hr3
  rcases r3 with _ | r3
  · have hv := oc_n hv
    refine z_astoreN (lv' := [(5, .null), (4, .int (v_X6_rowRefusal N F x1)), (0, .ref (a 0)), (1, .int x1), (2, .int x2), (3, .int x3)]) dX6_dayRefusal_12 (Nat.le_of_ble_eq_true rfl) rfl ?_
    refine z_iload dX6_dayRefusal_14 rfl ?_
    refine z_if_ne (tgt := 24) dX6_dayRefusal_16 (by decide) (fun c4 => ?_) (fun c4 => ?_)
    · have hv := it_f hv c4
      refine z_iload dX6_dayRefusal_24 rfl ?_
      exact z_iret_S hQ rfl hv dX6_dayRefusal_26
    · have hv := it_t hv c4
      refine z_aloadN dX6_dayRefusal_19 rfl ?_
      refine z_ifnonnullN dX6_dayRefusal_21 ?_
      refine z_iload dX6_dayRefusal_24 rfl ?_
      exact z_iret_S hQ rfl hv dX6_dayRefusal_26
  · have hv := oc_s hv
    have hr3 := fr3 _ rfl; clear fr3
    refine z_astore (lv' := [(5, .ref (sh a (30 + 2 * r3) 0)), (4, .int (v_X6_rowRefusal N F x1)), (0, .ref (a 0)), (1, .int x1), (2, .int x2), (3, .int x3)]) dX6_dayRefusal_12 (Nat.le_of_ble_eq_true rfl) rfl ?_
    refine z_iload dX6_dayRefusal_14 rfl ?_
    refine z_if_ne (tgt := 24) dX6_dayRefusal_16 (by decide) (fun c5 => ?_) (fun c5 => ?_)
    · have hv := it_f hv c5
      refine z_iload dX6_dayRefusal_24 rfl ?_
      exact z_iret_S hQ rfl hv dX6_dayRefusal_26
    · have hv := it_t hv c5
      refine z_aload dX6_dayRefusal_19 rfl ?_
      refine z_ifnonnull (tgt := 27) dX6_dayRefusal_21 (by decide) ?_
      refine z_iload_n dX6_dayRefusal_27 rfl ?_
      refine z_if_ge (tgt := 33) dX6_dayRefusal_28 (by decide) (fun c6 => ?_) (fun c6 => ?_)
      · have hv := it_t hv c6
        refine z_iload_n dX6_dayRefusal_33 rfl ?_
        refine z_aload dX6_dayRefusal_34 rfl ?_
        refine z_get (v := .int ((F r3).1 2)) (fam_P (a := a) hr3 (sub_P hI [3, 4, 5, 6, 7, 8, 9, 10, 11, 12, 13, 14, 15, 16, 17, 18] rfl)) 0 rfl rfl uin_X5 2 (Nat.le_of_ble_eq_true rfl) tw_f_RX6_320 rfl rfl dX6_dayRefusal_36 ?_
        refine z_icmp_gt (tgt := 46) dX6_dayRefusal_39 (by decide) (fun c7 => ?_) (fun c7 => ?_)
        · have hv := it_t hv c7
          refine z_iconst (v := 5) dX6_dayRefusal_46 rfl ?_
          exact z_iret_S hQ rfl hv dX6_dayRefusal_47
        · have hv := it_f hv c7
          refine z_iload_n dX6_dayRefusal_42 rfl ?_
          refine z_if_ne (tgt := 48) dX6_dayRefusal_43 (by decide) (fun c8 => ?_) (fun c8 => ?_)
          · have hv := it_f hv c8
            refine z_iload_n dX6_dayRefusal_48 rfl ?_
            refine z_bipush (v := 7) dX6_dayRefusal_49 rfl ?_
            have J12 : ∀ m10 : Int32, m10 = (if x2 ≤ 7 then (0 : Int32) else 6) → Z k_X6_dayRefusal G Γ (rd Γ.2.2.1.1.heap) 0 0 [(5, .ref (sh a (30 + 2 * r3) 0)), (4, .int (v_X6_rowRefusal N F x1)), (0, .ref (a 0)), (1, .int x1), (2, .int x2), (3, .int x3)] 60 [.int m10] := by
              intro m10 em10
              rewrite [em10]; clear em10
              exact z_iret_S hQ rfl hv dX6_dayRefusal_60
            refine z_icmp_le (tgt := 59) dX6_dayRefusal_51 (by decide) (fun c9 => ?_) (fun c9 => ?_)
            · skip
              refine z_iconst (v := 0) dX6_dayRefusal_59 rfl ?_
              exact z_lv rfl (J12 _ (if_pos c9).symm)
            · skip
              refine z_bipush (v := 6) dX6_dayRefusal_54 rfl ?_
              refine z_goto (tgt := 60) dX6_dayRefusal_56 (by decide) ?_
              exact z_lv rfl (J12 _ (if_neg c9).symm)
          · have hv := it_t hv c8
            refine z_iconst (v := 5) dX6_dayRefusal_46 rfl ?_
            exact z_iret_S hQ rfl hv dX6_dayRefusal_47
      · have hv := it_f hv c6
        refine z_iconst (v := 4) dX6_dayRefusal_31 rfl ?_
        exact z_iret_S hQ rfl hv dX6_dayRefusal_32
theorem dX6_twosRefusal_0 : decode cX6_twosRefusal 0 = .ok (.aload_n 0, 1) := by decide +kernel
theorem dX6_twosRefusal_1 : decode cX6_twosRefusal 1 = .ok (.iload_n 1, 1) := by decide +kernel
theorem dX6_twosRefusal_2 : decode cX6_twosRefusal 2 = .ok (.invokevirtual 66, 3) := by decide +kernel
theorem dX6_twosRefusal_5 : decode cX6_twosRefusal 5 = .ok (.astore 4, 2) := by decide +kernel
theorem dX6_twosRefusal_7 : decode cX6_twosRefusal 7 = .ok (.aload 4, 2) := by decide +kernel
theorem dX6_twosRefusal_9 : decode cX6_twosRefusal 9 = .ok (.ifnull 14, 3) := by decide +kernel
theorem dX6_twosRefusal_12 : decode cX6_twosRefusal 12 = .ok (.aload_n 0, 1) := by decide +kernel
theorem dX6_twosRefusal_13 : decode cX6_twosRefusal 13 = .ok (.getfield 10, 3) := by decide +kernel
theorem dX6_twosRefusal_16 : decode cX6_twosRefusal 16 = .ok (.iload_n 3, 1) := by decide +kernel
theorem dX6_twosRefusal_17 : decode cX6_twosRefusal 17 = .ok (.invokevirtual 121, 3) := by decide +kernel
theorem dX6_twosRefusal_20 : decode cX6_twosRefusal 20 = .ok (.ifCond .ne 5, 3) := by decide +kernel
theorem dX6_twosRefusal_23 : decode cX6_twosRefusal 23 = .ok (.iconst 1, 1) := by decide +kernel
theorem dX6_twosRefusal_24 : decode cX6_twosRefusal 24 = .ok (.ireturn, 1) := by decide +kernel
theorem dX6_twosRefusal_25 : decode cX6_twosRefusal 25 = .ok (.aload_n 0, 1) := by decide +kernel
theorem dX6_twosRefusal_26 : decode cX6_twosRefusal 26 = .ok (.iload_n 1, 1) := by decide +kernel
theorem dX6_twosRefusal_27 : decode cX6_twosRefusal 27 = .ok (.invokevirtual 82, 3) := by decide +kernel
theorem dX6_twosRefusal_30 : decode cX6_twosRefusal 30 = .ok (.istore 5, 2) := by decide +kernel
theorem dX6_twosRefusal_32 : decode cX6_twosRefusal 32 = .ok (.iload 5, 2) := by decide +kernel
theorem dX6_twosRefusal_34 : decode cX6_twosRefusal 34 = .ok (.ifCond .eq 6, 3) := by decide +kernel
theorem dX6_twosRefusal_37 : decode cX6_twosRefusal 37 = .ok (.iload 5, 2) := by decide +kernel
theorem dX6_twosRefusal_39 : decode cX6_twosRefusal 39 = .ok (.ireturn, 1) := by decide +kernel
theorem dX6_twosRefusal_40 : decode cX6_twosRefusal 40 = .ok (.iload_n 2, 1) := by decide +kernel
theorem dX6_twosRefusal_41 : decode cX6_twosRefusal 41 = .ok (.ifCond .ge 5, 3) := by decide +kernel
theorem dX6_twosRefusal_44 : decode cX6_twosRefusal 44 = .ok (.iconst 4, 1) := by decide +kernel
theorem dX6_twosRefusal_45 : decode cX6_twosRefusal 45 = .ok (.ireturn, 1) := by decide +kernel
theorem dX6_twosRefusal_46 : decode cX6_twosRefusal 46 = .ok (.aload 4, 2) := by decide +kernel
theorem dX6_twosRefusal_48 : decode cX6_twosRefusal 48 = .ok (.iconst 0, 1) := by decide +kernel
theorem dX6_twosRefusal_49 : decode cX6_twosRefusal 49 = .ok (.ldc2_w 323, 3) := by decide +kernel
theorem dX6_twosRefusal_52 : decode cX6_twosRefusal 52 = .ok (.iload_n 2, 1) := by decide +kernel
theorem dX6_twosRefusal_53 : decode cX6_twosRefusal 53 = .ok (.i2l, 1) := by decide +kernel
theorem dX6_twosRefusal_54 : decode cX6_twosRefusal 54 = .ok (.lmul, 1) := by decide +kernel
theorem dX6_twosRefusal_55 : decode cX6_twosRefusal 55 = .ok (.invokevirtual 103, 3) := by decide +kernel
theorem dX6_twosRefusal_58 : decode cX6_twosRefusal 58 = .ok (.ifCond .ne 5, 3) := by decide +kernel
theorem dX6_twosRefusal_61 : decode cX6_twosRefusal 61 = .ok (.iconst 5, 1) := by decide +kernel
theorem dX6_twosRefusal_62 : decode cX6_twosRefusal 62 = .ok (.ireturn, 1) := by decide +kernel
theorem dX6_twosRefusal_63 : decode cX6_twosRefusal 63 = .ok (.iload_n 2, 1) := by decide +kernel
theorem dX6_twosRefusal_64 : decode cX6_twosRefusal 64 = .ok (.bipush 40, 2) := by decide +kernel
theorem dX6_twosRefusal_66 : decode cX6_twosRefusal 66 = .ok (.if_icmp .le 6, 3) := by decide +kernel
theorem dX6_twosRefusal_69 : decode cX6_twosRefusal 69 = .ok (.bipush 6, 2) := by decide +kernel
theorem dX6_twosRefusal_71 : decode cX6_twosRefusal 71 = .ok (.ireturn, 1) := by decide +kernel
theorem dX6_twosRefusal_72 : decode cX6_twosRefusal 72 = .ok (.iconst 0, 1) := by decide +kernel
theorem dX6_twosRefusal_73 : decode cX6_twosRefusal 73 = .ok (.istore 6, 2) := by decide +kernel
theorem dX6_twosRefusal_75 : decode cX6_twosRefusal 75 = .ok (.iload 6, 2) := by decide +kernel
theorem dX6_twosRefusal_77 : decode cX6_twosRefusal 77 = .ok (.iload_n 2, 1) := by decide +kernel
theorem dX6_twosRefusal_78 : decode cX6_twosRefusal 78 = .ok (.if_icmp .ge 49, 3) := by decide +kernel
theorem dX6_twosRefusal_81 : decode cX6_twosRefusal 81 = .ok (.aload 4, 2) := by decide +kernel
theorem dX6_twosRefusal_83 : decode cX6_twosRefusal 83 = .ok (.iconst 2, 1) := by decide +kernel
theorem dX6_twosRefusal_84 : decode cX6_twosRefusal 84 = .ok (.iload 6, 2) := by decide +kernel
theorem dX6_twosRefusal_86 : decode cX6_twosRefusal 86 = .ok (.imul, 1) := by decide +kernel
theorem dX6_twosRefusal_87 : decode cX6_twosRefusal 87 = .ok (.invokevirtual 325, 3) := by decide +kernel
theorem dX6_twosRefusal_90 : decode cX6_twosRefusal 90 = .ok (.iconst 0, 1) := by decide +kernel
theorem dX6_twosRefusal_91 : decode cX6_twosRefusal 91 = .ok (.bipush 9, 2) := by decide +kernel
theorem dX6_twosRefusal_93 : decode cX6_twosRefusal 93 = .ok (.invokestatic 74, 3) := by decide +kernel
theorem dX6_twosRefusal_96 : decode cX6_twosRefusal 96 = .ok (.ifCond .eq 22, 3) := by decide +kernel
theorem dX6_twosRefusal_99 : decode cX6_twosRefusal 99 = .ok (.aload 4, 2) := by decide +kernel
theorem dX6_twosRefusal_101 : decode cX6_twosRefusal 101 = .ok (.iconst 2, 1) := by decide +kernel
theorem dX6_twosRefusal_102 : decode cX6_twosRefusal 102 = .ok (.iload 6, 2) := by decide +kernel
theorem dX6_twosRefusal_104 : decode cX6_twosRefusal 104 = .ok (.imul, 1) := by decide +kernel
theorem dX6_twosRefusal_105 : decode cX6_twosRefusal 105 = .ok (.iconst 1, 1) := by decide +kernel
theorem dX6_twosRefusal_106 : decode cX6_twosRefusal 106 = .ok (.iadd, 1) := by decide +kernel
theorem dX6_twosRefusal_107 : decode cX6_twosRefusal 107 = .ok (.invokevirtual 325, 3) := by decide +kernel
theorem dX6_twosRefusal_110 : decode cX6_twosRefusal 110 = .ok (.iconst 0, 1) := by decide +kernel
theorem dX6_twosRefusal_111 : decode cX6_twosRefusal 111 = .ok (.iconst 1, 1) := by decide +kernel
theorem dX6_twosRefusal_112 : decode cX6_twosRefusal 112 = .ok (.invokestatic 74, 3) := by decide +kernel
theorem dX6_twosRefusal_115 : decode cX6_twosRefusal 115 = .ok (.ifCond .ne 6, 3) := by decide +kernel
theorem dX6_twosRefusal_118 : decode cX6_twosRefusal 118 = .ok (.bipush 6, 2) := by decide +kernel
theorem dX6_twosRefusal_120 : decode cX6_twosRefusal 120 = .ok (.ireturn, 1) := by decide +kernel
theorem dX6_twosRefusal_121 : decode cX6_twosRefusal 121 = .ok (.iinc 6 1, 3) := by decide +kernel
theorem dX6_twosRefusal_124 : decode cX6_twosRefusal 124 = .ok (.goto (-49), 3) := by decide +kernel
theorem dX6_twosRefusal_127 : decode cX6_twosRefusal 127 = .ok (.iconst 0, 1) := by decide +kernel
theorem dX6_twosRefusal_128 : decode cX6_twosRefusal 128 = .ok (.ireturn, 1) := by decide +kernel
abbrev k_X6_twosRefusal : zK := (cX6_twosRefusal, 7, RX6, (some .int), ({ frames := 2, cells := 0, slots := 0, locals := 43 } : Room))
theorem zc_X6_twosRefusal : zcal yX6_twosRefusal k_X6_twosRefusal.1 k_X6_twosRefusal.2.1 k_X6_twosRefusal.2.2.2.1 3 := ⟨tw_code_yX6_twosRefusal, tw_i_TollForHesitators, ⟨by decide +kernel, by decide +kernel⟩, by decide +kernel⟩
theorem zv_X6_twosRefusal : Cond.instanceMethod yX6_twosRefusal ∈ TS ∧ Cond.selects RX6 yX6_twosRefusal yX6_twosRefusal ∈ TS := ⟨tw_inst_yX6_twosRefusal, tw_s_yX6_twosRefusal⟩
def v_X6_twosRefusal_r (N : nT) (R : rT) (F : fT) : Nat → Int32 → Nat → Int32 → Int32
  | 0, _, _, _ => 0
  | n + 1, v2, v4, v6 => if v2 ≤ v6 then 0 else if (v_X6_within (v_X5_intAt (F v4) (2 * v6)) 0 9) = 0 then 6 else if (v_X6_within (v_X5_intAt (F v4) ((2 * v6) + 1)) 0 1) = 0 then 6 else v_X6_twosRefusal_r N R F n v2 v4 (v6 + 1)
def p_X6_twosRefusal_r (N : nT) (R : rT) (F : fT) : Nat → Int32 → Nat → Int32 → Prop
  | 0, _, _, _ => False
  | n + 1, v2, v4, v6 => if v2 ≤ v6 then True else (p_X5_intAt (F v4) (2 * v6)) ∧ (if (v_X6_within (v_X5_intAt (F v4) (2 * v6)) 0 9) = 0 then True else (p_X5_intAt (F v4) ((2 * v6) + 1)) ∧ (if (v_X6_within (v_X5_intAt (F v4) ((2 * v6) + 1)) 0 1) = 0 then True else p_X6_twosRefusal_r N R F n v2 v4 (v6 + 1)))
def v_X6_twosRefusal (N : nT) (R : rT) (F : fT) (x1 : Int32) (x2 : Int32) (x3 : Int32) : Int32 := oc (v_X6_shelfAt N x1) (1) (fun r2 : Nat => if (v_X4_has R x3) = 0 then 1 else if (v_X6_rowRefusal N F x1) = 0 then if 0 ≤ x2 then if (v_X5_spans (F r2) 0 (2 * x2.toInt64)) = 0 then 5 else if x2 ≤ 40 then v_X6_twosRefusal_r N R F 200 x2 r2 0 else 6 else 4 else (v_X6_rowRefusal N F x1))
def p_X6_twosRefusal (N : nT) (R : rT) (F : fT) (x1 : Int32) (x2 : Int32) (x3 : Int32) : Prop := p_X6_shelfAt N x1 ∧ (oc (v_X6_shelfAt N x1) (True) (fun r2 : Nat => p_X4_has R x3 ∧ (if (v_X4_has R x3) = 0 then True else p_X6_rowRefusal N F x1 ∧ (if (v_X6_rowRefusal N F x1) = 0 then if 0 ≤ x2 then if (v_X5_spans (F r2) 0 (2 * x2.toInt64)) = 0 then True else if x2 ≤ 40 then p_X6_twosRefusal_r N R F 200 x2 r2 0 else True else True else True))))
set_option maxHeartbeats 800000 in
theorem w_X6_twosRefusal {G : zG} {P : pT} {Γ : zT} {res : Int32} (a : Nat → Nat) (N : nT) (R : rT) (F : fT) (hF : Fr G P (maW G a N ++ rdW G (sh a 10) R ++ faW G a F) Γ.2.2.1.1.heap) (hQ : zQ Γ (vp_Si (fun r => r = res)) 0 0 (fun _ => False)) : ∀ n : Nat, (∀ (v2 : Int32) (v4 : Nat) (v6 : Int32), v4 < 8 → p_X6_twosRefusal_r N R F n v2 v4 v6 → v_X6_twosRefusal_r N R F n v2 v4 v6 = res → Z k_X6_twosRefusal G Γ (rd Γ.2.2.1.1.heap) 0 0 [(0, .ref (a 0)), (2, .int v2), (4, .ref (sh a (30 + 2 * v4) 0)), (6, .int v6)] 75 []) := by
  have hI := rd_P (G := G) hF.1
  have hG := rd_F hF.2
  intro n
  induction n with
  | zero => exact fun v2 v4 v6 hv4 hp => absurd hp (by rw [p_X6_twosRefusal_r]; exact not_false)
  | succ n ih =>
    intro v2 v4 v6 hv4 hp hv
    rw [p_X6_twosRefusal_r] at hp
    rw [v_X6_twosRefusal_r] at hv
    refine z_iload dX6_twosRefusal_75 rfl ?_
    refine z_iload_n dX6_twosRefusal_77 rfl ?_
    refine z_icmp_ge (tgt := 127) dX6_twosRefusal_78 (by decide) (fun c10 => ?_) (fun c10 => ?_)
    · have hp := ip_t hp c10; have hv := it_t hv c10
      refine z_iconst (v := 0) dX6_twosRefusal_127 rfl ?_
      exact z_iret_S hQ rfl hv dX6_twosRefusal_128
    · have hp := ip_f hp c10; have hv := it_f hv c10
      refine z_aload dX6_twosRefusal_81 rfl ?_
      refine z_iconst (v := 2) dX6_twosRefusal_83 rfl ?_
      refine z_iload dX6_twosRefusal_84 rfl ?_
      refine z_imul dX6_twosRefusal_86 ?_
      obtain ⟨q11, hp⟩ := hp
      refine z_cvi (c_X5_intAt G P (sh a (30 + 2 * v4)) (F v4) (2 * v6) q11) zc_X5_intAt zv_X5_intAt tw_m_RX6_325 (zrec_of (fam_P (a := a) hv4 (sub_P hI [8, 9, 10, 11, 12, 13, 14, 15, 16, 17, 18, 19, 20, 21, 22, 23] rfl)) 0 rfl rfl) (fr_all (fam_P (a := a) hv4 (sub_P hI [8, 9, 10, 11, 12, 13, 14, 15, 16, 17, 18, 19, 20, 21, 22, 23] rfl)) hG) (zroom_of rfl) rfl (Nat.le_of_ble_eq_true rfl) dX6_twosRefusal_87 ?_
      refine z_iconst (v := 0) dX6_twosRefusal_90 rfl ?_
      refine z_bipush (v := 9) dX6_twosRefusal_91 rfl ?_
      refine z_csi (c_X6_within G P (v_X5_intAt (F v4) (2 * v6)) 0 9 ) zc_X6_within tw_st_yX6_within tw_m_RX6_74 (fr_all (sub_P hI [] rfl) hG) (zroom_of rfl) rfl (Nat.le_of_ble_eq_true rfl) dX6_twosRefusal_93 ?_
      refine z_if_eq (tgt := 118) dX6_twosRefusal_96 (by decide) (fun c12 => ?_) (fun c12 => ?_)
      · have hp := ip_t hp c12; have hv := it_t hv c12
        refine z_bipush (v := 6) dX6_twosRefusal_118 rfl ?_
        exact z_iret_S hQ rfl hv dX6_twosRefusal_120
      · have hp := ip_f hp c12; have hv := it_f hv c12
        refine z_aload dX6_twosRefusal_99 rfl ?_
        refine z_iconst (v := 2) dX6_twosRefusal_101 rfl ?_
        refine z_iload dX6_twosRefusal_102 rfl ?_
        refine z_imul dX6_twosRefusal_104 ?_
        refine z_iconst (v := 1) dX6_twosRefusal_105 rfl ?_
        refine z_iadd dX6_twosRefusal_106 ?_
        obtain ⟨q13, hp⟩ := hp
        refine z_cvi (c_X5_intAt G P (sh a (30 + 2 * v4)) (F v4) ((2 * v6) + 1) q13) zc_X5_intAt zv_X5_intAt tw_m_RX6_325 (zrec_of (fam_P (a := a) hv4 (sub_P hI [8, 9, 10, 11, 12, 13, 14, 15, 16, 17, 18, 19, 20, 21, 22, 23] rfl)) 0 rfl rfl) (fr_all (fam_P (a := a) hv4 (sub_P hI [8, 9, 10, 11, 12, 13, 14, 15, 16, 17, 18, 19, 20, 21, 22, 23] rfl)) hG) (zroom_of rfl) rfl (Nat.le_of_ble_eq_true rfl) dX6_twosRefusal_107 ?_
        refine z_iconst (v := 0) dX6_twosRefusal_110 rfl ?_
        refine z_iconst (v := 1) dX6_twosRefusal_111 rfl ?_
        refine z_csi (c_X6_within G P (v_X5_intAt (F v4) ((2 * v6) + 1)) 0 1 ) zc_X6_within tw_st_yX6_within tw_m_RX6_74 (fr_all (sub_P hI [] rfl) hG) (zroom_of rfl) rfl (Nat.le_of_ble_eq_true rfl) dX6_twosRefusal_112 ?_
        refine z_if_ne (tgt := 121) dX6_twosRefusal_115 (by decide) (fun c14 => ?_) (fun c14 => ?_)
        · have hp := ip_f hp c14; have hv := it_f hv c14
          refine z_iinc (v := v6 + 1) (lv' := [(6, .int (v6 + 1)), (0, .ref (a 0)), (2, .int v2), (4, .ref (sh a (30 + 2 * v4) 0))]) dX6_twosRefusal_121 3 rfl rfl (Nat.le_of_ble_eq_true rfl) rfl ?_
          refine z_goto (tgt := 75) dX6_twosRefusal_124 (by decide) ?_
          exact z_lv rfl ((ih) v2 v4 (v6 + 1) hv4 hp hv)
        · have hp := ip_t hp c14; have hv := it_t hv c14
          refine z_bipush (v := 6) dX6_twosRefusal_118 rfl ?_
          exact z_iret_S hQ rfl hv dX6_twosRefusal_120
set_option maxHeartbeats 800000 in
theorem c_X6_twosRefusal {l : Launch} (G : zG) (P : pT) (a : Nat → Nat) (N : nT) (R : rT) (F : fT) (x1 : Int32) (x2 : Int32) (x3 : Int32) (hp : p_X6_twosRefusal N R F x1 x2 x3) : Met l yX6_twosRefusal (.code yX6_twosRefusal k_X6_twosRefusal.1 k_X6_twosRefusal.2.1 k_X6_twosRefusal.2.2.2.1 :: TS) k_X6_twosRefusal.2.2.2.2 (Pz G [.ref (a 0), .int x1, .int x2, .int x3] (Fr G P (maW G a N ++ rdW G (sh a 10) R ++ faW G a F))) (vp_Si (fun r => r = v_X6_twosRefusal N R F x1 x2 x3)) 0 0 (fun _ => False) := by
  refine zmet (K := k_X6_twosRefusal) (by decide +kernel) rfl rfl (fun Γ hl0 hQ hN hF => ?_)
  have hI := rd_P (G := G) hF.1
  have hG := rd_F hF.2
  obtain ⟨res, hv⟩ : ∃ res, v_X6_twosRefusal N R F x1 x2 x3 = res := ⟨_, rfl⟩
  rw [hv] at hQ
  unfold v_X6_twosRefusal at hv
  unfold p_X6_twosRefusal at hp
  show Z k_X6_twosRefusal G Γ _ 0 0 [(0, .ref (a 0)), (1, .int x1), (2, .int x2), (3, .int x3)] 0 []
  refine z_aload_n dX6_twosRefusal_0 rfl ?_
  refine z_iload_n dX6_twosRefusal_1 rfl ?_
  obtain ⟨q1, hp⟩ := hp
  refine z_cvq (c_X6_shelfAt G P a N x1 q1) zc_X6_shelfAt zv_X6_shelfAt tw_m_RX6_66 (zrec_of hI 0 rfl rfl) (fr_all (sub_P hI [0, 1, 2] rfl) hG) (zroom_of rfl) rfl (Nat.le_of_ble_eq_true rfl) dX6_twosRefusal_2 ?_
  suffices z15 : ∀ r2 : Option Nat, r2 = (v_X6_shelfAt N x1) → (∀ k : Nat, r2 = some k → k < 8) → Z k_X6_twosRefusal G Γ (rd Γ.2.2.1.1.heap) 0 0 [(0, .ref (a 0)), (1, .int x1), (2, .int x2), (3, .int x3)] 5 [va_rf (r2.map (fun k => sh a (30 + 2 * k) 0))] from z15 _ rfl (shelfAt_lt N x1)
  intro r2 hr2 fr2
  have hp := oc_pq hp hr2
  have hv := oc_vq hv hr2
  clear hr2
  rcases r2 with _ | r2
  · have hp := oc_pn hp; have hv := oc_n hv
    refine z_astoreN (lv' := [(4, .null), (0, .ref (a 0)), (1, .int x1), (2, .int x2), (3, .int x3)]) dX6_twosRefusal_5 (Nat.le_of_ble_eq_true rfl) rfl ?_
    refine z_aloadN dX6_twosRefusal_7 rfl ?_
    refine z_ifnullN (tgt := 23) dX6_twosRefusal_9 (by decide) ?_
    refine z_iconst (v := 1) dX6_twosRefusal_23 rfl ?_
    exact z_iret_S hQ rfl hv dX6_twosRefusal_24
  · have hp := oc_ps hp; have hv := oc_s hv
    have hr2 := fr2 _ rfl; clear fr2
    refine z_astore (lv' := [(4, .ref (sh a (30 + 2 * r2) 0)), (0, .ref (a 0)), (1, .int x1), (2, .int x2), (3, .int x3)]) dX6_twosRefusal_5 (Nat.le_of_ble_eq_true rfl) rfl ?_
    refine z_aload dX6_twosRefusal_7 rfl ?_
    refine z_ifnull dX6_twosRefusal_9 ?_
    refine z_aload_n dX6_twosRefusal_12 rfl ?_
    refine z_get (v := .ref ((sh a 10) 0)) hI 0 rfl rfl uin_X6 0 (Nat.le_of_ble_eq_true rfl) tw_f_RX6_10 rfl rfl dX6_twosRefusal_13 ?_
    refine z_iload_n dX6_twosRefusal_16 rfl ?_
    obtain ⟨q3, hp⟩ := hp
    refine z_cvi (c_X4_has G P (sh a 10) R x3 q3) zc_X4_has zv_X4_has tw_m_RX6_121 (zrec_of hI 3 rfl rfl) (fr_all (sub_P hI [3, 4, 5, 6, 7] rfl) hG) (zroom_of rfl) rfl (Nat.le_of_ble_eq_true rfl) dX6_twosRefusal_17 ?_
    refine z_if_ne (tgt := 25) dX6_twosRefusal_20 (by decide) (fun c4 => ?_) (fun c4 => ?_)
    · have hp := ip_f hp c4; have hv := it_f hv c4
      refine z_aload_n dX6_twosRefusal_25 rfl ?_
      refine z_iload_n dX6_twosRefusal_26 rfl ?_
      obtain ⟨q5, hp⟩ := hp
      refine z_cvi (c_X6_rowRefusal G P a N F x1 q5) zc_X6_rowRefusal zv_X6_rowRefusal tw_m_RX6_82 (zrec_of hI 0 rfl rfl) (fr_all (sub_P hI [0, 1, 2, 8, 9, 10, 11, 12, 13, 14, 15, 16, 17, 18, 19, 20, 21, 22, 23] rfl) hG) (zroom_of rfl) rfl (Nat.le_of_ble_eq_true rfl) dX6_twosRefusal_27 ?_
      refine z_istore (lv' := [(5, .int (v_X6_rowRefusal N F x1)), (4, .ref (sh a (30 + 2 * r2) 0)), (0, .ref (a 0)), (1, .int x1), (2, .int x2), (3, .int x3)]) dX6_twosRefusal_30 (Nat.le_of_ble_eq_true rfl) rfl ?_
      refine z_iload dX6_twosRefusal_32 rfl ?_
      refine z_if_eq (tgt := 40) dX6_twosRefusal_34 (by decide) (fun c6 => ?_) (fun c6 => ?_)
      · have hp := ip_t hp c6; have hv := it_t hv c6
        refine z_iload_n dX6_twosRefusal_40 rfl ?_
        refine z_if_ge (tgt := 46) dX6_twosRefusal_41 (by decide) (fun c7 => ?_) (fun c7 => ?_)
        · have hp := ip_t hp c7; have hv := it_t hv c7
          refine z_aload dX6_twosRefusal_46 rfl ?_
          refine z_iconst (v := 0) dX6_twosRefusal_48 rfl ?_
          refine z_ldc2 tw_l_RX6_323 dX6_twosRefusal_49 ?_
          refine z_iload_n dX6_twosRefusal_52 rfl ?_
          refine z_i2l dX6_twosRefusal_53 ?_
          refine z_lmul dX6_twosRefusal_54 ?_
          refine z_cvi (c_X5_spans G P (sh a (30 + 2 * r2)) (F r2) 0 (2 * x2.toInt64) ) zc_X5_spans zv_X5_spans tw_m_RX6_103 (zrec_of (fam_P (a := a) hr2 (sub_P hI [8, 9, 10, 11, 12, 13, 14, 15, 16, 17, 18, 19, 20, 21, 22, 23] rfl)) 0 rfl rfl) (fr_all (fam_P (a := a) hr2 (sub_P hI [8, 9, 10, 11, 12, 13, 14, 15, 16, 17, 18, 19, 20, 21, 22, 23] rfl)) hG) (zroom_of rfl) rfl (Nat.le_of_ble_eq_true rfl) dX6_twosRefusal_55 ?_
          refine z_if_ne (tgt := 63) dX6_twosRefusal_58 (by decide) (fun c8 => ?_) (fun c8 => ?_)
          · have hp := ip_f hp c8; have hv := it_f hv c8
            refine z_iload_n dX6_twosRefusal_63 rfl ?_
            refine z_bipush (v := 40) dX6_twosRefusal_64 rfl ?_
            refine z_icmp_le (tgt := 72) dX6_twosRefusal_66 (by decide) (fun c9 => ?_) (fun c9 => ?_)
            · have hp := ip_t hp c9; have hv := it_t hv c9
              refine z_iconst (v := 0) dX6_twosRefusal_72 rfl ?_
              refine z_istore (lv' := [(6, .int 0), (5, .int (v_X6_rowRefusal N F x1)), (4, .ref (sh a (30 + 2 * r2) 0)), (0, .ref (a 0)), (1, .int x1), (2, .int x2), (3, .int x3)]) dX6_twosRefusal_73 (Nat.le_of_ble_eq_true rfl) rfl ?_
              exact z_lv rfl ((w_X6_twosRefusal a N R F hF hQ 200) x2 r2 0 hr2 hp hv)
            · have hp := ip_f hp c9; have hv := it_f hv c9
              refine z_bipush (v := 6) dX6_twosRefusal_69 rfl ?_
              exact z_iret_S hQ rfl hv dX6_twosRefusal_71
          · have hp := ip_t hp c8; have hv := it_t hv c8
            refine z_iconst (v := 5) dX6_twosRefusal_61 rfl ?_
            exact z_iret_S hQ rfl hv dX6_twosRefusal_62
        · have hp := ip_f hp c7; have hv := it_f hv c7
          refine z_iconst (v := 4) dX6_twosRefusal_44 rfl ?_
          exact z_iret_S hQ rfl hv dX6_twosRefusal_45
      · have hp := ip_f hp c6; have hv := it_f hv c6
        refine z_iload dX6_twosRefusal_37 rfl ?_
        exact z_iret_S hQ rfl hv dX6_twosRefusal_39
    · have hp := ip_t hp c4; have hv := it_t hv c4
      refine z_iconst (v := 1) dX6_twosRefusal_23 rfl ?_
      exact z_iret_S hQ rfl hv dX6_twosRefusal_24
theorem dX6_fitting_0 : decode cX6_fitting 0 = .ok (.iconst 0, 1) := by decide +kernel
theorem dX6_fitting_1 : decode cX6_fitting 1 = .ok (.istore 4, 2) := by decide +kernel
theorem dX6_fitting_3 : decode cX6_fitting 3 = .ok (.iconst 0, 1) := by decide +kernel
theorem dX6_fitting_4 : decode cX6_fitting 4 = .ok (.istore 5, 2) := by decide +kernel
theorem dX6_fitting_6 : decode cX6_fitting 6 = .ok (.iload 5, 2) := by decide +kernel
theorem dX6_fitting_8 : decode cX6_fitting 8 = .ok (.bipush 30, 2) := by decide +kernel
theorem dX6_fitting_10 : decode cX6_fitting 10 = .ok (.if_icmp .gt 106, 3) := by decide +kernel
theorem dX6_fitting_13 : decode cX6_fitting 13 = .ok (.iconst 1, 1) := by decide +kernel
theorem dX6_fitting_14 : decode cX6_fitting 14 = .ok (.istore 6, 2) := by decide +kernel
theorem dX6_fitting_16 : decode cX6_fitting 16 = .ok (.iconst 0, 1) := by decide +kernel
theorem dX6_fitting_17 : decode cX6_fitting 17 = .ok (.istore 7, 2) := by decide +kernel
theorem dX6_fitting_19 : decode cX6_fitting 19 = .ok (.iload 7, 2) := by decide +kernel
theorem dX6_fitting_21 : decode cX6_fitting 21 = .ok (.iload_n 2, 1) := by decide +kernel
theorem dX6_fitting_22 : decode cX6_fitting 22 = .ok (.if_icmp .ge 74, 3) := by decide +kernel
theorem dX6_fitting_25 : decode cX6_fitting 25 = .ok (.iload 6, 2) := by decide +kernel
theorem dX6_fitting_27 : decode cX6_fitting 27 = .ok (.ifCond .eq 69, 3) := by decide +kernel
theorem dX6_fitting_30 : decode cX6_fitting 30 = .ok (.aload_n 0, 1) := by decide +kernel
theorem dX6_fitting_31 : decode cX6_fitting 31 = .ok (.getfield 10, 3) := by decide +kernel
theorem dX6_fitting_34 : decode cX6_fitting 34 = .ok (.iload_n 3, 1) := by decide +kernel
theorem dX6_fitting_35 : decode cX6_fitting 35 = .ok (.aload_n 1, 1) := by decide +kernel
theorem dX6_fitting_36 : decode cX6_fitting 36 = .ok (.iconst 2, 1) := by decide +kernel
theorem dX6_fitting_37 : decode cX6_fitting 37 = .ok (.iload 7, 2) := by decide +kernel
theorem dX6_fitting_39 : decode cX6_fitting 39 = .ok (.imul, 1) := by decide +kernel
theorem dX6_fitting_40 : decode cX6_fitting 40 = .ok (.invokevirtual 325, 3) := by decide +kernel
theorem dX6_fitting_43 : decode cX6_fitting 43 = .ok (.iload 5, 2) := by decide +kernel
theorem dX6_fitting_45 : decode cX6_fitting 45 = .ok (.invokevirtual 210, 3) := by decide +kernel
theorem dX6_fitting_48 : decode cX6_fitting 48 = .ok (.iconst (-1), 1) := by decide +kernel
theorem dX6_fitting_49 : decode cX6_fitting 49 = .ok (.if_icmp .eq 7, 3) := by decide +kernel
theorem dX6_fitting_52 : decode cX6_fitting 52 = .ok (.iconst 1, 1) := by decide +kernel
theorem dX6_fitting_53 : decode cX6_fitting 53 = .ok (.goto 4, 3) := by decide +kernel
theorem dX6_fitting_56 : decode cX6_fitting 56 = .ok (.iconst 0, 1) := by decide +kernel
theorem dX6_fitting_57 : decode cX6_fitting 57 = .ok (.istore 8, 2) := by decide +kernel
theorem dX6_fitting_59 : decode cX6_fitting 59 = .ok (.iload 8, 2) := by decide +kernel
theorem dX6_fitting_61 : decode cX6_fitting 61 = .ok (.aload_n 1, 1) := by decide +kernel
theorem dX6_fitting_62 : decode cX6_fitting 62 = .ok (.iconst 2, 1) := by decide +kernel
theorem dX6_fitting_63 : decode cX6_fitting 63 = .ok (.iload 7, 2) := by decide +kernel
theorem dX6_fitting_65 : decode cX6_fitting 65 = .ok (.imul, 1) := by decide +kernel
theorem dX6_fitting_66 : decode cX6_fitting 66 = .ok (.iconst 1, 1) := by decide +kernel
theorem dX6_fitting_67 : decode cX6_fitting 67 = .ok (.iadd, 1) := by decide +kernel
theorem dX6_fitting_68 : decode cX6_fitting 68 = .ok (.invokevirtual 325, 3) := by decide +kernel
theorem dX6_fitting_71 : decode cX6_fitting 71 = .ok (.iconst 1, 1) := by decide +kernel
theorem dX6_fitting_72 : decode cX6_fitting 72 = .ok (.if_icmp .ne 7, 3) := by decide +kernel
theorem dX6_fitting_75 : decode cX6_fitting 75 = .ok (.iconst 1, 1) := by decide +kernel
theorem dX6_fitting_76 : decode cX6_fitting 76 = .ok (.goto 4, 3) := by decide +kernel
theorem dX6_fitting_79 : decode cX6_fitting 79 = .ok (.iconst 0, 1) := by decide +kernel
theorem dX6_fitting_80 : decode cX6_fitting 80 = .ok (.if_icmp .ne 7, 3) := by decide +kernel
theorem dX6_fitting_83 : decode cX6_fitting 83 = .ok (.iconst 1, 1) := by decide +kernel
theorem dX6_fitting_84 : decode cX6_fitting 84 = .ok (.goto 4, 3) := by decide +kernel
theorem dX6_fitting_87 : decode cX6_fitting 87 = .ok (.iconst 0, 1) := by decide +kernel
theorem dX6_fitting_88 : decode cX6_fitting 88 = .ok (.istore 6, 2) := by decide +kernel
theorem dX6_fitting_90 : decode cX6_fitting 90 = .ok (.iinc 7 1, 3) := by decide +kernel
theorem dX6_fitting_93 : decode cX6_fitting 93 = .ok (.goto (-74), 3) := by decide +kernel
theorem dX6_fitting_96 : decode cX6_fitting 96 = .ok (.iload 6, 2) := by decide +kernel
theorem dX6_fitting_98 : decode cX6_fitting 98 = .ok (.ifCond .eq 12, 3) := by decide +kernel
theorem dX6_fitting_101 : decode cX6_fitting 101 = .ok (.iload 4, 2) := by decide +kernel
theorem dX6_fitting_103 : decode cX6_fitting 103 = .ok (.iconst 1, 1) := by decide +kernel
theorem dX6_fitting_104 : decode cX6_fitting 104 = .ok (.iload 5, 2) := by decide +kernel
theorem dX6_fitting_106 : decode cX6_fitting 106 = .ok (.ishl, 1) := by decide +kernel
theorem dX6_fitting_107 : decode cX6_fitting 107 = .ok (.ior, 1) := by decide +kernel
theorem dX6_fitting_108 : decode cX6_fitting 108 = .ok (.istore 4, 2) := by decide +kernel
theorem dX6_fitting_110 : decode cX6_fitting 110 = .ok (.iinc 5 1, 3) := by decide +kernel
theorem dX6_fitting_113 : decode cX6_fitting 113 = .ok (.goto (-107), 3) := by decide +kernel
theorem dX6_fitting_116 : decode cX6_fitting 116 = .ok (.iload 4, 2) := by decide +kernel
theorem dX6_fitting_118 : decode cX6_fitting 118 = .ok (.ireturn, 1) := by decide +kernel
abbrev k_X6_fitting : zK := (cX6_fitting, 9, RX6, (some .int), ({ frames := 4, cells := 0, slots := 0, locals := 89 } : Room))
theorem zc_X6_fitting : zcal yX6_fitting k_X6_fitting.1 k_X6_fitting.2.1 k_X6_fitting.2.2.2.1 3 := ⟨tw_code_yX6_fitting, tw_i_TollForHesitators, ⟨by decide +kernel, by decide +kernel⟩, by decide +kernel⟩
theorem zv_X6_fitting : Cond.instanceMethod yX6_fitting ∈ TS ∧ Cond.selects RX6 yX6_fitting yX6_fitting ∈ TS := ⟨tw_inst_yX6_fitting, tw_s_yX6_fitting⟩
def v_X6_fitting_r (P : pT) (N : nT) (R : rT) (S : sT) : Nat → Nat → Int32 → Int32 → Int32 → Int32 → Int32 → Int32 → Int32
  | 0, _, _, _, _, _, _, _ => 0
  | n + 1, l, v2, v3, v4, v5, v6, v7 => if l = 0 then if 30 < v5 then v4 else v_X6_fitting_r P N R S n 1 v2 v3 v4 v5 1 0 else if v2 ≤ v7 then v_X6_fitting_r P N R S n 0 v2 v3 (if v6 = 0 then v4 else v4 ||| (1 <<< (v5 &&& 31))) (v5 + 1) 0 0 else if v6 = 0 then v_X6_fitting_r P N R S n 0 v2 v3 (if v6 = 0 then v4 else v4 ||| (1 <<< (v5 &&& 31))) (v5 + 1) 0 0 else kk (if (v_X4_slowAlone P R v3 (v_X5_intAt S (2 * v7)) v5) = (-1) then (0 : Int32) else 1) (fun m30 : Int32 => kk (if m30 = (if (v_X5_intAt S ((2 * v7) + 1)) = 1 then (1 : Int32) else 0) then (1 : Int32) else 0) (fun m35 : Int32 => v_X6_fitting_r P N R S n 1 v2 v3 v4 v5 m35 (v7 + 1)))
def p_X6_fitting_r (P : pT) (N : nT) (R : rT) (S : sT) : Nat → Nat → Int32 → Int32 → Int32 → Int32 → Int32 → Int32 → Prop
  | 0, _, _, _, _, _, _, _ => False
  | n + 1, l, v2, v3, v4, v5, v6, v7 => if l = 0 then if 30 < v5 then True else p_X6_fitting_r P N R S n 1 v2 v3 v4 v5 1 0 else if v2 ≤ v7 then p_X6_fitting_r P N R S n 0 v2 v3 (if v6 = 0 then v4 else v4 ||| (1 <<< (v5 &&& 31))) (v5 + 1) 0 0 else if v6 = 0 then p_X6_fitting_r P N R S n 0 v2 v3 (if v6 = 0 then v4 else v4 ||| (1 <<< (v5 &&& 31))) (v5 + 1) 0 0 else (p_X5_intAt S (2 * v7)) ∧ ((p_X4_slowAlone P R v3 (v_X5_intAt S (2 * v7)) v5) ∧ (kk (if (v_X4_slowAlone P R v3 (v_X5_intAt S (2 * v7)) v5) = (-1) then (0 : Int32) else 1) (fun m30 : Int32 => (p_X5_intAt S ((2 * v7) + 1)) ∧ (kk (if m30 = (if (v_X5_intAt S ((2 * v7) + 1)) = 1 then (1 : Int32) else 0) then (1 : Int32) else 0) (fun m35 : Int32 => p_X6_fitting_r P N R S n 1 v2 v3 v4 v5 m35 (v7 + 1))))))
def v_X6_fitting (P : pT) (N : nT) (R : rT) (S : sT) (x2 : Int32) (x3 : Int32) : Int32 := v_X6_fitting_r P N R S 2000 0 x2 x3 0 0 0 0
def p_X6_fitting (P : pT) (N : nT) (R : rT) (S : sT) (x2 : Int32) (x3 : Int32) : Prop := p_X6_fitting_r P N R S 2000 0 x2 x3 0 0 0 0
set_option maxHeartbeats 800000 in
theorem w_X6_fitting {G : zG} {P : pT} {Γ : zT} {res : Int32} (a : Nat → Nat) (c : Nat → Nat) (N : nT) (R : rT) (S : sT) (hF : Fr G P (maW G a N ++ rdW G (sh a 10) R ++ shW G c S) Γ.2.2.1.1.heap) (hQ : zQ Γ (vp_Si (fun r => r = res)) 0 0 (fun _ => False)) : ∀ n : Nat, (∀ (v2 : Int32) (v3 : Int32) (v4 : Int32) (v5 : Int32) (v6 : Int32) (v7 : Int32), p_X6_fitting_r P N R S n 0 v2 v3 v4 v5 v6 v7 → v_X6_fitting_r P N R S n 0 v2 v3 v4 v5 v6 v7 = res → Z k_X6_fitting G Γ (rd Γ.2.2.1.1.heap) 0 0 [(0, .ref (a 0)), (1, .ref (c 0)), (2, .int v2), (3, .int v3), (4, .int v4), (5, .int v5)] 6 []) ∧ (∀ (v2 : Int32) (v3 : Int32) (v4 : Int32) (v5 : Int32) (v6 : Int32) (v7 : Int32), p_X6_fitting_r P N R S n 1 v2 v3 v4 v5 v6 v7 → v_X6_fitting_r P N R S n 1 v2 v3 v4 v5 v6 v7 = res → Z k_X6_fitting G Γ (rd Γ.2.2.1.1.heap) 0 0 [(0, .ref (a 0)), (1, .ref (c 0)), (2, .int v2), (3, .int v3), (4, .int v4), (5, .int v5), (6, .int v6), (7, .int v7)] 19 []) := by
  have hI := rd_P (G := G) hF.1
  have hG := rd_F hF.2
  intro n
  induction n with
  | zero => exact ⟨fun v2 v3 v4 v5 v6 v7 hp => absurd hp (by rw [p_X6_fitting_r]; exact not_false), fun v2 v3 v4 v5 v6 v7 hp => absurd hp (by rw [p_X6_fitting_r]; exact not_false)⟩
  | succ n ih =>
    refine ⟨?_, ?_⟩
    · intro v2 v3 v4 v5 v6 v7 hp hv
      rw [p_X6_fitting_r] at hp
      rw [v_X6_fitting_r] at hv
      have hp := ip_t hp rfl
      have hv := it_t hv rfl
      refine z_iload dX6_fitting_6 rfl ?_
      refine z_bipush (v := 30) dX6_fitting_8 rfl ?_
      refine z_icmp_gt (tgt := 116) dX6_fitting_10 (by decide) (fun c1 => ?_) (fun c1 => ?_)
      · have hp := ip_t hp c1; have hv := it_t hv c1
        refine z_iload dX6_fitting_116 rfl ?_
        exact z_iret_S hQ rfl hv dX6_fitting_118
      · have hp := ip_f hp c1; have hv := it_f hv c1
        refine z_iconst (v := 1) dX6_fitting_13 rfl ?_
        refine z_istore (lv' := [(6, .int 1), (0, .ref (a 0)), (1, .ref (c 0)), (2, .int v2), (3, .int v3), (4, .int v4), (5, .int v5)]) dX6_fitting_14 (Nat.le_of_ble_eq_true rfl) rfl ?_
        refine z_iconst (v := 0) dX6_fitting_16 rfl ?_
        refine z_istore (lv' := [(7, .int 0), (6, .int 1), (0, .ref (a 0)), (1, .ref (c 0)), (2, .int v2), (3, .int v3), (4, .int v4), (5, .int v5)]) dX6_fitting_17 (Nat.le_of_ble_eq_true rfl) rfl ?_
        exact z_lv rfl ((ih).2 v2 v3 v4 v5 1 0 hp hv)
    · intro v2 v3 v4 v5 v6 v7 hp hv
      rw [p_X6_fitting_r] at hp
      rw [v_X6_fitting_r] at hv
      have hp := ip_f hp (by decide)
      have hv := it_f hv (by decide)
      refine z_iload dX6_fitting_19 rfl ?_
      refine z_iload_n dX6_fitting_21 rfl ?_
      refine z_icmp_ge (tgt := 96) dX6_fitting_22 (by decide) (fun c2 => ?_) (fun c2 => ?_)
      · have hp := ip_t hp c2; have hv := it_t hv c2
        refine z_iload dX6_fitting_96 rfl ?_
        have J36 : ∀ m14 : Int32, m14 = (if v6 = 0 then v4 else v4 ||| (1 <<< (v5 &&& 31))) → Z k_X6_fitting G Γ (rd Γ.2.2.1.1.heap) 0 0 [(0, .ref (a 0)), (1, .ref (c 0)), (2, .int v2), (3, .int v3), (4, .int m14), (5, .int v5), (6, .int v6), (7, .int v7)] 110 [] := by
          intro m14 em14
          rewrite [em14]; clear em14
          refine z_iinc (v := v5 + 1) (lv' := [(5, .int (v5 + 1)), (0, .ref (a 0)), (1, .ref (c 0)), (2, .int v2), (3, .int v3), (4, .int (if v6 = 0 then v4 else v4 ||| (1 <<< (v5 &&& 31)))), (6, .int v6), (7, .int v7)]) dX6_fitting_110 5 rfl rfl (Nat.le_of_ble_eq_true rfl) rfl ?_
          refine z_goto (tgt := 6) dX6_fitting_113 (by decide) ?_
          exact z_lv rfl ((ih).1 v2 v3 (if v6 = 0 then v4 else v4 ||| (1 <<< (v5 &&& 31))) (v5 + 1) 0 0 hp hv)
        refine z_if_eq (tgt := 110) dX6_fitting_98 (by decide) (fun c13 => ?_) (fun c13 => ?_)
        · skip
          exact z_lv rfl (J36 _ (if_pos c13).symm)
        · skip
          refine z_iload dX6_fitting_101 rfl ?_
          refine z_iconst (v := 1) dX6_fitting_103 rfl ?_
          refine z_iload dX6_fitting_104 rfl ?_
          refine z_ishl dX6_fitting_106 ?_
          refine z_ior dX6_fitting_107 ?_
          refine z_istore (lv' := [(4, .int (v4 ||| (1 <<< (v5 &&& 31)))), (0, .ref (a 0)), (1, .ref (c 0)), (2, .int v2), (3, .int v3), (5, .int v5), (6, .int v6), (7, .int v7)]) dX6_fitting_108 (Nat.le_of_ble_eq_true rfl) rfl ?_
          exact z_lv rfl (J36 _ (if_neg c13).symm)
      · have hp := ip_f hp c2; have hv := it_f hv c2
        refine z_iload dX6_fitting_25 rfl ?_
        refine z_if_eq (tgt := 96) dX6_fitting_27 (by decide) (fun c15 => ?_) (fun c15 => ?_)
        · have hp := ip_t hp c15; have hv := it_t hv c15
          refine z_iload dX6_fitting_96 rfl ?_
          have J37 : ∀ m26 : Int32, m26 = (if v6 = 0 then v4 else v4 ||| (1 <<< (v5 &&& 31))) → Z k_X6_fitting G Γ (rd Γ.2.2.1.1.heap) 0 0 [(0, .ref (a 0)), (1, .ref (c 0)), (2, .int v2), (3, .int v3), (4, .int m26), (5, .int v5), (6, .int v6), (7, .int v7)] 110 [] := by
            intro m26 em26
            rewrite [em26]; clear em26
            refine z_iinc (v := v5 + 1) (lv' := [(5, .int (v5 + 1)), (0, .ref (a 0)), (1, .ref (c 0)), (2, .int v2), (3, .int v3), (4, .int (if v6 = 0 then v4 else v4 ||| (1 <<< (v5 &&& 31)))), (6, .int v6), (7, .int v7)]) dX6_fitting_110 5 rfl rfl (Nat.le_of_ble_eq_true rfl) rfl ?_
            refine z_goto (tgt := 6) dX6_fitting_113 (by decide) ?_
            exact z_lv rfl ((ih).1 v2 v3 (if v6 = 0 then v4 else v4 ||| (1 <<< (v5 &&& 31))) (v5 + 1) 0 0 hp hv)
          refine z_if_eq (tgt := 110) dX6_fitting_98 (by decide) (fun c25 => ?_) (fun c25 => ?_)
          · skip
            exact z_lv rfl (J37 _ (if_pos c25).symm)
          · skip
            refine z_iload dX6_fitting_101 rfl ?_
            refine z_iconst (v := 1) dX6_fitting_103 rfl ?_
            refine z_iload dX6_fitting_104 rfl ?_
            refine z_ishl dX6_fitting_106 ?_
            refine z_ior dX6_fitting_107 ?_
            refine z_istore (lv' := [(4, .int (v4 ||| (1 <<< (v5 &&& 31)))), (0, .ref (a 0)), (1, .ref (c 0)), (2, .int v2), (3, .int v3), (5, .int v5), (6, .int v6), (7, .int v7)]) dX6_fitting_108 (Nat.le_of_ble_eq_true rfl) rfl ?_
            exact z_lv rfl (J37 _ (if_neg c25).symm)
        · have hp := ip_f hp c15; have hv := it_f hv c15
          refine z_aload_n dX6_fitting_30 rfl ?_
          refine z_get (v := .ref ((sh a 10) 0)) hI 0 rfl rfl uin_X6 0 (Nat.le_of_ble_eq_true rfl) tw_f_RX6_10 rfl rfl dX6_fitting_31 ?_
          refine z_iload_n dX6_fitting_34 rfl ?_
          refine z_aload_n dX6_fitting_35 rfl ?_
          refine z_iconst (v := 2) dX6_fitting_36 rfl ?_
          refine z_iload dX6_fitting_37 rfl ?_
          refine z_imul dX6_fitting_39 ?_
          obtain ⟨q27, hp⟩ := hp
          refine z_cvi (c_X5_intAt G P c S (2 * v7) q27) zc_X5_intAt zv_X5_intAt tw_m_RX6_325 (zrec_of hI 8 rfl rfl) (fr_all (sub_P hI [8, 9] rfl) hG) (zroom_of rfl) rfl (Nat.le_of_ble_eq_true rfl) dX6_fitting_40 ?_
          refine z_iload dX6_fitting_43 rfl ?_
          obtain ⟨q28, hp⟩ := hp
          refine z_cvi (c_X4_slowAlone G P (sh a 10) R v3 (v_X5_intAt S (2 * v7)) v5 q28) zc_X4_slowAlone zv_X4_slowAlone tw_m_RX6_210 (zrec_of hI 3 rfl rfl) (fr_all (sub_P hI [3, 4, 5, 6, 7] rfl) hG) (zroom_of rfl) rfl (Nat.le_of_ble_eq_true rfl) dX6_fitting_45 ?_
          refine z_iconst (v := (-1)) dX6_fitting_48 rfl ?_
          have J38 : ∀ m30 : Int32, m30 = (if (v_X4_slowAlone P R v3 (v_X5_intAt S (2 * v7)) v5) = (-1) then (0 : Int32) else 1) → Z k_X6_fitting G Γ (rd Γ.2.2.1.1.heap) 0 0 [(0, .ref (a 0)), (1, .ref (c 0)), (2, .int v2), (3, .int v3), (4, .int v4), (5, .int v5), (6, .int v6), (7, .int v7)] 57 [.int m30] := by
            intro m30 em30
            have hp := kk_pq hp em30
            have hv := kk_vq hv em30
            clear em30
            refine z_istore (lv' := [(8, .int m30), (0, .ref (a 0)), (1, .ref (c 0)), (2, .int v2), (3, .int v3), (4, .int v4), (5, .int v5), (6, .int v6), (7, .int v7)]) dX6_fitting_57 (Nat.le_of_ble_eq_true rfl) rfl ?_
            refine z_iload dX6_fitting_59 rfl ?_
            refine z_aload_n dX6_fitting_61 rfl ?_
            refine z_iconst (v := 2) dX6_fitting_62 rfl ?_
            refine z_iload dX6_fitting_63 rfl ?_
            refine z_imul dX6_fitting_65 ?_
            refine z_iconst (v := 1) dX6_fitting_66 rfl ?_
            refine z_iadd dX6_fitting_67 ?_
            obtain ⟨q31, hp⟩ := hp
            refine z_cvi (c_X5_intAt G P c S ((2 * v7) + 1) q31) zc_X5_intAt zv_X5_intAt tw_m_RX6_325 (zrec_of hI 8 rfl rfl) (fr_all (sub_P hI [8, 9] rfl) hG) (zroom_of rfl) rfl (Nat.le_of_ble_eq_true rfl) dX6_fitting_68 ?_
            refine z_iconst (v := 1) dX6_fitting_71 rfl ?_
            have J39 : ∀ m33 : Int32, m33 = (if (v_X5_intAt S ((2 * v7) + 1)) = 1 then (1 : Int32) else 0) → Z k_X6_fitting G Γ (rd Γ.2.2.1.1.heap) 0 0 [(8, .int m30), (0, .ref (a 0)), (1, .ref (c 0)), (2, .int v2), (3, .int v3), (4, .int v4), (5, .int v5), (6, .int v6), (7, .int v7)] 80 [.int m33, .int m30] := by
              intro m33 em33
              rewrite [em33]; clear em33
              have J40 : ∀ m35 : Int32, m35 = (if m30 = (if (v_X5_intAt S ((2 * v7) + 1)) = 1 then (1 : Int32) else 0) then (1 : Int32) else 0) → Z k_X6_fitting G Γ (rd Γ.2.2.1.1.heap) 0 0 [(8, .int m30), (0, .ref (a 0)), (1, .ref (c 0)), (2, .int v2), (3, .int v3), (4, .int v4), (5, .int v5), (6, .int v6), (7, .int v7)] 88 [.int m35] := by
                intro m35 em35
                have hp := kk_pq hp em35
                have hv := kk_vq hv em35
                clear em35
                refine z_istore (lv' := [(6, .int m35), (8, .int m30), (0, .ref (a 0)), (1, .ref (c 0)), (2, .int v2), (3, .int v3), (4, .int v4), (5, .int v5), (7, .int v7)]) dX6_fitting_88 (Nat.le_of_ble_eq_true rfl) rfl ?_
                refine z_iinc (v := v7 + 1) (lv' := [(7, .int (v7 + 1)), (6, .int m35), (8, .int m30), (0, .ref (a 0)), (1, .ref (c 0)), (2, .int v2), (3, .int v3), (4, .int v4), (5, .int v5)]) dX6_fitting_90 8 rfl rfl (Nat.le_of_ble_eq_true rfl) rfl ?_
                refine z_goto (tgt := 19) dX6_fitting_93 (by decide) ?_
                exact z_lv rfl ((ih).2 v2 v3 v4 v5 m35 (v7 + 1) hp hv)
              refine z_icmp_ne (tgt := 87) dX6_fitting_80 (by decide) (fun c34 => ?_) (fun c34 => ?_)
              · skip
                refine z_iconst (v := 0) dX6_fitting_87 rfl ?_
                exact z_lv rfl (J40 _ (if_neg c34).symm)
              · skip
                refine z_iconst (v := 1) dX6_fitting_83 rfl ?_
                refine z_goto (tgt := 88) dX6_fitting_84 (by decide) ?_
                exact z_lv rfl (J40 _ (if_pos c34).symm)
            refine z_icmp_ne (tgt := 79) dX6_fitting_72 (by decide) (fun c32 => ?_) (fun c32 => ?_)
            · skip
              refine z_iconst (v := 0) dX6_fitting_79 rfl ?_
              exact z_lv rfl (J39 _ (if_neg c32).symm)
            · skip
              refine z_iconst (v := 1) dX6_fitting_75 rfl ?_
              refine z_goto (tgt := 80) dX6_fitting_76 (by decide) ?_
              exact z_lv rfl (J39 _ (if_pos c32).symm)
          refine z_icmp_eq (tgt := 56) dX6_fitting_49 (by decide) (fun c29 => ?_) (fun c29 => ?_)
          · skip
            refine z_iconst (v := 0) dX6_fitting_56 rfl ?_
            exact z_lv rfl (J38 _ (if_pos c29).symm)
          · skip
            refine z_iconst (v := 1) dX6_fitting_52 rfl ?_
            refine z_goto (tgt := 57) dX6_fitting_53 (by decide) ?_
            exact z_lv rfl (J38 _ (if_neg c29).symm)
set_option maxHeartbeats 800000 in
theorem c_X6_fitting {l : Launch} (G : zG) (P : pT) (a : Nat → Nat) (c : Nat → Nat) (N : nT) (R : rT) (S : sT) (x2 : Int32) (x3 : Int32) (hp : p_X6_fitting P N R S x2 x3) : Met l yX6_fitting (.code yX6_fitting k_X6_fitting.1 k_X6_fitting.2.1 k_X6_fitting.2.2.2.1 :: TS) k_X6_fitting.2.2.2.2 (Pz G [.ref (a 0), .ref (c 0), .int x2, .int x3] (Fr G P (maW G a N ++ rdW G (sh a 10) R ++ shW G c S))) (vp_Si (fun r => r = v_X6_fitting P N R S x2 x3)) 0 0 (fun _ => False) := by
  refine zmet (K := k_X6_fitting) (by decide +kernel) rfl rfl (fun Γ hl0 hQ hN hF => ?_)
  have hI := rd_P (G := G) hF.1
  have hG := rd_F hF.2
  obtain ⟨res, hv⟩ : ∃ res, v_X6_fitting P N R S x2 x3 = res := ⟨_, rfl⟩
  rw [hv] at hQ
  unfold v_X6_fitting at hv
  unfold p_X6_fitting at hp
  show Z k_X6_fitting G Γ _ 0 0 [(0, .ref (a 0)), (1, .ref (c 0)), (2, .int x2), (3, .int x3)] 0 []
  refine z_iconst (v := 0) dX6_fitting_0 rfl ?_
  refine z_istore (lv' := [(4, .int 0), (0, .ref (a 0)), (1, .ref (c 0)), (2, .int x2), (3, .int x3)]) dX6_fitting_1 (Nat.le_of_ble_eq_true rfl) rfl ?_
  refine z_iconst (v := 0) dX6_fitting_3 rfl ?_
  refine z_istore (lv' := [(5, .int 0), (4, .int 0), (0, .ref (a 0)), (1, .ref (c 0)), (2, .int x2), (3, .int x3)]) dX6_fitting_4 (Nat.le_of_ble_eq_true rfl) rfl ?_
  exact z_lv rfl ((w_X6_fitting a c N R S hF hQ 2000).1 x2 x3 0 0 0 0 hp hv)
theorem dX6_slowAmong_0 : decode cX6_slowAmong 0 = .ok (.iconst 0, 1) := by decide +kernel
theorem dX6_slowAmong_1 : decode cX6_slowAmong 1 = .ok (.istore 4, 2) := by decide +kernel
theorem dX6_slowAmong_3 : decode cX6_slowAmong 3 = .ok (.iconst 0, 1) := by decide +kernel
theorem dX6_slowAmong_4 : decode cX6_slowAmong 4 = .ok (.istore 5, 2) := by decide +kernel
theorem dX6_slowAmong_6 : decode cX6_slowAmong 6 = .ok (.iload 5, 2) := by decide +kernel
theorem dX6_slowAmong_8 : decode cX6_slowAmong 8 = .ok (.bipush 30, 2) := by decide +kernel
theorem dX6_slowAmong_10 : decode cX6_slowAmong 10 = .ok (.if_icmp .gt 36, 3) := by decide +kernel
theorem dX6_slowAmong_13 : decode cX6_slowAmong 13 = .ok (.iload_n 1, 1) := by decide +kernel
theorem dX6_slowAmong_14 : decode cX6_slowAmong 14 = .ok (.iload 5, 2) := by decide +kernel
theorem dX6_slowAmong_16 : decode cX6_slowAmong 16 = .ok (.ishr, 1) := by decide +kernel
theorem dX6_slowAmong_17 : decode cX6_slowAmong 17 = .ok (.iconst 1, 1) := by decide +kernel
theorem dX6_slowAmong_18 : decode cX6_slowAmong 18 = .ok (.iand, 1) := by decide +kernel
theorem dX6_slowAmong_19 : decode cX6_slowAmong 19 = .ok (.ifCond .eq 21, 3) := by decide +kernel
theorem dX6_slowAmong_22 : decode cX6_slowAmong 22 = .ok (.aload_n 0, 1) := by decide +kernel
theorem dX6_slowAmong_23 : decode cX6_slowAmong 23 = .ok (.getfield 10, 3) := by decide +kernel
theorem dX6_slowAmong_26 : decode cX6_slowAmong 26 = .ok (.iload_n 2, 1) := by decide +kernel
theorem dX6_slowAmong_27 : decode cX6_slowAmong 27 = .ok (.iload_n 3, 1) := by decide +kernel
theorem dX6_slowAmong_28 : decode cX6_slowAmong 28 = .ok (.iload 5, 2) := by decide +kernel
theorem dX6_slowAmong_30 : decode cX6_slowAmong 30 = .ok (.invokevirtual 210, 3) := by decide +kernel
theorem dX6_slowAmong_33 : decode cX6_slowAmong 33 = .ok (.iconst (-1), 1) := by decide +kernel
theorem dX6_slowAmong_34 : decode cX6_slowAmong 34 = .ok (.if_icmp .eq 6, 3) := by decide +kernel
theorem dX6_slowAmong_37 : decode cX6_slowAmong 37 = .ok (.iinc 4 1, 3) := by decide +kernel
theorem dX6_slowAmong_40 : decode cX6_slowAmong 40 = .ok (.iinc 5 1, 3) := by decide +kernel
theorem dX6_slowAmong_43 : decode cX6_slowAmong 43 = .ok (.goto (-37), 3) := by decide +kernel
theorem dX6_slowAmong_46 : decode cX6_slowAmong 46 = .ok (.iload 4, 2) := by decide +kernel
theorem dX6_slowAmong_48 : decode cX6_slowAmong 48 = .ok (.ireturn, 1) := by decide +kernel
abbrev k_X6_slowAmong : zK := (cX6_slowAmong, 6, RX6, (some .int), ({ frames := 4, cells := 0, slots := 0, locals := 89 } : Room))
theorem zc_X6_slowAmong : zcal yX6_slowAmong k_X6_slowAmong.1 k_X6_slowAmong.2.1 k_X6_slowAmong.2.2.2.1 3 := ⟨tw_code_yX6_slowAmong, tw_i_TollForHesitators, ⟨by decide +kernel, by decide +kernel⟩, by decide +kernel⟩
theorem zv_X6_slowAmong : Cond.instanceMethod yX6_slowAmong ∈ TS ∧ Cond.selects RX6 yX6_slowAmong yX6_slowAmong ∈ TS := ⟨tw_inst_yX6_slowAmong, tw_s_yX6_slowAmong⟩
def v_X6_slowAmong_r (P : pT) (N : nT) (R : rT) : Nat → Int32 → Int32 → Int32 → Int32 → Int32 → Int32
  | 0, _, _, _, _, _ => 0
  | n + 1, v1, v2, v3, v4, v5 => if 30 < v5 then v4 else kk (if ((v1 >>> (v5 &&& 31)) &&& 1) = 0 then v4 else (if (v_X4_slowAlone P R v2 v3 v5) = (-1) then v4 else v4 + 1)) (fun m11 : Int32 => v_X6_slowAmong_r P N R n v1 v2 v3 m11 (v5 + 1))
def p_X6_slowAmong_r (P : pT) (N : nT) (R : rT) : Nat → Int32 → Int32 → Int32 → Int32 → Int32 → Prop
  | 0, _, _, _, _, _ => False
  | n + 1, v1, v2, v3, v4, v5 => if 30 < v5 then True else (if ((v1 >>> (v5 &&& 31)) &&& 1) = 0 then True else p_X4_slowAlone P R v2 v3 v5) ∧ (kk (if ((v1 >>> (v5 &&& 31)) &&& 1) = 0 then v4 else (if (v_X4_slowAlone P R v2 v3 v5) = (-1) then v4 else v4 + 1)) (fun m11 : Int32 => p_X6_slowAmong_r P N R n v1 v2 v3 m11 (v5 + 1)))
def v_X6_slowAmong (P : pT) (N : nT) (R : rT) (x1 : Int32) (x2 : Int32) (x3 : Int32) : Int32 := v_X6_slowAmong_r P N R 200 x1 x2 x3 0 0
def p_X6_slowAmong (P : pT) (N : nT) (R : rT) (x1 : Int32) (x2 : Int32) (x3 : Int32) : Prop := p_X6_slowAmong_r P N R 200 x1 x2 x3 0 0
set_option maxHeartbeats 800000 in
theorem w_X6_slowAmong {G : zG} {P : pT} {Γ : zT} {res : Int32} (a : Nat → Nat) (N : nT) (R : rT) (hF : Fr G P (maW G a N ++ rdW G (sh a 10) R) Γ.2.2.1.1.heap) (hQ : zQ Γ (vp_Si (fun r => r = res)) 0 0 (fun _ => False)) : ∀ n : Nat, (∀ (v1 : Int32) (v2 : Int32) (v3 : Int32) (v4 : Int32) (v5 : Int32), p_X6_slowAmong_r P N R n v1 v2 v3 v4 v5 → v_X6_slowAmong_r P N R n v1 v2 v3 v4 v5 = res → Z k_X6_slowAmong G Γ (rd Γ.2.2.1.1.heap) 0 0 [(0, .ref (a 0)), (1, .int v1), (2, .int v2), (3, .int v3), (4, .int v4), (5, .int v5)] 6 []) := by
  have hI := rd_P (G := G) hF.1
  have hG := rd_F hF.2
  intro n
  induction n with
  | zero => exact fun v1 v2 v3 v4 v5 hp => absurd hp (by rw [p_X6_slowAmong_r]; exact not_false)
  | succ n ih =>
    intro v1 v2 v3 v4 v5 hp hv
    rw [p_X6_slowAmong_r] at hp
    rw [v_X6_slowAmong_r] at hv
    refine z_iload dX6_slowAmong_6 rfl ?_
    refine z_bipush (v := 30) dX6_slowAmong_8 rfl ?_
    refine z_icmp_gt (tgt := 46) dX6_slowAmong_10 (by decide) (fun c1 => ?_) (fun c1 => ?_)
    · have hp := ip_t hp c1; have hv := it_t hv c1
      refine z_iload dX6_slowAmong_46 rfl ?_
      exact z_iret_S hQ rfl hv dX6_slowAmong_48
    · have hp := ip_f hp c1; have hv := it_f hv c1
      refine z_iload_n dX6_slowAmong_13 rfl ?_
      refine z_iload dX6_slowAmong_14 rfl ?_
      refine z_ishr dX6_slowAmong_16 ?_
      refine z_iconst (v := 1) dX6_slowAmong_17 rfl ?_
      refine z_iand dX6_slowAmong_18 ?_
      obtain ⟨hpm, hp⟩ := hp
      have J12 : ∀ m11 : Int32, m11 = (if ((v1 >>> (v5 &&& 31)) &&& 1) = 0 then v4 else (if (v_X4_slowAlone P R v2 v3 v5) = (-1) then v4 else v4 + 1)) → Z k_X6_slowAmong G Γ (rd Γ.2.2.1.1.heap) 0 0 [(0, .ref (a 0)), (1, .int v1), (2, .int v2), (3, .int v3), (4, .int m11), (5, .int v5)] 40 [] := by
        intro m11 em11
        have hp := kk_pq hp em11
        have hv := kk_vq hv em11
        clear em11
        refine z_iinc (v := v5 + 1) (lv' := [(5, .int (v5 + 1)), (0, .ref (a 0)), (1, .int v1), (2, .int v2), (3, .int v3), (4, .int m11)]) dX6_slowAmong_40 5 rfl rfl (Nat.le_of_ble_eq_true rfl) rfl ?_
        refine z_goto (tgt := 6) dX6_slowAmong_43 (by decide) ?_
        exact z_lv rfl ((ih) v1 v2 v3 m11 (v5 + 1) hp hv)
      refine z_if_eq (tgt := 40) dX6_slowAmong_19 (by decide) (fun c7 => ?_) (fun c7 => ?_)
      · have hp := ip_t hpm c7
        exact z_lv rfl (J12 _ (if_pos c7).symm)
      · have hp := ip_f hpm c7
        refine z_aload_n dX6_slowAmong_22 rfl ?_
        refine z_get (v := .ref ((sh a 10) 0)) hI 0 rfl rfl uin_X6 0 (Nat.le_of_ble_eq_true rfl) tw_f_RX6_10 rfl rfl dX6_slowAmong_23 ?_
        refine z_iload_n dX6_slowAmong_26 rfl ?_
        refine z_iload_n dX6_slowAmong_27 rfl ?_
        refine z_iload dX6_slowAmong_28 rfl ?_
        have q8 := hp
        refine z_cvi (c_X4_slowAlone G P (sh a 10) R v2 v3 v5 q8) zc_X4_slowAlone zv_X4_slowAlone tw_m_RX6_210 (zrec_of hI 3 rfl rfl) (fr_all (sub_P hI [3, 4, 5, 6, 7] rfl) hG) (zroom_of rfl) rfl (Nat.le_of_ble_eq_true rfl) dX6_slowAmong_30 ?_
        refine z_iconst (v := (-1)) dX6_slowAmong_33 rfl ?_
        have J13 : ∀ m10 : Int32, m10 = (if (v_X4_slowAlone P R v2 v3 v5) = (-1) then v4 else v4 + 1) → Z k_X6_slowAmong G Γ (rd Γ.2.2.1.1.heap) 0 0 [(0, .ref (a 0)), (1, .int v1), (2, .int v2), (3, .int v3), (4, .int m10), (5, .int v5)] 40 [] := by
          intro m10 em10
          rewrite [em10]; clear em10
          exact z_lv rfl (J12 _ (if_neg c7).symm)
        refine z_icmp_eq (tgt := 40) dX6_slowAmong_34 (by decide) (fun c9 => ?_) (fun c9 => ?_)
        · skip
          exact z_lv rfl (J13 _ (if_pos c9).symm)
        · skip
          refine z_iinc (v := v4 + 1) (lv' := [(4, .int (v4 + 1)), (0, .ref (a 0)), (1, .int v1), (2, .int v2), (3, .int v3), (5, .int v5)]) dX6_slowAmong_37 4 rfl rfl (Nat.le_of_ble_eq_true rfl) rfl ?_
          exact z_lv rfl (J13 _ (if_neg c9).symm)
set_option maxHeartbeats 800000 in
theorem c_X6_slowAmong {l : Launch} (G : zG) (P : pT) (a : Nat → Nat) (N : nT) (R : rT) (x1 : Int32) (x2 : Int32) (x3 : Int32) (hp : p_X6_slowAmong P N R x1 x2 x3) : Met l yX6_slowAmong (.code yX6_slowAmong k_X6_slowAmong.1 k_X6_slowAmong.2.1 k_X6_slowAmong.2.2.2.1 :: TS) k_X6_slowAmong.2.2.2.2 (Pz G [.ref (a 0), .int x1, .int x2, .int x3] (Fr G P (maW G a N ++ rdW G (sh a 10) R))) (vp_Si (fun r => r = v_X6_slowAmong P N R x1 x2 x3)) 0 0 (fun _ => False) := by
  refine zmet (K := k_X6_slowAmong) (by decide +kernel) rfl rfl (fun Γ hl0 hQ hN hF => ?_)
  have hI := rd_P (G := G) hF.1
  have hG := rd_F hF.2
  obtain ⟨res, hv⟩ : ∃ res, v_X6_slowAmong P N R x1 x2 x3 = res := ⟨_, rfl⟩
  rw [hv] at hQ
  unfold v_X6_slowAmong at hv
  unfold p_X6_slowAmong at hp
  show Z k_X6_slowAmong G Γ _ 0 0 [(0, .ref (a 0)), (1, .int x1), (2, .int x2), (3, .int x3)] 0 []
  refine z_iconst (v := 0) dX6_slowAmong_0 rfl ?_
  refine z_istore (lv' := [(4, .int 0), (0, .ref (a 0)), (1, .int x1), (2, .int x2), (3, .int x3)]) dX6_slowAmong_1 (Nat.le_of_ble_eq_true rfl) rfl ?_
  refine z_iconst (v := 0) dX6_slowAmong_3 rfl ?_
  refine z_istore (lv' := [(5, .int 0), (4, .int 0), (0, .ref (a 0)), (1, .int x1), (2, .int x2), (3, .int x3)]) dX6_slowAmong_4 (Nat.le_of_ble_eq_true rfl) rfl ?_
  exact z_lv rfl ((w_X6_slowAmong a N R hF hQ 200) x1 x2 x3 0 0 hp hv)
