theorem dX7_passes_0 : decode cX7_passes 0 = .ok (.iconst 0, 1) := by decide +kernel
theorem dX7_passes_1 : decode cX7_passes 1 = .ok (.istore_n 2, 1) := by decide +kernel
theorem dX7_passes_2 : decode cX7_passes 2 = .ok (.iload_n 2, 1) := by decide +kernel
theorem dX7_passes_3 : decode cX7_passes 3 = .ok (.iload_n 1, 1) := by decide +kernel
theorem dX7_passes_4 : decode cX7_passes 4 = .ok (.if_icmp .ge 124, 3) := by decide +kernel
theorem dX7_passes_7 : decode cX7_passes 7 = .ok (.aload_n 0, 1) := by decide +kernel
theorem dX7_passes_8 : decode cX7_passes 8 = .ok (.getfield 87, 3) := by decide +kernel
theorem dX7_passes_11 : decode cX7_passes 11 = .ok (.iload_n 2, 1) := by decide +kernel
theorem dX7_passes_12 : decode cX7_passes 12 = .ok (.iaload, 1) := by decide +kernel
theorem dX7_passes_13 : decode cX7_passes 13 = .ok (.istore_n 3, 1) := by decide +kernel
theorem dX7_passes_14 : decode cX7_passes 14 = .ok (.aload_n 0, 1) := by decide +kernel
theorem dX7_passes_15 : decode cX7_passes 15 = .ok (.getfield 90, 3) := by decide +kernel
theorem dX7_passes_18 : decode cX7_passes 18 = .ok (.iload_n 2, 1) := by decide +kernel
theorem dX7_passes_19 : decode cX7_passes 19 = .ok (.iaload, 1) := by decide +kernel
theorem dX7_passes_20 : decode cX7_passes 20 = .ok (.iconst 1, 1) := by decide +kernel
theorem dX7_passes_21 : decode cX7_passes 21 = .ok (.if_icmp .ne 44, 3) := by decide +kernel
theorem dX7_passes_24 : decode cX7_passes 24 = .ok (.aload_n 0, 1) := by decide +kernel
theorem dX7_passes_25 : decode cX7_passes 25 = .ok (.getfield 44, 3) := by decide +kernel
theorem dX7_passes_28 : decode cX7_passes 28 = .ok (.iload_n 3, 1) := by decide +kernel
theorem dX7_passes_29 : decode cX7_passes 29 = .ok (.dup2, 1) := by decide +kernel
theorem dX7_passes_30 : decode cX7_passes 30 = .ok (.iaload, 1) := by decide +kernel
theorem dX7_passes_31 : decode cX7_passes 31 = .ok (.aload_n 0, 1) := by decide +kernel
theorem dX7_passes_32 : decode cX7_passes 32 = .ok (.getfield 13, 3) := by decide +kernel
theorem dX7_passes_35 : decode cX7_passes 35 = .ok (.isub, 1) := by decide +kernel
theorem dX7_passes_36 : decode cX7_passes 36 = .ok (.iastore, 1) := by decide +kernel
theorem dX7_passes_37 : decode cX7_passes 37 = .ok (.aload_n 0, 1) := by decide +kernel
theorem dX7_passes_38 : decode cX7_passes 38 = .ok (.getfield 47, 3) := by decide +kernel
theorem dX7_passes_41 : decode cX7_passes 41 = .ok (.iload_n 3, 1) := by decide +kernel
theorem dX7_passes_42 : decode cX7_passes 42 = .ok (.dup2, 1) := by decide +kernel
theorem dX7_passes_43 : decode cX7_passes 43 = .ok (.iaload, 1) := by decide +kernel
theorem dX7_passes_44 : decode cX7_passes 44 = .ok (.aload_n 0, 1) := by decide +kernel
theorem dX7_passes_45 : decode cX7_passes 45 = .ok (.getfield 47, 3) := by decide +kernel
theorem dX7_passes_48 : decode cX7_passes 48 = .ok (.iload_n 3, 1) := by decide +kernel
theorem dX7_passes_49 : decode cX7_passes 49 = .ok (.iaload, 1) := by decide +kernel
theorem dX7_passes_50 : decode cX7_passes 50 = .ok (.bipush 30, 2) := by decide +kernel
theorem dX7_passes_52 : decode cX7_passes 52 = .ok (.if_icmp .ge 7, 3) := by decide +kernel
theorem dX7_passes_55 : decode cX7_passes 55 = .ok (.iconst 1, 1) := by decide +kernel
theorem dX7_passes_56 : decode cX7_passes 56 = .ok (.goto 4, 3) := by decide +kernel
theorem dX7_passes_59 : decode cX7_passes 59 = .ok (.iconst 0, 1) := by decide +kernel
theorem dX7_passes_60 : decode cX7_passes 60 = .ok (.iadd, 1) := by decide +kernel
theorem dX7_passes_61 : decode cX7_passes 61 = .ok (.iastore, 1) := by decide +kernel
theorem dX7_passes_62 : decode cX7_passes 62 = .ok (.goto 60, 3) := by decide +kernel
theorem dX7_passes_65 : decode cX7_passes 65 = .ok (.aload_n 0, 1) := by decide +kernel
theorem dX7_passes_66 : decode cX7_passes 66 = .ok (.getfield 90, 3) := by decide +kernel
theorem dX7_passes_69 : decode cX7_passes 69 = .ok (.iload_n 2, 1) := by decide +kernel
theorem dX7_passes_70 : decode cX7_passes 70 = .ok (.iaload, 1) := by decide +kernel
theorem dX7_passes_71 : decode cX7_passes 71 = .ok (.ifCond .ne 51, 3) := by decide +kernel
theorem dX7_passes_74 : decode cX7_passes 74 = .ok (.aload_n 0, 1) := by decide +kernel
theorem dX7_passes_75 : decode cX7_passes 75 = .ok (.getfield 35, 3) := by decide +kernel
theorem dX7_passes_78 : decode cX7_passes 78 = .ok (.iload_n 3, 1) := by decide +kernel
theorem dX7_passes_79 : decode cX7_passes 79 = .ok (.dup2, 1) := by decide +kernel
theorem dX7_passes_80 : decode cX7_passes 80 = .ok (.iaload, 1) := by decide +kernel
theorem dX7_passes_81 : decode cX7_passes 81 = .ok (.aload_n 0, 1) := by decide +kernel
theorem dX7_passes_82 : decode cX7_passes 82 = .ok (.getfield 35, 3) := by decide +kernel
theorem dX7_passes_85 : decode cX7_passes 85 = .ok (.iload_n 3, 1) := by decide +kernel
theorem dX7_passes_86 : decode cX7_passes 86 = .ok (.iaload, 1) := by decide +kernel
theorem dX7_passes_87 : decode cX7_passes 87 = .ok (.bipush 30, 2) := by decide +kernel
theorem dX7_passes_89 : decode cX7_passes 89 = .ok (.if_icmp .ge 7, 3) := by decide +kernel
theorem dX7_passes_92 : decode cX7_passes 92 = .ok (.iconst 1, 1) := by decide +kernel
theorem dX7_passes_93 : decode cX7_passes 93 = .ok (.goto 4, 3) := by decide +kernel
theorem dX7_passes_96 : decode cX7_passes 96 = .ok (.iconst 0, 1) := by decide +kernel
theorem dX7_passes_97 : decode cX7_passes 97 = .ok (.iadd, 1) := by decide +kernel
theorem dX7_passes_98 : decode cX7_passes 98 = .ok (.iastore, 1) := by decide +kernel
theorem dX7_passes_99 : decode cX7_passes 99 = .ok (.aload_n 0, 1) := by decide +kernel
theorem dX7_passes_100 : decode cX7_passes 100 = .ok (.getfield 47, 3) := by decide +kernel
theorem dX7_passes_103 : decode cX7_passes 103 = .ok (.iload_n 3, 1) := by decide +kernel
theorem dX7_passes_104 : decode cX7_passes 104 = .ok (.dup2, 1) := by decide +kernel
theorem dX7_passes_105 : decode cX7_passes 105 = .ok (.iaload, 1) := by decide +kernel
theorem dX7_passes_106 : decode cX7_passes 106 = .ok (.aload_n 0, 1) := by decide +kernel
theorem dX7_passes_107 : decode cX7_passes 107 = .ok (.getfield 47, 3) := by decide +kernel
theorem dX7_passes_110 : decode cX7_passes 110 = .ok (.iload_n 3, 1) := by decide +kernel
theorem dX7_passes_111 : decode cX7_passes 111 = .ok (.iaload, 1) := by decide +kernel
theorem dX7_passes_112 : decode cX7_passes 112 = .ok (.ifCond .le 7, 3) := by decide +kernel
theorem dX7_passes_115 : decode cX7_passes 115 = .ok (.iconst 1, 1) := by decide +kernel
theorem dX7_passes_116 : decode cX7_passes 116 = .ok (.goto 4, 3) := by decide +kernel
theorem dX7_passes_119 : decode cX7_passes 119 = .ok (.iconst 0, 1) := by decide +kernel
theorem dX7_passes_120 : decode cX7_passes 120 = .ok (.isub, 1) := by decide +kernel
theorem dX7_passes_121 : decode cX7_passes 121 = .ok (.iastore, 1) := by decide +kernel
theorem dX7_passes_122 : decode cX7_passes 122 = .ok (.iinc 2 1, 3) := by decide +kernel
theorem dX7_passes_125 : decode cX7_passes 125 = .ok (.goto (-123), 3) := by decide +kernel
theorem dX7_passes_128 : decode cX7_passes 128 = .ok (.aload_n 0, 1) := by decide +kernel
theorem dX7_passes_129 : decode cX7_passes 129 = .ok (.dup, 1) := by decide +kernel
theorem dX7_passes_130 : decode cX7_passes 130 = .ok (.getfield 177, 3) := by decide +kernel
theorem dX7_passes_133 : decode cX7_passes 133 = .ok (.iconst 1, 1) := by decide +kernel
theorem dX7_passes_134 : decode cX7_passes 134 = .ok (.iadd, 1) := by decide +kernel
theorem dX7_passes_135 : decode cX7_passes 135 = .ok (.putfield 177, 3) := by decide +kernel
theorem dX7_passes_138 : decode cX7_passes 138 = .ok (.return_, 1) := by decide +kernel
abbrev k_X7_passes : zK := (cX7_passes, 4, RX7, none, ({ frames := 0, cells := 0, slots := 0, locals := 0 } : Room))
theorem zc_X7_passes : zcal yX7_passes k_X7_passes.1 k_X7_passes.2.1 k_X7_passes.2.2.2.1 1 := ⟨tw_code_yX7_passes, tw_i_TollForHesitatorsModel, ⟨by decide +kernel, by decide +kernel⟩, by decide +kernel⟩
theorem zv_X7_passes : Cond.instanceMethod yX7_passes ∈ TS ∧ Cond.selects RX7 yX7_passes yX7_passes ∈ TS := ⟨tw_inst_yX7_passes, tw_s_yX7_passes⟩
def v_X7_passes_r : Nat → mT → Int32 → Int32 → mT
  | 0, M, _, _ => M
  | n + 1, M, v1, v2 => if v1 ≤ v2 then msf M 5 ((M.1 5) + 1) else kk (if ((M.2.1 34) v2.toNatClampNeg) = 1 then msa (msa M 14 (upd (M.2.1 14) ((M.2.1 33) v2.toNatClampNeg).toNatClampNeg (((M.2.1 14) ((M.2.1 33) v2.toNatClampNeg).toNatClampNeg) - (M.1 3)))) 15 (upd (M.2.1 15) ((M.2.1 33) v2.toNatClampNeg).toNatClampNeg (((M.2.1 15) ((M.2.1 33) v2.toNatClampNeg).toNatClampNeg) + (if 30 ≤ ((M.2.1 15) ((M.2.1 33) v2.toNatClampNeg).toNatClampNeg) then 0 else 1))) else (if ((M.2.1 34) v2.toNatClampNeg) = 0 then msa (msa M 11 (upd (M.2.1 11) ((M.2.1 33) v2.toNatClampNeg).toNatClampNeg (((M.2.1 11) ((M.2.1 33) v2.toNatClampNeg).toNatClampNeg) + (if 30 ≤ ((M.2.1 11) ((M.2.1 33) v2.toNatClampNeg).toNatClampNeg) then 0 else 1)))) 15 (upd (M.2.1 15) ((M.2.1 33) v2.toNatClampNeg).toNatClampNeg (((M.2.1 15) ((M.2.1 33) v2.toNatClampNeg).toNatClampNeg) - (if ((M.2.1 15) ((M.2.1 33) v2.toNatClampNeg).toNatClampNeg) ≤ 0 then 0 else 1))) else M)) (fun M49 : mT => v_X7_passes_r n M49 v1 (v2 + 1))
def p_X7_passes_r : Nat → mT → Int32 → Int32 → Prop
  | 0, _, _, _ => False
  | n + 1, M, v1, v2 => if v1 ≤ v2 then True else vp_in v2 7 ∧ (vp_in v2 7 ∧ ((if ((M.2.1 34) v2.toNatClampNeg) = 1 then (vp_in ((M.2.1 33) v2.toNatClampNeg) 7) ∧ ((vp_in ((M.2.1 33) v2.toNatClampNeg) 7) ∧ ((vp_in ((M.2.1 33) v2.toNatClampNeg) 7) ∧ ((vp_in ((M.2.1 33) v2.toNatClampNeg) 7) ∧ (vp_in ((M.2.1 33) v2.toNatClampNeg) 7)))) else vp_in v2 7 ∧ (if ((M.2.1 34) v2.toNatClampNeg) = 0 then (vp_in ((M.2.1 33) v2.toNatClampNeg) 7) ∧ ((vp_in ((M.2.1 33) v2.toNatClampNeg) 7) ∧ ((vp_in ((M.2.1 33) v2.toNatClampNeg) 7) ∧ ((vp_in ((M.2.1 33) v2.toNatClampNeg) 7) ∧ ((vp_in ((M.2.1 33) v2.toNatClampNeg) 7) ∧ (vp_in ((M.2.1 33) v2.toNatClampNeg) 7))))) else True)) ∧ (kk (if ((M.2.1 34) v2.toNatClampNeg) = 1 then msa (msa M 14 (upd (M.2.1 14) ((M.2.1 33) v2.toNatClampNeg).toNatClampNeg (((M.2.1 14) ((M.2.1 33) v2.toNatClampNeg).toNatClampNeg) - (M.1 3)))) 15 (upd (M.2.1 15) ((M.2.1 33) v2.toNatClampNeg).toNatClampNeg (((M.2.1 15) ((M.2.1 33) v2.toNatClampNeg).toNatClampNeg) + (if 30 ≤ ((M.2.1 15) ((M.2.1 33) v2.toNatClampNeg).toNatClampNeg) then 0 else 1))) else (if ((M.2.1 34) v2.toNatClampNeg) = 0 then msa (msa M 11 (upd (M.2.1 11) ((M.2.1 33) v2.toNatClampNeg).toNatClampNeg (((M.2.1 11) ((M.2.1 33) v2.toNatClampNeg).toNatClampNeg) + (if 30 ≤ ((M.2.1 11) ((M.2.1 33) v2.toNatClampNeg).toNatClampNeg) then 0 else 1)))) 15 (upd (M.2.1 15) ((M.2.1 33) v2.toNatClampNeg).toNatClampNeg (((M.2.1 15) ((M.2.1 33) v2.toNatClampNeg).toNatClampNeg) - (if ((M.2.1 15) ((M.2.1 33) v2.toNatClampNeg).toNatClampNeg) ≤ 0 then 0 else 1))) else M)) (fun M49 : mT => p_X7_passes_r n M49 v1 (v2 + 1)))))
set_option maxHeartbeats 4000000 in
theorem w_X7_passes {G : zG} {Γ : zT} {a : Nat → Nat} {A : Nat → Prop} {res : mT} {X : zX} (hw : wk X A Γ.2.2.1.1.heap) (hQ : zQ Γ (Qwv G (fun w => w = mW G a res) A) 0 0 A) : ∀ n : Nat, (∀ (M : mT) (v1 : Int32) (v2 : Int32), p_X7_passes_r n M v1 v2 → v_X7_passes_r n M v1 v2 = res → Z k_X7_passes G Γ (wr G A Γ.2.2.1.1.heap (mW G a M)) 0 0 [(0, .ref (a 0)), (1, .int v1), (2, .int v2)] 2 []) := by
  intro n
  induction n with
  | zero => exact fun M v1 v2 hp => absurd hp (by rw [p_X7_passes_r]; exact not_false)
  | succ n ih =>
    intro M v1 v2 hp hv
    rw [p_X7_passes_r] at hp
    rw [v_X7_passes_r] at hv
    refine z_iload_n dX7_passes_2 rfl ?_
    refine z_iload_n dX7_passes_3 rfl ?_
    refine z_icmp_ge (tgt := 128) dX7_passes_4 (by decide) (fun c1 => ?_) (fun c1 => ?_)
    · have hp := ip_t hp c1; have hv := it_t hv c1
      refine z_aload_n dX7_passes_128 rfl ?_
      refine z_dup dX7_passes_129 rfl ?_
      refine mg_5 (v := M.1 5) wr_P rfl rfl dX7_passes_130 ?_
      refine z_iconst (v := 1) dX7_passes_133 rfl ?_
      refine z_iadd dX7_passes_134 ?_
      refine mp_5 (v := (M.1 5) + 1) rfl dX7_passes_135 ?_
      subst hv; exact z_vret_W hQ rfl rfl rfl rfl dX7_passes_138
    · have hp := ip_f hp c1; have hv := it_f hv c1
      refine z_aload_n dX7_passes_7 rfl ?_
      refine mg_33 wr_P rfl dX7_passes_8 ?_
      refine z_iload_n dX7_passes_11 rfl ?_
      obtain ⟨q26, hp⟩ := hp
      refine ml_33 (x := (M.2.1 33) v2.toNatClampNeg) wr_P q26 rfl dX7_passes_12 ?_
      refine z_istore_n (lv' := [(3, .int ((M.2.1 33) v2.toNatClampNeg)), (0, .ref (a 0)), (1, .int v1), (2, .int v2)]) dX7_passes_13 (Nat.le_of_ble_eq_true rfl) rfl ?_
      refine z_aload_n dX7_passes_14 rfl ?_
      refine mg_34 wr_P rfl dX7_passes_15 ?_
      refine z_iload_n dX7_passes_18 rfl ?_
      obtain ⟨q27, hp⟩ := hp
      refine ml_34 (x := (M.2.1 34) v2.toNatClampNeg) wr_P q27 rfl dX7_passes_19 ?_
      refine z_iconst (v := 1) dX7_passes_20 rfl ?_
      obtain ⟨hpm, hp⟩ := hp
      have J50 : ∀ M49 : mT, M49 = (if ((M.2.1 34) v2.toNatClampNeg) = 1 then msa (msa M 14 (upd (M.2.1 14) ((M.2.1 33) v2.toNatClampNeg).toNatClampNeg (((M.2.1 14) ((M.2.1 33) v2.toNatClampNeg).toNatClampNeg) - (M.1 3)))) 15 (upd (M.2.1 15) ((M.2.1 33) v2.toNatClampNeg).toNatClampNeg (((M.2.1 15) ((M.2.1 33) v2.toNatClampNeg).toNatClampNeg) + (if 30 ≤ ((M.2.1 15) ((M.2.1 33) v2.toNatClampNeg).toNatClampNeg) then 0 else 1))) else (if ((M.2.1 34) v2.toNatClampNeg) = 0 then msa (msa M 11 (upd (M.2.1 11) ((M.2.1 33) v2.toNatClampNeg).toNatClampNeg (((M.2.1 11) ((M.2.1 33) v2.toNatClampNeg).toNatClampNeg) + (if 30 ≤ ((M.2.1 11) ((M.2.1 33) v2.toNatClampNeg).toNatClampNeg) then 0 else 1)))) 15 (upd (M.2.1 15) ((M.2.1 33) v2.toNatClampNeg).toNatClampNeg (((M.2.1 15) ((M.2.1 33) v2.toNatClampNeg).toNatClampNeg) - (if ((M.2.1 15) ((M.2.1 33) v2.toNatClampNeg).toNatClampNeg) ≤ 0 then 0 else 1))) else M)) → Z k_X7_passes G Γ (wr G A Γ.2.2.1.1.heap (mW G a M49)) 0 0 [(3, .int ((M.2.1 33) v2.toNatClampNeg)), (0, .ref (a 0)), (1, .int v1), (2, .int v2)] 122 [] := by
        intro M49 eM49
        have hp := kk_pq hp eM49
        have hv := kk_vq hv eM49
        clear eM49
        refine z_iinc (v := v2 + 1) (lv' := [(2, .int (v2 + 1)), (3, .int ((M.2.1 33) v2.toNatClampNeg)), (0, .ref (a 0)), (1, .int v1)]) dX7_passes_122 3 rfl rfl (Nat.le_of_ble_eq_true rfl) rfl ?_
        refine z_goto (tgt := 2) dX7_passes_125 (by decide) ?_
        exact z_lv rfl ((ih) M49 v1 (v2 + 1) hp hv)
      refine z_icmp_ne (tgt := 65) dX7_passes_21 (by decide) (fun c28 => ?_) (fun c28 => ?_)
      · have hp := ip_f hpm c28
        refine z_aload_n dX7_passes_65 rfl ?_
        refine mg_34 wr_P rfl dX7_passes_66 ?_
        refine z_iload_n dX7_passes_69 rfl ?_
        obtain ⟨q29, hp⟩ := hp
        refine ml_34 (x := (M.2.1 34) v2.toNatClampNeg) wr_P q29 rfl dX7_passes_70 ?_
        have hpm := hp
        have J51 : ∀ M41 : mT, M41 = (if ((M.2.1 34) v2.toNatClampNeg) = 0 then msa (msa M 11 (upd (M.2.1 11) ((M.2.1 33) v2.toNatClampNeg).toNatClampNeg (((M.2.1 11) ((M.2.1 33) v2.toNatClampNeg).toNatClampNeg) + (if 30 ≤ ((M.2.1 11) ((M.2.1 33) v2.toNatClampNeg).toNatClampNeg) then 0 else 1)))) 15 (upd (M.2.1 15) ((M.2.1 33) v2.toNatClampNeg).toNatClampNeg (((M.2.1 15) ((M.2.1 33) v2.toNatClampNeg).toNatClampNeg) - (if ((M.2.1 15) ((M.2.1 33) v2.toNatClampNeg).toNatClampNeg) ≤ 0 then 0 else 1))) else M) → Z k_X7_passes G Γ (wr G A Γ.2.2.1.1.heap (mW G a M41)) 0 0 [(3, .int ((M.2.1 33) v2.toNatClampNeg)), (0, .ref (a 0)), (1, .int v1), (2, .int v2)] 122 [] := by
          intro M41 eM41
          rewrite [eM41]; clear eM41
          exact z_lv rfl (J50 _ (if_neg c28).symm)
        refine z_if_ne (tgt := 122) dX7_passes_71 (by decide) (fun c30 => ?_) (fun c30 => ?_)
        · have hp := ip_f hpm c30
          exact z_lv rfl (J51 _ (if_neg c30).symm)
        · have hp := ip_t hpm c30
          refine z_aload_n dX7_passes_74 rfl ?_
          refine mg_11 wr_P rfl dX7_passes_75 ?_
          refine z_iload_n dX7_passes_78 rfl ?_
          refine z_dup2_11 dX7_passes_79 rfl rfl ?_
          obtain ⟨q31, hp⟩ := hp
          refine ml_11 (x := (M.2.1 11) ((M.2.1 33) v2.toNatClampNeg).toNatClampNeg) wr_P q31 rfl dX7_passes_80 ?_
          refine z_aload_n dX7_passes_81 rfl ?_
          refine mg_11 wr_P rfl dX7_passes_82 ?_
          refine z_iload_n dX7_passes_85 rfl ?_
          obtain ⟨q32, hp⟩ := hp
          refine ml_11 (x := (M.2.1 11) ((M.2.1 33) v2.toNatClampNeg).toNatClampNeg) wr_P q32 rfl dX7_passes_86 ?_
          refine z_bipush (v := 30) dX7_passes_87 rfl ?_
          have J52 : ∀ m34 : Int32, m34 = (if 30 ≤ ((M.2.1 11) ((M.2.1 33) v2.toNatClampNeg).toNatClampNeg) then 0 else 1) → Z k_X7_passes G Γ (wr G A Γ.2.2.1.1.heap (mW G a M)) 0 0 [(3, .int ((M.2.1 33) v2.toNatClampNeg)), (0, .ref (a 0)), (1, .int v1), (2, .int v2)] 97 [.int m34, .int ((M.2.1 11) ((M.2.1 33) v2.toNatClampNeg).toNatClampNeg), .int ((M.2.1 33) v2.toNatClampNeg), .ref (a 11)] := by
            intro m34 em34
            rewrite [em34]; clear em34
            refine z_iadd dX7_passes_97 ?_
            obtain ⟨q35, hp⟩ := hp
            refine ms_11 (F := upd (M.2.1 11) ((M.2.1 33) v2.toNatClampNeg).toNatClampNeg (((M.2.1 11) ((M.2.1 33) v2.toNatClampNeg).toNatClampNeg) + (if 30 ≤ ((M.2.1 11) ((M.2.1 33) v2.toNatClampNeg).toNatClampNeg) then 0 else 1))) q35 rfl dX7_passes_98 ?_
            refine z_aload_n dX7_passes_99 rfl ?_
            refine mg_15 wr_P rfl dX7_passes_100 ?_
            refine z_iload_n dX7_passes_103 rfl ?_
            refine z_dup2_11 dX7_passes_104 rfl rfl ?_
            obtain ⟨q36, hp⟩ := hp
            refine ml_15 (x := (M.2.1 15) ((M.2.1 33) v2.toNatClampNeg).toNatClampNeg) wr_P q36 rfl dX7_passes_105 ?_
            refine z_aload_n dX7_passes_106 rfl ?_
            refine mg_15 wr_P rfl dX7_passes_107 ?_
            refine z_iload_n dX7_passes_110 rfl ?_
            obtain ⟨q37, hp⟩ := hp
            refine ml_15 (x := (M.2.1 15) ((M.2.1 33) v2.toNatClampNeg).toNatClampNeg) wr_P q37 rfl dX7_passes_111 ?_
            have J53 : ∀ m39 : Int32, m39 = (if ((M.2.1 15) ((M.2.1 33) v2.toNatClampNeg).toNatClampNeg) ≤ 0 then 0 else 1) → Z k_X7_passes G Γ (wr G A Γ.2.2.1.1.heap (mW G a (msa M 11 (upd (M.2.1 11) ((M.2.1 33) v2.toNatClampNeg).toNatClampNeg (((M.2.1 11) ((M.2.1 33) v2.toNatClampNeg).toNatClampNeg) + (if 30 ≤ ((M.2.1 11) ((M.2.1 33) v2.toNatClampNeg).toNatClampNeg) then 0 else 1)))))) 0 0 [(3, .int ((M.2.1 33) v2.toNatClampNeg)), (0, .ref (a 0)), (1, .int v1), (2, .int v2)] 120 [.int m39, .int ((M.2.1 15) ((M.2.1 33) v2.toNatClampNeg).toNatClampNeg), .int ((M.2.1 33) v2.toNatClampNeg), .ref (a 15)] := by
              intro m39 em39
              rewrite [em39]; clear em39
              refine z_isub dX7_passes_120 ?_
              have q40 := hp
              refine ms_15 (F := upd (M.2.1 15) ((M.2.1 33) v2.toNatClampNeg).toNatClampNeg (((M.2.1 15) ((M.2.1 33) v2.toNatClampNeg).toNatClampNeg) - (if ((M.2.1 15) ((M.2.1 33) v2.toNatClampNeg).toNatClampNeg) ≤ 0 then 0 else 1))) q40 rfl dX7_passes_121 ?_
              exact z_lv rfl (J51 _ (if_pos c30).symm)
            refine z_if_le (tgt := 119) dX7_passes_112 (by decide) (fun c38 => ?_) (fun c38 => ?_)
            · skip
              refine z_iconst (v := 0) dX7_passes_119 rfl ?_
              exact z_lv rfl (J53 _ (if_pos c38).symm)
            · skip
              refine z_iconst (v := 1) dX7_passes_115 rfl ?_
              refine z_goto (tgt := 120) dX7_passes_116 (by decide) ?_
              exact z_lv rfl (J53 _ (if_neg c38).symm)
          refine z_icmp_ge (tgt := 96) dX7_passes_89 (by decide) (fun c33 => ?_) (fun c33 => ?_)
          · skip
            refine z_iconst (v := 0) dX7_passes_96 rfl ?_
            exact z_lv rfl (J52 _ (if_pos c33).symm)
          · skip
            refine z_iconst (v := 1) dX7_passes_92 rfl ?_
            refine z_goto (tgt := 97) dX7_passes_93 (by decide) ?_
            exact z_lv rfl (J52 _ (if_neg c33).symm)
      · have hp := ip_t hpm c28
        refine z_aload_n dX7_passes_24 rfl ?_
        refine mg_14 wr_P rfl dX7_passes_25 ?_
        refine z_iload_n dX7_passes_28 rfl ?_
        refine z_dup2_11 dX7_passes_29 rfl rfl ?_
        obtain ⟨q42, hp⟩ := hp
        refine ml_14 (x := (M.2.1 14) ((M.2.1 33) v2.toNatClampNeg).toNatClampNeg) wr_P q42 rfl dX7_passes_30 ?_
        refine z_aload_n dX7_passes_31 rfl ?_
        refine mg_3 (v := M.1 3) wr_P rfl rfl dX7_passes_32 ?_
        refine z_isub dX7_passes_35 ?_
        obtain ⟨q43, hp⟩ := hp
        refine ms_14 (F := upd (M.2.1 14) ((M.2.1 33) v2.toNatClampNeg).toNatClampNeg (((M.2.1 14) ((M.2.1 33) v2.toNatClampNeg).toNatClampNeg) - (M.1 3))) q43 rfl dX7_passes_36 ?_
        refine z_aload_n dX7_passes_37 rfl ?_
        refine mg_15 wr_P rfl dX7_passes_38 ?_
        refine z_iload_n dX7_passes_41 rfl ?_
        refine z_dup2_11 dX7_passes_42 rfl rfl ?_
        obtain ⟨q44, hp⟩ := hp
        refine ml_15 (x := (M.2.1 15) ((M.2.1 33) v2.toNatClampNeg).toNatClampNeg) wr_P q44 rfl dX7_passes_43 ?_
        refine z_aload_n dX7_passes_44 rfl ?_
        refine mg_15 wr_P rfl dX7_passes_45 ?_
        refine z_iload_n dX7_passes_48 rfl ?_
        obtain ⟨q45, hp⟩ := hp
        refine ml_15 (x := (M.2.1 15) ((M.2.1 33) v2.toNatClampNeg).toNatClampNeg) wr_P q45 rfl dX7_passes_49 ?_
        refine z_bipush (v := 30) dX7_passes_50 rfl ?_
        have J54 : ∀ m47 : Int32, m47 = (if 30 ≤ ((M.2.1 15) ((M.2.1 33) v2.toNatClampNeg).toNatClampNeg) then 0 else 1) → Z k_X7_passes G Γ (wr G A Γ.2.2.1.1.heap (mW G a (msa M 14 (upd (M.2.1 14) ((M.2.1 33) v2.toNatClampNeg).toNatClampNeg (((M.2.1 14) ((M.2.1 33) v2.toNatClampNeg).toNatClampNeg) - (M.1 3)))))) 0 0 [(3, .int ((M.2.1 33) v2.toNatClampNeg)), (0, .ref (a 0)), (1, .int v1), (2, .int v2)] 60 [.int m47, .int ((M.2.1 15) ((M.2.1 33) v2.toNatClampNeg).toNatClampNeg), .int ((M.2.1 33) v2.toNatClampNeg), .ref (a 15)] := by
          intro m47 em47
          rewrite [em47]; clear em47
          refine z_iadd dX7_passes_60 ?_
          have q48 := hp
          refine ms_15 (F := upd (M.2.1 15) ((M.2.1 33) v2.toNatClampNeg).toNatClampNeg (((M.2.1 15) ((M.2.1 33) v2.toNatClampNeg).toNatClampNeg) + (if 30 ≤ ((M.2.1 15) ((M.2.1 33) v2.toNatClampNeg).toNatClampNeg) then 0 else 1))) q48 rfl dX7_passes_61 ?_
          refine z_goto (tgt := 122) dX7_passes_62 (by decide) ?_
          exact z_lv rfl (J50 _ (if_pos c28).symm)
        refine z_icmp_ge (tgt := 59) dX7_passes_52 (by decide) (fun c46 => ?_) (fun c46 => ?_)
        · skip
          refine z_iconst (v := 0) dX7_passes_59 rfl ?_
          exact z_lv rfl (J54 _ (if_pos c46).symm)
        · skip
          refine z_iconst (v := 1) dX7_passes_55 rfl ?_
          refine z_goto (tgt := 60) dX7_passes_56 (by decide) ?_
          exact z_lv rfl (J54 _ (if_neg c46).symm)
def v_X7_passes (M : mT) (x1 : Int32) : mT := v_X7_passes_r 200 M x1 0
def p_X7_passes (M : mT) (x1 : Int32) : Prop := p_X7_passes_r 200 M x1 0
set_option maxHeartbeats 4000000 in
theorem c_X7_passes {l : Launch} (G : zG) (a : Nat → Nat) {X : zX} (hX : XOK X) (sz : Nat) (M : mT) (x1 : Int32) (hp : p_X7_passes M x1) : Met l yX7_passes (.code yX7_passes k_X7_passes.1 k_X7_passes.2.1 k_X7_passes.2.2.2.1 :: TS) k_X7_passes.2.2.2.2 (Pz G [.ref (a 0), .int x1] (Fw G X (mW G a M) sz)) (Qwv G (fun w => w = mW G a (v_X7_passes M x1)) (va_A (mW G a M) sz)) 0 0 (va_A (mW G a M) sz) := by
  refine zmet (by decide +kernel) rfl rfl (fun Γ hl0 hQ hN hF => ?_)
  refine z_start hX hF (fun hw => ?_)
  generalize va_A (mW G a M) sz = A at hQ hw ⊢
  obtain ⟨res, hv⟩ : ∃ res, v_X7_passes M x1 = res := ⟨_, rfl⟩
  rw [hv] at hQ
  unfold v_X7_passes at hv
  unfold p_X7_passes at hp
  show Z k_X7_passes G Γ _ 0 0 [(0, .ref (a 0)), (1, .int x1)] 0 []
  refine z_iconst (v := 0) dX7_passes_0 rfl ?_
  refine z_istore_n (lv' := [(2, .int 0), (0, .ref (a 0)), (1, .int x1)]) dX7_passes_1 (Nat.le_of_ble_eq_true rfl) rfl ?_
  exact z_lv rfl ((w_X7_passes hw hQ 200) M x1 0 hp hv)
theorem dX7_done_0 : decode cX7_done 0 = .ok (.aload_n 0, 1) := by decide +kernel
theorem dX7_done_1 : decode cX7_done 1 = .ok (.iload_n 1, 1) := by decide +kernel
theorem dX7_done_2 : decode cX7_done 2 = .ok (.iload_n 2, 1) := by decide +kernel
theorem dX7_done_3 : decode cX7_done 3 = .ok (.invokevirtual 266, 3) := by decide +kernel
theorem dX7_done_6 : decode cX7_done 6 = .ok (.istore_n 3, 1) := by decide +kernel
theorem dX7_done_7 : decode cX7_done 7 = .ok (.iload_n 3, 1) := by decide +kernel
theorem dX7_done_8 : decode cX7_done 8 = .ok (.ifCond .ne 16, 3) := by decide +kernel
theorem dX7_done_11 : decode cX7_done 11 = .ok (.aload_n 0, 1) := by decide +kernel
theorem dX7_done_12 : decode cX7_done 12 = .ok (.iload_n 1, 1) := by decide +kernel
theorem dX7_done_13 : decode cX7_done 13 = .ok (.iload_n 2, 1) := by decide +kernel
theorem dX7_done_14 : decode cX7_done 14 = .ok (.invokevirtual 269, 3) := by decide +kernel
theorem dX7_done_17 : decode cX7_done 17 = .ok (.iconst (-1), 1) := by decide +kernel
theorem dX7_done_18 : decode cX7_done 18 = .ok (.if_icmp .eq 6, 3) := by decide +kernel
theorem dX7_done_21 : decode cX7_done 21 = .ok (.bipush (-6), 2) := by decide +kernel
theorem dX7_done_23 : decode cX7_done 23 = .ok (.istore_n 3, 1) := by decide +kernel
theorem dX7_done_24 : decode cX7_done 24 = .ok (.iload_n 3, 1) := by decide +kernel
theorem dX7_done_25 : decode cX7_done 25 = .ok (.ifCond .eq 9, 3) := by decide +kernel
theorem dX7_done_28 : decode cX7_done 28 = .ok (.aload_n 0, 1) := by decide +kernel
theorem dX7_done_29 : decode cX7_done 29 = .ok (.iload_n 3, 1) := by decide +kernel
theorem dX7_done_30 : decode cX7_done 30 = .ok (.invokevirtual 106, 3) := by decide +kernel
theorem dX7_done_33 : decode cX7_done 33 = .ok (.ireturn, 1) := by decide +kernel
theorem dX7_done_34 : decode cX7_done 34 = .ok (.aload_n 0, 1) := by decide +kernel
theorem dX7_done_35 : decode cX7_done 35 = .ok (.iload_n 2, 1) := by decide +kernel
theorem dX7_done_36 : decode cX7_done 36 = .ok (.invokevirtual 272, 3) := by decide +kernel
theorem dX7_done_39 : decode cX7_done 39 = .ok (.aload_n 0, 1) := by decide +kernel
theorem dX7_done_40 : decode cX7_done 40 = .ok (.getfield 177, 3) := by decide +kernel
theorem dX7_done_43 : decode cX7_done 43 = .ok (.ireturn, 1) := by decide +kernel
abbrev k_X7_done : zK := (cX7_done, 4, RX7, (some .int), ({ frames := 5, cells := 0, slots := 0, locals := 123 } : Room))
theorem zc_X7_done : zcal yX7_done k_X7_done.1 k_X7_done.2.1 k_X7_done.2.2.2.1 2 := ⟨tw_code_yX7_done, tw_i_TollForHesitatorsModel, ⟨by decide +kernel, by decide +kernel⟩, by decide +kernel⟩
theorem zv_X7_done : Cond.instanceMethod yX7_done ∈ TS ∧ Cond.selects RX7 yX7_done yX7_done ∈ TS := ⟨tw_inst_yX7_done, tw_s_yX7_done⟩
def v_X7_done (M : mT) (x1 : Int32) (x2 : Int32) : Int32 × mT := kk (if (v_X7_barsOfDay M x1 x2) = 0 then (v_X7_wrongIn M x1 x2).2 else M) (fun M7 : mT => kk (if (v_X7_barsOfDay M x1 x2) = 0 then (if ((v_X7_wrongIn M x1 x2).1) = (-1) then (v_X7_barsOfDay M x1 x2) else (-6)) else (v_X7_barsOfDay M x1 x2)) (fun m8 : Int32 => if m8 = 0 then kk (v_X7_passes M7 x2) (fun q11 : mT => (q11.1 5, q11)) else kk (v_X7_no M7 m8) (fun q13 : Int32 × mT => (q13.1, q13.2))))
def p_X7_done (M : mT) (x1 : Int32) (x2 : Int32) : Prop := p_X7_barsOfDay M x1 x2 ∧ ((if (v_X7_barsOfDay M x1 x2) = 0 then p_X7_wrongIn M x1 x2 else True) ∧ (kk (if (v_X7_barsOfDay M x1 x2) = 0 then (v_X7_wrongIn M x1 x2).2 else M) (fun M7 : mT => kk (if (v_X7_barsOfDay M x1 x2) = 0 then (if ((v_X7_wrongIn M x1 x2).1) = (-1) then (v_X7_barsOfDay M x1 x2) else (-6)) else (v_X7_barsOfDay M x1 x2)) (fun m8 : Int32 => if m8 = 0 then p_X7_passes M7 x2 else p_X7_no M7 m8))))
set_option maxHeartbeats 4000000 in
theorem c_X7_done {l : Launch} (G : zG) (a : Nat → Nat) {X : zX} (hX : XOK X) (sz : Nat) (M : mT) (x1 : Int32) (x2 : Int32) (hp : p_X7_done M x1 x2) : Met l yX7_done (.code yX7_done k_X7_done.1 k_X7_done.2.1 k_X7_done.2.2.2.1 :: TS) k_X7_done.2.2.2.2 (Pz G [.ref (a 0), .int x1, .int x2] (Fw G X (mW G a M) sz)) (Qwi G (fun r w => r = (v_X7_done M x1 x2).1 ∧ w = mW G a (v_X7_done M x1 x2).2) (va_A (mW G a M) sz)) 0 0 (va_A (mW G a M) sz) := by
  refine zmet (by decide +kernel) rfl rfl (fun Γ hl0 hQ hN hF => ?_)
  refine z_start hX hF (fun hw => ?_)
  generalize va_A (mW G a M) sz = A at hQ hw ⊢
  obtain ⟨res, hv⟩ : ∃ res, v_X7_done M x1 x2 = res := ⟨_, rfl⟩
  rw [hv] at hQ
  unfold v_X7_done at hv
  unfold p_X7_done at hp
  show Z k_X7_done G Γ _ 0 0 [(0, .ref (a 0)), (1, .int x1), (2, .int x2)] 0 []
  refine z_aload_n dX7_done_0 rfl ?_
  refine z_iload_n dX7_done_1 rfl ?_
  refine z_iload_n dX7_done_2 rfl ?_
  obtain ⟨q1, hp⟩ := hp
  refine z_cvi (c_X7_barsOfDay G a M x1 x2 q1) zc_X7_barsOfDay zv_X7_barsOfDay tw_m_RX7_266 (mrec wr_P) wr_P (zroom_of rfl) rfl (Nat.le_of_ble_eq_true rfl) dX7_done_3 ?_
  refine z_istore_n (lv' := [(3, .int (v_X7_barsOfDay M x1 x2)), (0, .ref (a 0)), (1, .int x1), (2, .int x2)]) dX7_done_6 (Nat.le_of_ble_eq_true rfl) rfl ?_
  refine z_iload_n dX7_done_7 rfl ?_
  obtain ⟨hpm, hp⟩ := hp
  have J14 : ∀ M7 : mT, M7 = (if (v_X7_barsOfDay M x1 x2) = 0 then (v_X7_wrongIn M x1 x2).2 else M) → ∀ m8 : Int32, m8 = (if (v_X7_barsOfDay M x1 x2) = 0 then (if ((v_X7_wrongIn M x1 x2).1) = (-1) then (v_X7_barsOfDay M x1 x2) else (-6)) else (v_X7_barsOfDay M x1 x2)) → Z k_X7_done G Γ (wr G A Γ.2.2.1.1.heap (mW G a M7)) 0 0 [(3, .int m8), (0, .ref (a 0)), (1, .int x1), (2, .int x2)] 24 [] := by
    intro M7 eM7 m8 em8
    have hp := kk_pq hp eM7
    have hv := kk_vq hv eM7
    clear eM7
    have hp := kk_pq hp em8
    have hv := kk_vq hv em8
    clear em8
    refine z_iload_n dX7_done_24 rfl ?_
    refine z_if_eq (tgt := 34) dX7_done_25 (by decide) (fun c9 => ?_) (fun c9 => ?_)
    · have hp := ip_t hp c9; have hv := it_t hv c9
      refine z_aload_n dX7_done_34 rfl ?_
      refine z_iload_n dX7_done_35 rfl ?_
      have q10 := hp
      refine z_cavvD hw (fun sz => c_X7_passes G a hw.1 sz M7 x2 q10) zc_X7_passes zv_X7_passes tw_m_RX7_272 (mrec wr_P) (zroom_of rfl) rfl (Nat.le_of_ble_eq_true rfl) dX7_done_36 ?_
      suffices z15 : ∀ q11 : mT, q11 = (v_X7_passes M7 x2) → Z k_X7_done G Γ (wr G A Γ.2.2.1.1.heap (mW G a q11)) 0 0 [(3, .int m8), (0, .ref (a 0)), (1, .int x1), (2, .int x2)] 39 [] from z15 _ rfl
      intro q11 hq11
      have hv := kk_vq hv hq11
      clear hq11
      refine z_aload_n dX7_done_39 rfl ?_
      refine mg_5 (v := q11.1 5) wr_P rfl rfl dX7_done_40 ?_
      subst hv; exact z_iret_W hQ rfl rfl rfl ⟨rfl, rfl⟩ dX7_done_43
    · have hp := ip_f hp c9; have hv := it_f hv c9
      refine z_aload_n dX7_done_28 rfl ?_
      refine z_iload_n dX7_done_29 rfl ?_
      have q12 := hp
      refine z_caviD hw (fun sz => c_X7_no G a hw.1 sz M7 m8 q12) zc_X7_no zv_X7_no tw_m_RX7_106 (mrec wr_P) (zroom_of rfl) rfl (Nat.le_of_ble_eq_true rfl) dX7_done_30 ?_
      suffices z16 : ∀ q13 : Int32 × mT, q13 = (v_X7_no M7 m8) → Z k_X7_done G Γ (wr G A Γ.2.2.1.1.heap (mW G a q13.2)) 0 0 [(3, .int m8), (0, .ref (a 0)), (1, .int x1), (2, .int x2)] 33 [.int q13.1] from z16 _ rfl
      intro q13 hq13
      have hv := kk_vq hv hq13
      clear hq13
      subst hv; exact z_iret_W hQ rfl rfl rfl ⟨rfl, rfl⟩ dX7_done_33
  refine z_if_ne (tgt := 24) dX7_done_8 (by decide) (fun c2 => ?_) (fun c2 => ?_)
  · have hp := ip_f hpm c2
    exact z_lv rfl (J14 _ (if_neg c2).symm _ (if_neg c2).symm)
  · have hp := ip_t hpm c2
    refine z_aload_n dX7_done_11 rfl ?_
    refine z_iload_n dX7_done_12 rfl ?_
    refine z_iload_n dX7_done_13 rfl ?_
    have q3 := hp
    refine z_caviD hw (fun sz => c_X7_wrongIn G a hw.1 sz M x1 x2 q3) zc_X7_wrongIn zv_X7_wrongIn tw_m_RX7_269 (mrec wr_P) (zroom_of rfl) rfl (Nat.le_of_ble_eq_true rfl) dX7_done_14 ?_
    refine z_iconst (v := (-1)) dX7_done_17 rfl ?_
    have J17 : ∀ m6 : Int32, m6 = (if ((v_X7_wrongIn M x1 x2).1) = (-1) then (v_X7_barsOfDay M x1 x2) else (-6)) → Z k_X7_done G Γ (wr G A Γ.2.2.1.1.heap (mW G a ((v_X7_wrongIn M x1 x2).2))) 0 0 [(3, .int m6), (0, .ref (a 0)), (1, .int x1), (2, .int x2)] 24 [] := by
      intro m6 em6
      rewrite [em6]; clear em6
      exact z_lv rfl (J14 _ (if_pos c2).symm _ (if_pos c2).symm)
    refine z_icmp_eq (tgt := 24) dX7_done_18 (by decide) (fun c5 => ?_) (fun c5 => ?_)
    · skip
      exact z_lv rfl (J17 _ (if_pos c5).symm)
    · skip
      refine z_bipush (v := (-6)) dX7_done_21 rfl ?_
      refine z_istore_n (lv' := [(3, .int (-6)), (0, .ref (a 0)), (1, .int x1), (2, .int x2)]) dX7_done_23 (Nat.le_of_ble_eq_true rfl) rfl ?_
      exact z_lv rfl (J17 _ (if_neg c5).symm)
theorem dX7_draw_0 : decode cX7_draw 0 = .ok (.aload_n 0, 1) := by decide +kernel
theorem dX7_draw_1 : decode cX7_draw 1 = .ok (.aload_n 0, 1) := by decide +kernel
theorem dX7_draw_2 : decode cX7_draw 2 = .ok (.getfield 19, 3) := by decide +kernel
theorem dX7_draw_5 : decode cX7_draw 5 = .ok (.ldc_w 275, 3) := by decide +kernel
theorem dX7_draw_8 : decode cX7_draw 8 = .ok (.imul, 1) := by decide +kernel
theorem dX7_draw_9 : decode cX7_draw 9 = .ok (.sipush 12345, 3) := by decide +kernel
theorem dX7_draw_12 : decode cX7_draw 12 = .ok (.iadd, 1) := by decide +kernel
theorem dX7_draw_13 : decode cX7_draw 13 = .ok (.putfield 19, 3) := by decide +kernel
theorem dX7_draw_16 : decode cX7_draw 16 = .ok (.aload_n 0, 1) := by decide +kernel
theorem dX7_draw_17 : decode cX7_draw 17 = .ok (.getfield 19, 3) := by decide +kernel
theorem dX7_draw_20 : decode cX7_draw 20 = .ok (.bipush 16, 2) := by decide +kernel
theorem dX7_draw_22 : decode cX7_draw 22 = .ok (.iushr, 1) := by decide +kernel
theorem dX7_draw_23 : decode cX7_draw 23 = .ok (.iload_n 1, 1) := by decide +kernel
theorem dX7_draw_24 : decode cX7_draw 24 = .ok (.irem, 1) := by decide +kernel
theorem dX7_draw_25 : decode cX7_draw 25 = .ok (.ireturn, 1) := by decide +kernel
abbrev k_X7_draw : zK := (cX7_draw, 2, RX7, (some .int), ({ frames := 0, cells := 0, slots := 0, locals := 0 } : Room))
theorem zc_X7_draw : zcal yX7_draw k_X7_draw.1 k_X7_draw.2.1 k_X7_draw.2.2.2.1 1 := ⟨tw_code_yX7_draw, tw_i_TollForHesitatorsModel, ⟨by decide +kernel, by decide +kernel⟩, by decide +kernel⟩
theorem zv_X7_draw : Cond.instanceMethod yX7_draw ∈ TS ∧ Cond.selects RX7 yX7_draw yX7_draw ∈ TS := ⟨tw_inst_yX7_draw, tw_s_yX7_draw⟩
def v_X7_draw (M : mT) (x1 : Int32) : Int32 × mT := kk (((((M.1 6) * 1103515245) + 12345).toUInt32 >>> (((16) : Int32).toUInt32 &&& Int32.toUInt32 31)).toInt32) (fun y1 : Int32 => (y1 - y1 / x1 * x1, msf M 6 (((M.1 6) * 1103515245) + 12345)))
def p_X7_draw (M : mT) (x1 : Int32) : Prop := kk (((((M.1 6) * 1103515245) + 12345).toUInt32 >>> (((16) : Int32).toUInt32 &&& Int32.toUInt32 31)).toInt32) (fun y1 : Int32 => ¬ x1 = 0)
set_option maxHeartbeats 4000000 in
theorem c_X7_draw {l : Launch} (G : zG) (a : Nat → Nat) {X : zX} (hX : XOK X) (sz : Nat) (M : mT) (x1 : Int32) (hp : p_X7_draw M x1) : Met l yX7_draw (.code yX7_draw k_X7_draw.1 k_X7_draw.2.1 k_X7_draw.2.2.2.1 :: TS) k_X7_draw.2.2.2.2 (Pz G [.ref (a 0), .int x1] (Fw G X (mW G a M) sz)) (Qwi G (fun r w => r = (v_X7_draw M x1).1 ∧ w = mW G a (v_X7_draw M x1).2) (va_A (mW G a M) sz)) 0 0 (va_A (mW G a M) sz) := by
  refine zmet (by decide +kernel) rfl rfl (fun Γ hl0 hQ hN hF => ?_)
  refine z_start hX hF (fun hw => ?_)
  generalize va_A (mW G a M) sz = A at hQ hw ⊢
  obtain ⟨res, hv⟩ : ∃ res, v_X7_draw M x1 = res := ⟨_, rfl⟩
  rw [hv] at hQ
  unfold v_X7_draw at hv
  unfold p_X7_draw at hp
  show Z k_X7_draw G Γ _ 0 0 [(0, .ref (a 0)), (1, .int x1)] 0 []
  refine z_aload_n dX7_draw_0 rfl ?_
  refine z_aload_n dX7_draw_1 rfl ?_
  refine mg_6 (v := M.1 6) wr_P rfl rfl dX7_draw_2 ?_
  refine z_ldcw tw_c_RX7_275 dX7_draw_5 ?_
  refine z_imul dX7_draw_8 ?_
  refine z_sipush (v := 12345) dX7_draw_9 rfl ?_
  refine z_iadd dX7_draw_12 ?_
  refine mp_6 (v := ((M.1 6) * 1103515245) + 12345) rfl dX7_draw_13 ?_
  refine z_aload_n dX7_draw_16 rfl ?_
  refine mg_6 (v := ((M.1 6) * 1103515245) + 12345) wr_P rfl rfl dX7_draw_17 ?_
  refine z_bipush (v := 16) dX7_draw_20 rfl ?_
  refine z_iushr dX7_draw_22 ?_
  refine z_iload_n dX7_draw_23 rfl ?_
  suffices z3 : ∀ y1 : Int32, y1 = (((((M.1 6) * 1103515245) + 12345).toUInt32 >>> (((16) : Int32).toUInt32 &&& Int32.toUInt32 31)).toInt32) → Z k_X7_draw G Γ (wr G A Γ.2.2.1.1.heap (mW G a (msf M 6 (((M.1 6) * 1103515245) + 12345)))) 0 0 [(0, .ref (a 0)), (1, .int x1)] 24 [.int x1, .int y1] from z3 _ rfl
  intro y1 hy1
  have hp := kk_pq hp hy1
  have hv := kk_vq hv hy1
  clear hy1
  have q2 := hp
  refine z_irem dX7_draw_24 q2 ?_
  subst hv; exact z_iret_W hQ rfl rfl rfl ⟨rfl, rfl⟩ dX7_draw_25
theorem dX7_days_0 : decode cX7_days 0 = .ok (.aload_n 0, 1) := by decide +kernel
theorem dX7_days_1 : decode cX7_days 1 = .ok (.getfield 99, 3) := by decide +kernel
theorem dX7_days_4 : decode cX7_days 4 = .ok (.ifCond .ne 10, 3) := by decide +kernel
theorem dX7_days_7 : decode cX7_days 7 = .ok (.aload_n 0, 1) := by decide +kernel
theorem dX7_days_8 : decode cX7_days 8 = .ok (.bipush (-5), 2) := by decide +kernel
theorem dX7_days_10 : decode cX7_days 10 = .ok (.invokevirtual 106, 3) := by decide +kernel
theorem dX7_days_13 : decode cX7_days 13 = .ok (.ireturn, 1) := by decide +kernel
theorem dX7_days_14 : decode cX7_days 14 = .ok (.aload_n 0, 1) := by decide +kernel
theorem dX7_days_15 : decode cX7_days 15 = .ok (.iload_n 1, 1) := by decide +kernel
theorem dX7_days_16 : decode cX7_days 16 = .ok (.iconst 1, 1) := by decide +kernel
theorem dX7_days_17 : decode cX7_days 17 = .ok (.bipush 60, 2) := by decide +kernel
theorem dX7_days_19 : decode cX7_days 19 = .ok (.invokevirtual 116, 3) := by decide +kernel
theorem dX7_days_22 : decode cX7_days 22 = .ok (.ifCond .ne 10, 3) := by decide +kernel
theorem dX7_days_25 : decode cX7_days 25 = .ok (.aload_n 0, 1) := by decide +kernel
theorem dX7_days_26 : decode cX7_days 26 = .ok (.bipush (-6), 2) := by decide +kernel
theorem dX7_days_28 : decode cX7_days 28 = .ok (.invokevirtual 106, 3) := by decide +kernel
theorem dX7_days_31 : decode cX7_days 31 = .ok (.ireturn, 1) := by decide +kernel
theorem dX7_days_32 : decode cX7_days 32 = .ok (.iconst 0, 1) := by decide +kernel
theorem dX7_days_33 : decode cX7_days 33 = .ok (.istore_n 2, 1) := by decide +kernel
theorem dX7_days_34 : decode cX7_days 34 = .ok (.iconst 0, 1) := by decide +kernel
theorem dX7_days_35 : decode cX7_days 35 = .ok (.istore_n 3, 1) := by decide +kernel
theorem dX7_days_36 : decode cX7_days 36 = .ok (.iload_n 3, 1) := by decide +kernel
theorem dX7_days_37 : decode cX7_days 37 = .ok (.iload_n 1, 1) := by decide +kernel
theorem dX7_days_38 : decode cX7_days 38 = .ok (.if_icmp .ge 74, 3) := by decide +kernel
theorem dX7_days_41 : decode cX7_days 41 = .ok (.aload_n 0, 1) := by decide +kernel
theorem dX7_days_42 : decode cX7_days 42 = .ok (.aload_n 0, 1) := by decide +kernel
theorem dX7_days_43 : decode cX7_days 43 = .ok (.bipush 10, 2) := by decide +kernel
theorem dX7_days_45 : decode cX7_days 45 = .ok (.invokevirtual 276, 3) := by decide +kernel
theorem dX7_days_48 : decode cX7_days 48 = .ok (.putfield 124, 3) := by decide +kernel
theorem dX7_days_51 : decode cX7_days 51 = .ok (.iconst 0, 1) := by decide +kernel
theorem dX7_days_52 : decode cX7_days 52 = .ok (.istore 4, 2) := by decide +kernel
theorem dX7_days_54 : decode cX7_days 54 = .ok (.iload 4, 2) := by decide +kernel
theorem dX7_days_56 : decode cX7_days 56 = .ok (.aload_n 0, 1) := by decide +kernel
theorem dX7_days_57 : decode cX7_days 57 = .ok (.getfield 99, 3) := by decide +kernel
theorem dX7_days_60 : decode cX7_days 60 = .ok (.if_icmp .ge 18, 3) := by decide +kernel
theorem dX7_days_63 : decode cX7_days 63 = .ok (.aload_n 0, 1) := by decide +kernel
theorem dX7_days_64 : decode cX7_days 64 = .ok (.getfield 87, 3) := by decide +kernel
theorem dX7_days_67 : decode cX7_days 67 = .ok (.iload 4, 2) := by decide +kernel
theorem dX7_days_69 : decode cX7_days 69 = .ok (.iload 4, 2) := by decide +kernel
theorem dX7_days_71 : decode cX7_days 71 = .ok (.iastore, 1) := by decide +kernel
theorem dX7_days_72 : decode cX7_days 72 = .ok (.iinc 4 1, 3) := by decide +kernel
theorem dX7_days_75 : decode cX7_days 75 = .ok (.goto (-21), 3) := by decide +kernel
theorem dX7_days_78 : decode cX7_days 78 = .ok (.aload_n 0, 1) := by decide +kernel
theorem dX7_days_79 : decode cX7_days 79 = .ok (.aload_n 0, 1) := by decide +kernel
theorem dX7_days_80 : decode cX7_days 80 = .ok (.getfield 99, 3) := by decide +kernel
theorem dX7_days_83 : decode cX7_days 83 = .ok (.invokevirtual 236, 3) := by decide +kernel
theorem dX7_days_86 : decode cX7_days 86 = .ok (.iload_n 2, 1) := by decide +kernel
theorem dX7_days_87 : decode cX7_days 87 = .ok (.aload_n 0, 1) := by decide +kernel
theorem dX7_days_88 : decode cX7_days 88 = .ok (.getfield 223, 3) := by decide +kernel
theorem dX7_days_91 : decode cX7_days 91 = .ok (.aload_n 0, 1) := by decide +kernel
theorem dX7_days_92 : decode cX7_days 92 = .ok (.getfield 13, 3) := by decide +kernel
theorem dX7_days_95 : decode cX7_days 95 = .ok (.imul, 1) := by decide +kernel
theorem dX7_days_96 : decode cX7_days 96 = .ok (.iadd, 1) := by decide +kernel
theorem dX7_days_97 : decode cX7_days 97 = .ok (.istore_n 2, 1) := by decide +kernel
theorem dX7_days_98 : decode cX7_days 98 = .ok (.aload_n 0, 1) := by decide +kernel
theorem dX7_days_99 : decode cX7_days 99 = .ok (.aload_n 0, 1) := by decide +kernel
theorem dX7_days_100 : decode cX7_days 100 = .ok (.getfield 99, 3) := by decide +kernel
theorem dX7_days_103 : decode cX7_days 103 = .ok (.invokevirtual 272, 3) := by decide +kernel
theorem dX7_days_106 : decode cX7_days 106 = .ok (.iinc 3 1, 3) := by decide +kernel
theorem dX7_days_109 : decode cX7_days 109 = .ok (.goto (-73), 3) := by decide +kernel
theorem dX7_days_112 : decode cX7_days 112 = .ok (.iload_n 2, 1) := by decide +kernel
theorem dX7_days_113 : decode cX7_days 113 = .ok (.ireturn, 1) := by decide +kernel
abbrev k_X7_days : zK := (cX7_days, 5, RX7, (some .int), ({ frames := 5, cells := 0, slots := 0, locals := 120 } : Room))
theorem zc_X7_days : zcal yX7_days k_X7_days.1 k_X7_days.2.1 k_X7_days.2.2.2.1 1 := ⟨tw_code_yX7_days, tw_i_TollForHesitatorsModel, ⟨by decide +kernel, by decide +kernel⟩, by decide +kernel⟩
theorem zv_X7_days : Cond.instanceMethod yX7_days ∈ TS ∧ Cond.selects RX7 yX7_days yX7_days ∈ TS := ⟨tw_inst_yX7_days, tw_s_yX7_days⟩
def v_X7_days_r : Nat → Nat → mT → Int32 → Int32 → Int32 → Int32 → Int32 × mT
  | 0, _, M, _, _, _, _ => (0, M)
  | n + 1, l, M, v1, v2, v3, v4 => if l = 0 then if v1 ≤ v3 then (v2, M) else kk (v_X7_draw M 10) (fun q11 : Int32 × mT => v_X7_days_r n 1 (msf q11.2 2 q11.1) v1 v2 v3 0) else if (M.1 0) ≤ v4 then kk (v_X7_comes M (M.1 0)) (fun q15 : mT => kk (v_X7_passes q15 (q15.1 0)) (fun q17 : mT => v_X7_days_r n 0 q17 v1 (v2 + ((q15.1 38) * (q15.1 3))) (v3 + 1) 0)) else v_X7_days_r n 1 (msa M 33 (upd (M.2.1 33) v4.toNatClampNeg v4)) v1 v2 v3 (v4 + 1)
def p_X7_days_r : Nat → Nat → mT → Int32 → Int32 → Int32 → Int32 → Prop
  | 0, _, _, _, _, _, _ => False
  | n + 1, l, M, v1, v2, v3, v4 => if l = 0 then if v1 ≤ v3 then True else p_X7_draw M 10 ∧ (kk (v_X7_draw M 10) (fun q11 : Int32 × mT => p_X7_days_r n 1 (msf q11.2 2 q11.1) v1 v2 v3 0)) else if (M.1 0) ≤ v4 then (p_X7_comes M (M.1 0)) ∧ (kk (v_X7_comes M (M.1 0)) (fun q15 : mT => (p_X7_passes q15 (q15.1 0)) ∧ (kk (v_X7_passes q15 (q15.1 0)) (fun q17 : mT => p_X7_days_r n 0 q17 v1 (v2 + ((q15.1 38) * (q15.1 3))) (v3 + 1) 0)))) else vp_in v4 7 ∧ (p_X7_days_r n 1 (msa M 33 (upd (M.2.1 33) v4.toNatClampNeg v4)) v1 v2 v3 (v4 + 1))
set_option maxHeartbeats 4000000 in
theorem w_X7_days {G : zG} {Γ : zT} {a : Nat → Nat} {A : Nat → Prop} {res : Int32 × mT} {X : zX} (hw : wk X A Γ.2.2.1.1.heap) (hQ : zQ Γ (Qwi G (fun r w => r = res.1 ∧ w = mW G a res.2) A) 0 0 A) : ∀ n : Nat, (∀ (M : mT) (v1 : Int32) (v2 : Int32) (v3 : Int32) (v4 : Int32), p_X7_days_r n 0 M v1 v2 v3 v4 → v_X7_days_r n 0 M v1 v2 v3 v4 = res → Z k_X7_days G Γ (wr G A Γ.2.2.1.1.heap (mW G a M)) 0 0 [(0, .ref (a 0)), (1, .int v1), (2, .int v2), (3, .int v3)] 36 []) ∧ (∀ (M : mT) (v1 : Int32) (v2 : Int32) (v3 : Int32) (v4 : Int32), p_X7_days_r n 1 M v1 v2 v3 v4 → v_X7_days_r n 1 M v1 v2 v3 v4 = res → Z k_X7_days G Γ (wr G A Γ.2.2.1.1.heap (mW G a M)) 0 0 [(0, .ref (a 0)), (1, .int v1), (2, .int v2), (3, .int v3), (4, .int v4)] 54 []) := by
  intro n
  induction n with
  | zero => exact ⟨fun M v1 v2 v3 v4 hp => absurd hp (by rw [p_X7_days_r]; exact not_false), fun M v1 v2 v3 v4 hp => absurd hp (by rw [p_X7_days_r]; exact not_false)⟩
  | succ n ih =>
    refine ⟨?_, ?_⟩
    · intro M v1 v2 v3 v4 hp hv
      rw [p_X7_days_r] at hp
      rw [v_X7_days_r] at hv
      have hp := ip_t hp rfl
      have hv := it_t hv rfl
      refine z_iload_n dX7_days_36 rfl ?_
      refine z_iload_n dX7_days_37 rfl ?_
      refine z_icmp_ge (tgt := 112) dX7_days_38 (by decide) (fun c7 => ?_) (fun c7 => ?_)
      · have hp := ip_t hp c7; have hv := it_t hv c7
        refine z_iload_n dX7_days_112 rfl ?_
        subst hv; exact z_iret_W hQ rfl rfl rfl ⟨rfl, rfl⟩ dX7_days_113
      · have hp := ip_f hp c7; have hv := it_f hv c7
        refine z_aload_n dX7_days_41 rfl ?_
        refine z_aload_n dX7_days_42 rfl ?_
        refine z_bipush (v := 10) dX7_days_43 rfl ?_
        obtain ⟨q10, hp⟩ := hp
        refine z_caviD hw (fun sz => c_X7_draw G a hw.1 sz M 10 q10) zc_X7_draw zv_X7_draw tw_m_RX7_276 (mrec wr_P) (zroom_of rfl) rfl (Nat.le_of_ble_eq_true rfl) dX7_days_45 ?_
        suffices z19 : ∀ q11 : Int32 × mT, q11 = (v_X7_draw M 10) → Z k_X7_days G Γ (wr G A Γ.2.2.1.1.heap (mW G a q11.2)) 0 0 [(0, .ref (a 0)), (1, .int v1), (2, .int v2), (3, .int v3)] 48 [.int q11.1, .ref (a 0)] from z19 _ rfl
        intro q11 hq11
        have hp := kk_pq hp hq11
        have hv := kk_vq hv hq11
        clear hq11
        refine mp_2 (v := q11.1) rfl dX7_days_48 ?_
        refine z_iconst (v := 0) dX7_days_51 rfl ?_
        refine z_istore (lv' := [(4, .int 0), (0, .ref (a 0)), (1, .int v1), (2, .int v2), (3, .int v3)]) dX7_days_52 (Nat.le_of_ble_eq_true rfl) rfl ?_
        exact z_lv rfl ((ih).2 (msf q11.2 2 q11.1) v1 v2 v3 0 hp hv)
    · intro M v1 v2 v3 v4 hp hv
      rw [p_X7_days_r] at hp
      rw [v_X7_days_r] at hv
      have hp := ip_f hp (by decide)
      have hv := it_f hv (by decide)
      refine z_iload dX7_days_54 rfl ?_
      refine z_aload_n dX7_days_56 rfl ?_
      refine mg_0 (v := M.1 0) wr_P rfl rfl dX7_days_57 ?_
      refine z_icmp_ge (tgt := 78) dX7_days_60 (by decide) (fun c12 => ?_) (fun c12 => ?_)
      · have hp := ip_t hp c12; have hv := it_t hv c12
        refine z_aload_n dX7_days_78 rfl ?_
        refine z_aload_n dX7_days_79 rfl ?_
        refine mg_0 (v := M.1 0) wr_P rfl rfl dX7_days_80 ?_
        obtain ⟨q14, hp⟩ := hp
        refine z_cavvD hw (fun sz => c_X7_comes G a hw.1 sz M (M.1 0) q14) zc_X7_comes zv_X7_comes tw_m_RX7_236 (mrec wr_P) (zroom_of rfl) rfl (Nat.le_of_ble_eq_true rfl) dX7_days_83 ?_
        suffices z20 : ∀ q15 : mT, q15 = (v_X7_comes M (M.1 0)) → Z k_X7_days G Γ (wr G A Γ.2.2.1.1.heap (mW G a q15)) 0 0 [(0, .ref (a 0)), (1, .int v1), (2, .int v2), (3, .int v3), (4, .int v4)] 86 [] from z20 _ rfl
        intro q15 hq15
        have hp := kk_pq hp hq15
        have hv := kk_vq hv hq15
        clear hq15
        refine z_iload_n dX7_days_86 rfl ?_
        refine z_aload_n dX7_days_87 rfl ?_
        refine mg_38 (v := q15.1 38) wr_P rfl rfl dX7_days_88 ?_
        refine z_aload_n dX7_days_91 rfl ?_
        refine mg_3 (v := q15.1 3) wr_P rfl rfl dX7_days_92 ?_
        refine z_imul dX7_days_95 ?_
        refine z_iadd dX7_days_96 ?_
        refine z_istore_n (lv' := [(2, .int (v2 + ((q15.1 38) * (q15.1 3)))), (0, .ref (a 0)), (1, .int v1), (3, .int v3), (4, .int v4)]) dX7_days_97 (Nat.le_of_ble_eq_true rfl) rfl ?_
        refine z_aload_n dX7_days_98 rfl ?_
        refine z_aload_n dX7_days_99 rfl ?_
        refine mg_0 (v := q15.1 0) wr_P rfl rfl dX7_days_100 ?_
        obtain ⟨q16, hp⟩ := hp
        refine z_cavvD hw (fun sz => c_X7_passes G a hw.1 sz q15 (q15.1 0) q16) zc_X7_passes zv_X7_passes tw_m_RX7_272 (mrec wr_P) (zroom_of rfl) rfl (Nat.le_of_ble_eq_true rfl) dX7_days_103 ?_
        suffices z21 : ∀ q17 : mT, q17 = (v_X7_passes q15 (q15.1 0)) → Z k_X7_days G Γ (wr G A Γ.2.2.1.1.heap (mW G a q17)) 0 0 [(2, .int (v2 + ((q15.1 38) * (q15.1 3)))), (0, .ref (a 0)), (1, .int v1), (3, .int v3), (4, .int v4)] 106 [] from z21 _ rfl
        intro q17 hq17
        have hp := kk_pq hp hq17
        have hv := kk_vq hv hq17
        clear hq17
        refine z_iinc (v := v3 + 1) (lv' := [(3, .int (v3 + 1)), (2, .int (v2 + ((q15.1 38) * (q15.1 3)))), (0, .ref (a 0)), (1, .int v1), (4, .int v4)]) dX7_days_106 3 rfl rfl (Nat.le_of_ble_eq_true rfl) rfl ?_
        refine z_goto (tgt := 36) dX7_days_109 (by decide) ?_
        exact z_lv rfl ((ih).1 q17 v1 (v2 + ((q15.1 38) * (q15.1 3))) (v3 + 1) 0 hp hv)
      · have hp := ip_f hp c12; have hv := it_f hv c12
        refine z_aload_n dX7_days_63 rfl ?_
        refine mg_33 wr_P rfl dX7_days_64 ?_
        refine z_iload dX7_days_67 rfl ?_
        refine z_iload dX7_days_69 rfl ?_
        obtain ⟨q18, hp⟩ := hp
        refine ms_33 (F := upd (M.2.1 33) v4.toNatClampNeg v4) q18 rfl dX7_days_71 ?_
        refine z_iinc (v := v4 + 1) (lv' := [(4, .int (v4 + 1)), (0, .ref (a 0)), (1, .int v1), (2, .int v2), (3, .int v3)]) dX7_days_72 4 rfl rfl (Nat.le_of_ble_eq_true rfl) rfl ?_
        refine z_goto (tgt := 54) dX7_days_75 (by decide) ?_
        exact z_lv rfl ((ih).2 (msa M 33 (upd (M.2.1 33) v4.toNatClampNeg v4)) v1 v2 v3 (v4 + 1) hp hv)
def v_X7_days (M : mT) (x1 : Int32) : Int32 × mT := if (M.1 0) = 0 then kk (v_X7_no M (-5)) (fun q6 : Int32 × mT => (q6.1, q6.2)) else if (v_X7_isFrom M x1 1 60) = 0 then kk (v_X7_no M (-6)) (fun q4 : Int32 × mT => (q4.1, q4.2)) else v_X7_days_r 800 0 M x1 0 0 0
def p_X7_days (M : mT) (x1 : Int32) : Prop := if (M.1 0) = 0 then p_X7_no M (-5) else if (v_X7_isFrom M x1 1 60) = 0 then p_X7_no M (-6) else p_X7_days_r 800 0 M x1 0 0 0
set_option maxHeartbeats 4000000 in
theorem c_X7_days {l : Launch} (G : zG) (a : Nat → Nat) {X : zX} (hX : XOK X) (sz : Nat) (M : mT) (x1 : Int32) (hp : p_X7_days M x1) : Met l yX7_days (.code yX7_days k_X7_days.1 k_X7_days.2.1 k_X7_days.2.2.2.1 :: TS) k_X7_days.2.2.2.2 (Pz G [.ref (a 0), .int x1] (Fw G X (mW G a M) sz)) (Qwi G (fun r w => r = (v_X7_days M x1).1 ∧ w = mW G a (v_X7_days M x1).2) (va_A (mW G a M) sz)) 0 0 (va_A (mW G a M) sz) := by
  refine zmet (by decide +kernel) rfl rfl (fun Γ hl0 hQ hN hF => ?_)
  refine z_start hX hF (fun hw => ?_)
  generalize va_A (mW G a M) sz = A at hQ hw ⊢
  obtain ⟨res, hv⟩ : ∃ res, v_X7_days M x1 = res := ⟨_, rfl⟩
  rw [hv] at hQ
  unfold v_X7_days at hv
  unfold p_X7_days at hp
  show Z k_X7_days G Γ _ 0 0 [(0, .ref (a 0)), (1, .int x1)] 0 []
  refine z_aload_n dX7_days_0 rfl ?_
  refine mg_0 (v := M.1 0) wr_P rfl rfl dX7_days_1 ?_
  refine z_if_ne (tgt := 14) dX7_days_4 (by decide) (fun c1 => ?_) (fun c1 => ?_)
  · have hp := ip_f hp c1; have hv := it_f hv c1
    refine z_aload_n dX7_days_14 rfl ?_
    refine z_iload_n dX7_days_15 rfl ?_
    refine z_iconst (v := 1) dX7_days_16 rfl ?_
    refine z_bipush (v := 60) dX7_days_17 rfl ?_
    refine z_cvi (c_X7_isFrom G a M x1 1 60 ) zc_X7_isFrom zv_X7_isFrom tw_m_RX7_116 (mrec wr_P) wr_P (zroom_of rfl) rfl (Nat.le_of_ble_eq_true rfl) dX7_days_19 ?_
    refine z_if_ne (tgt := 32) dX7_days_22 (by decide) (fun c2 => ?_) (fun c2 => ?_)
    · have hp := ip_f hp c2; have hv := it_f hv c2
      refine z_iconst (v := 0) dX7_days_32 rfl ?_
      refine z_istore_n (lv' := [(2, .int 0), (0, .ref (a 0)), (1, .int x1)]) dX7_days_33 (Nat.le_of_ble_eq_true rfl) rfl ?_
      refine z_iconst (v := 0) dX7_days_34 rfl ?_
      refine z_istore_n (lv' := [(3, .int 0), (2, .int 0), (0, .ref (a 0)), (1, .int x1)]) dX7_days_35 (Nat.le_of_ble_eq_true rfl) rfl ?_
      exact z_lv rfl ((w_X7_days hw hQ 800).1 M x1 0 0 0 hp hv)
    · have hp := ip_t hp c2; have hv := it_t hv c2
      refine z_aload_n dX7_days_25 rfl ?_
      refine z_bipush (v := (-6)) dX7_days_26 rfl ?_
      have q3 := hp
      refine z_caviD hw (fun sz => c_X7_no G a hw.1 sz M (-6) q3) zc_X7_no zv_X7_no tw_m_RX7_106 (mrec wr_P) (zroom_of rfl) rfl (Nat.le_of_ble_eq_true rfl) dX7_days_28 ?_
      suffices z22 : ∀ q4 : Int32 × mT, q4 = (v_X7_no M (-6)) → Z k_X7_days G Γ (wr G A Γ.2.2.1.1.heap (mW G a q4.2)) 0 0 [(0, .ref (a 0)), (1, .int x1)] 31 [.int q4.1] from z22 _ rfl
      intro q4 hq4
      have hv := kk_vq hv hq4
      clear hq4
      subst hv; exact z_iret_W hQ rfl rfl rfl ⟨rfl, rfl⟩ dX7_days_31
  · have hp := ip_t hp c1; have hv := it_t hv c1
    refine z_aload_n dX7_days_7 rfl ?_
    refine z_bipush (v := (-5)) dX7_days_8 rfl ?_
    have q5 := hp
    refine z_caviD hw (fun sz => c_X7_no G a hw.1 sz M (-5) q5) zc_X7_no zv_X7_no tw_m_RX7_106 (mrec wr_P) (zroom_of rfl) rfl (Nat.le_of_ble_eq_true rfl) dX7_days_10 ?_
    suffices z23 : ∀ q6 : Int32 × mT, q6 = (v_X7_no M (-5)) → Z k_X7_days G Γ (wr G A Γ.2.2.1.1.heap (mW G a q6.2)) 0 0 [(0, .ref (a 0)), (1, .int x1)] 13 [.int q6.1] from z23 _ rfl
    intro q6 hq6
    have hv := kk_vq hv hq6
    clear hq6
    subst hv; exact z_iret_W hQ rfl rfl rfl ⟨rfl, rfl⟩ dX7_days_13
theorem dX7_seed_0 : decode cX7_seed 0 = .ok (.aload_n 0, 1) := by decide +kernel
theorem dX7_seed_1 : decode cX7_seed 1 = .ok (.getfield 19, 3) := by decide +kernel
theorem dX7_seed_4 : decode cX7_seed 4 = .ok (.istore_n 2, 1) := by decide +kernel
theorem dX7_seed_5 : decode cX7_seed 5 = .ok (.aload_n 0, 1) := by decide +kernel
theorem dX7_seed_6 : decode cX7_seed 6 = .ok (.iload_n 1, 1) := by decide +kernel
theorem dX7_seed_7 : decode cX7_seed 7 = .ok (.putfield 19, 3) := by decide +kernel
theorem dX7_seed_10 : decode cX7_seed 10 = .ok (.iload_n 2, 1) := by decide +kernel
theorem dX7_seed_11 : decode cX7_seed 11 = .ok (.ireturn, 1) := by decide +kernel
abbrev k_X7_seed : zK := (cX7_seed, 3, RX7, (some .int), ({ frames := 0, cells := 0, slots := 0, locals := 0 } : Room))
theorem zc_X7_seed : zcal yX7_seed k_X7_seed.1 k_X7_seed.2.1 k_X7_seed.2.2.2.1 1 := ⟨tw_code_yX7_seed, tw_i_TollForHesitatorsModel, ⟨by decide +kernel, by decide +kernel⟩, by decide +kernel⟩
theorem zv_X7_seed : Cond.instanceMethod yX7_seed ∈ TS ∧ Cond.selects RX7 yX7_seed yX7_seed ∈ TS := ⟨tw_inst_yX7_seed, tw_s_yX7_seed⟩
def v_X7_seed (M : mT) (x1 : Int32) : Int32 × mT := (M.1 6, msf M 6 x1)
set_option maxHeartbeats 4000000 in
theorem c_X7_seed {l : Launch} (G : zG) (a : Nat → Nat) {X : zX} (hX : XOK X) (sz : Nat) (M : mT) (x1 : Int32) : Met l yX7_seed (.code yX7_seed k_X7_seed.1 k_X7_seed.2.1 k_X7_seed.2.2.2.1 :: TS) k_X7_seed.2.2.2.2 (Pz G [.ref (a 0), .int x1] (Fw G X (mW G a M) sz)) (Qwi G (fun r w => r = (v_X7_seed M x1).1 ∧ w = mW G a (v_X7_seed M x1).2) (va_A (mW G a M) sz)) 0 0 (va_A (mW G a M) sz) := by
  refine zmet (by decide +kernel) rfl rfl (fun Γ hl0 hQ hN hF => ?_)
  refine z_start hX hF (fun hw => ?_)
  generalize va_A (mW G a M) sz = A at hQ hw ⊢
  obtain ⟨res, hv⟩ : ∃ res, v_X7_seed M x1 = res := ⟨_, rfl⟩
  rw [hv] at hQ
  unfold v_X7_seed at hv
  show Z k_X7_seed G Γ _ 0 0 [(0, .ref (a 0)), (1, .int x1)] 0 []
  refine z_aload_n dX7_seed_0 rfl ?_
  refine mg_6 (v := M.1 6) wr_P rfl rfl dX7_seed_1 ?_
  refine z_istore_n (lv' := [(2, .int (M.1 6)), (0, .ref (a 0)), (1, .int x1)]) dX7_seed_4 (Nat.le_of_ble_eq_true rfl) rfl ?_
  refine z_aload_n dX7_seed_5 rfl ?_
  refine z_iload_n dX7_seed_6 rfl ?_
  refine mp_6 (v := x1) rfl dX7_seed_7 ?_
  refine z_iload_n dX7_seed_10 rfl ?_
  subst hv; exact z_iret_W hQ rfl rfl rfl ⟨rfl, rfl⟩ dX7_seed_11
theorem dX7_body_0 : decode cX7_body 0 = .ok (.aload_n 0, 1) := by decide +kernel
theorem dX7_body_1 : decode cX7_body 1 = .ok (.getfield 279, 3) := by decide +kernel
theorem dX7_body_4 : decode cX7_body 4 = .ok (.bipush 20, 2) := by decide +kernel
theorem dX7_body_6 : decode cX7_body 6 = .ok (.if_icmp .ge 13, 3) := by decide +kernel
theorem dX7_body_9 : decode cX7_body 9 = .ok (.aload_n 0, 1) := by decide +kernel
theorem dX7_body_10 : decode cX7_body 10 = .ok (.getfield 96, 3) := by decide +kernel
theorem dX7_body_13 : decode cX7_body 13 = .ok (.aload_n 0, 1) := by decide +kernel
theorem dX7_body_14 : decode cX7_body 14 = .ok (.getfield 279, 3) := by decide +kernel
theorem dX7_body_17 : decode cX7_body 17 = .ok (.iload_n 1, 1) := by decide +kernel
theorem dX7_body_18 : decode cX7_body 18 = .ok (.iastore, 1) := by decide +kernel
theorem dX7_body_19 : decode cX7_body 19 = .ok (.aload_n 0, 1) := by decide +kernel
theorem dX7_body_20 : decode cX7_body 20 = .ok (.dup, 1) := by decide +kernel
theorem dX7_body_21 : decode cX7_body 21 = .ok (.getfield 279, 3) := by decide +kernel
theorem dX7_body_24 : decode cX7_body 24 = .ok (.iconst 1, 1) := by decide +kernel
theorem dX7_body_25 : decode cX7_body 25 = .ok (.iadd, 1) := by decide +kernel
theorem dX7_body_26 : decode cX7_body 26 = .ok (.putfield 279, 3) := by decide +kernel
theorem dX7_body_29 : decode cX7_body 29 = .ok (.return_, 1) := by decide +kernel
abbrev k_X7_body : zK := (cX7_body, 2, RX7, none, ({ frames := 0, cells := 0, slots := 0, locals := 0 } : Room))
theorem zc_X7_body : zcal yX7_body k_X7_body.1 k_X7_body.2.1 k_X7_body.2.2.2.1 1 := ⟨tw_code_yX7_body, tw_i_TollForHesitatorsModel, ⟨by decide +kernel, by decide +kernel⟩, by decide +kernel⟩
theorem zv_X7_body : Cond.instanceMethod yX7_body ∈ TS ∧ Cond.selects RX7 yX7_body yX7_body ∈ TS := ⟨tw_inst_yX7_body, tw_s_yX7_body⟩
def v_X7_body (M : mT) (x1 : Int32) : mT := kk (if 20 ≤ (M.1 43) then M else msa M 42 (upd (M.2.1 42) (M.1 43).toNatClampNeg x1)) (fun M3 : mT => msf M3 43 ((M3.1 43) + 1))
def p_X7_body (M : mT) (x1 : Int32) : Prop := if 20 ≤ (M.1 43) then True else vp_in (M.1 43) 20
set_option maxHeartbeats 4000000 in
theorem c_X7_body {l : Launch} (G : zG) (a : Nat → Nat) {X : zX} (hX : XOK X) (sz : Nat) (M : mT) (x1 : Int32) (hp : p_X7_body M x1) : Met l yX7_body (.code yX7_body k_X7_body.1 k_X7_body.2.1 k_X7_body.2.2.2.1 :: TS) k_X7_body.2.2.2.2 (Pz G [.ref (a 0), .int x1] (Fw G X (mW G a M) sz)) (Qwv G (fun w => w = mW G a (v_X7_body M x1)) (va_A (mW G a M) sz)) 0 0 (va_A (mW G a M) sz) := by
  refine zmet (by decide +kernel) rfl rfl (fun Γ hl0 hQ hN hF => ?_)
  refine z_start hX hF (fun hw => ?_)
  generalize va_A (mW G a M) sz = A at hQ hw ⊢
  obtain ⟨res, hv⟩ : ∃ res, v_X7_body M x1 = res := ⟨_, rfl⟩
  rw [hv] at hQ
  unfold v_X7_body at hv
  unfold p_X7_body at hp
  show Z k_X7_body G Γ _ 0 0 [(0, .ref (a 0)), (1, .int x1)] 0 []
  refine z_aload_n dX7_body_0 rfl ?_
  refine mg_43 (v := M.1 43) wr_P rfl rfl dX7_body_1 ?_
  refine z_bipush (v := 20) dX7_body_4 rfl ?_
  have hpm := hp
  have J4 : ∀ M3 : mT, M3 = (if 20 ≤ (M.1 43) then M else msa M 42 (upd (M.2.1 42) (M.1 43).toNatClampNeg x1)) → Z k_X7_body G Γ (wr G A Γ.2.2.1.1.heap (mW G a M3)) 0 0 [(0, .ref (a 0)), (1, .int x1)] 19 [] := by
    intro M3 eM3
    have hv := kk_vq hv eM3
    clear eM3
    refine z_aload_n dX7_body_19 rfl ?_
    refine z_dup dX7_body_20 rfl ?_
    refine mg_43 (v := M3.1 43) wr_P rfl rfl dX7_body_21 ?_
    refine z_iconst (v := 1) dX7_body_24 rfl ?_
    refine z_iadd dX7_body_25 ?_
    refine mp_43 (v := (M3.1 43) + 1) rfl dX7_body_26 ?_
    subst hv; exact z_vret_W hQ rfl rfl rfl rfl dX7_body_29
  refine z_icmp_ge (tgt := 19) dX7_body_6 (by decide) (fun c1 => ?_) (fun c1 => ?_)
  · have hp := ip_t hpm c1
    exact z_lv rfl (J4 _ (if_pos c1).symm)
  · have hp := ip_f hpm c1
    refine z_aload_n dX7_body_9 rfl ?_
    refine mg_42 wr_P rfl dX7_body_10 ?_
    refine z_aload_n dX7_body_13 rfl ?_
    refine mg_43 (v := M.1 43) wr_P rfl rfl dX7_body_14 ?_
    refine z_iload_n dX7_body_17 rfl ?_
    have q2 := hp
    refine ms_42 (F := upd (M.2.1 42) (M.1 43).toNatClampNeg x1) q2 rfl dX7_body_18 ?_
    exact z_lv rfl (J4 _ (if_neg c1).symm)
