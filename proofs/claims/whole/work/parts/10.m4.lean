theorem dX7_lays_0 : decode cX7_lays 0 = .ok (.iload_n 1, 1) := by decide +kernel
theorem dX7_lays_1 : decode cX7_lays 1 = .ok (.aload_n 0, 1) := by decide +kernel
theorem dX7_lays_2 : decode cX7_lays 2 = .ok (.getfield 99, 3) := by decide +kernel
theorem dX7_lays_5 : decode cX7_lays 5 = .ok (.if_icmp .ge 51, 3) := by decide +kernel
theorem dX7_lays_8 : decode cX7_lays 8 = .ok (.iconst 0, 1) := by decide +kernel
theorem dX7_lays_9 : decode cX7_lays 9 = .ok (.istore_n 3, 1) := by decide +kernel
theorem dX7_lays_10 : decode cX7_lays 10 = .ok (.iload_n 3, 1) := by decide +kernel
theorem dX7_lays_11 : decode cX7_lays 11 = .ok (.aload_n 0, 1) := by decide +kernel
theorem dX7_lays_12 : decode cX7_lays 12 = .ok (.getfield 99, 3) := by decide +kernel
theorem dX7_lays_15 : decode cX7_lays 15 = .ok (.if_icmp .ge 40, 3) := by decide +kernel
theorem dX7_lays_18 : decode cX7_lays 18 = .ok (.iload_n 2, 1) := by decide +kernel
theorem dX7_lays_19 : decode cX7_lays 19 = .ok (.iload_n 3, 1) := by decide +kernel
theorem dX7_lays_20 : decode cX7_lays 20 = .ok (.ishr, 1) := by decide +kernel
theorem dX7_lays_21 : decode cX7_lays 21 = .ok (.iconst 1, 1) := by decide +kernel
theorem dX7_lays_22 : decode cX7_lays 22 = .ok (.iand, 1) := by decide +kernel
theorem dX7_lays_23 : decode cX7_lays 23 = .ok (.iconst 1, 1) := by decide +kernel
theorem dX7_lays_24 : decode cX7_lays 24 = .ok (.if_icmp .ne 6, 3) := by decide +kernel
theorem dX7_lays_27 : decode cX7_lays 27 = .ok (.goto 22, 3) := by decide +kernel
theorem dX7_lays_30 : decode cX7_lays 30 = .ok (.aload_n 0, 1) := by decide +kernel
theorem dX7_lays_31 : decode cX7_lays 31 = .ok (.getfield 87, 3) := by decide +kernel
theorem dX7_lays_34 : decode cX7_lays 34 = .ok (.iload_n 1, 1) := by decide +kernel
theorem dX7_lays_35 : decode cX7_lays 35 = .ok (.iload_n 3, 1) := by decide +kernel
theorem dX7_lays_36 : decode cX7_lays 36 = .ok (.iastore, 1) := by decide +kernel
theorem dX7_lays_37 : decode cX7_lays 37 = .ok (.aload_n 0, 1) := by decide +kernel
theorem dX7_lays_38 : decode cX7_lays 38 = .ok (.iload_n 1, 1) := by decide +kernel
theorem dX7_lays_39 : decode cX7_lays 39 = .ok (.iconst 1, 1) := by decide +kernel
theorem dX7_lays_40 : decode cX7_lays 40 = .ok (.iadd, 1) := by decide +kernel
theorem dX7_lays_41 : decode cX7_lays 41 = .ok (.iload_n 2, 1) := by decide +kernel
theorem dX7_lays_42 : decode cX7_lays 42 = .ok (.iconst 1, 1) := by decide +kernel
theorem dX7_lays_43 : decode cX7_lays 43 = .ok (.iload_n 3, 1) := by decide +kernel
theorem dX7_lays_44 : decode cX7_lays 44 = .ok (.ishl, 1) := by decide +kernel
theorem dX7_lays_45 : decode cX7_lays 45 = .ok (.iadd, 1) := by decide +kernel
theorem dX7_lays_46 : decode cX7_lays 46 = .ok (.invokevirtual 243, 3) := by decide +kernel
theorem dX7_lays_49 : decode cX7_lays 49 = .ok (.iinc 3 1, 3) := by decide +kernel
theorem dX7_lays_52 : decode cX7_lays 52 = .ok (.goto (-42), 3) := by decide +kernel
theorem dX7_lays_55 : decode cX7_lays 55 = .ok (.return_, 1) := by decide +kernel
theorem dX7_lays_56 : decode cX7_lays 56 = .ok (.aload_n 0, 1) := by decide +kernel
theorem dX7_lays_57 : decode cX7_lays 57 = .ok (.aload_n 0, 1) := by decide +kernel
theorem dX7_lays_58 : decode cX7_lays 58 = .ok (.getfield 99, 3) := by decide +kernel
theorem dX7_lays_61 : decode cX7_lays 61 = .ok (.invokevirtual 236, 3) := by decide +kernel
theorem dX7_lays_64 : decode cX7_lays 64 = .ok (.aload_n 0, 1) := by decide +kernel
theorem dX7_lays_65 : decode cX7_lays 65 = .ok (.getfield 226, 3) := by decide +kernel
theorem dX7_lays_68 : decode cX7_lays 68 = .ok (.aload_n 0, 1) := by decide +kernel
theorem dX7_lays_69 : decode cX7_lays 69 = .ok (.getfield 246, 3) := by decide +kernel
theorem dX7_lays_72 : decode cX7_lays 72 = .ok (.if_icmp .gt 25, 3) := by decide +kernel
theorem dX7_lays_75 : decode cX7_lays 75 = .ok (.aload_n 0, 1) := by decide +kernel
theorem dX7_lays_76 : decode cX7_lays 76 = .ok (.getfield 226, 3) := by decide +kernel
theorem dX7_lays_79 : decode cX7_lays 79 = .ok (.aload_n 0, 1) := by decide +kernel
theorem dX7_lays_80 : decode cX7_lays 80 = .ok (.getfield 246, 3) := by decide +kernel
theorem dX7_lays_83 : decode cX7_lays 83 = .ok (.if_icmp .ne 15, 3) := by decide +kernel
theorem dX7_lays_86 : decode cX7_lays 86 = .ok (.aload_n 0, 1) := by decide +kernel
theorem dX7_lays_87 : decode cX7_lays 87 = .ok (.getfield 223, 3) := by decide +kernel
theorem dX7_lays_90 : decode cX7_lays 90 = .ok (.aload_n 0, 1) := by decide +kernel
theorem dX7_lays_91 : decode cX7_lays 91 = .ok (.getfield 249, 3) := by decide +kernel
theorem dX7_lays_94 : decode cX7_lays 94 = .ok (.if_icmp .lt 4, 3) := by decide +kernel
theorem dX7_lays_97 : decode cX7_lays 97 = .ok (.return_, 1) := by decide +kernel
theorem dX7_lays_98 : decode cX7_lays 98 = .ok (.aload_n 0, 1) := by decide +kernel
theorem dX7_lays_99 : decode cX7_lays 99 = .ok (.aload_n 0, 1) := by decide +kernel
theorem dX7_lays_100 : decode cX7_lays 100 = .ok (.getfield 226, 3) := by decide +kernel
theorem dX7_lays_103 : decode cX7_lays 103 = .ok (.putfield 246, 3) := by decide +kernel
theorem dX7_lays_106 : decode cX7_lays 106 = .ok (.aload_n 0, 1) := by decide +kernel
theorem dX7_lays_107 : decode cX7_lays 107 = .ok (.aload_n 0, 1) := by decide +kernel
theorem dX7_lays_108 : decode cX7_lays 108 = .ok (.getfield 223, 3) := by decide +kernel
theorem dX7_lays_111 : decode cX7_lays 111 = .ok (.putfield 249, 3) := by decide +kernel
theorem dX7_lays_114 : decode cX7_lays 114 = .ok (.iconst 0, 1) := by decide +kernel
theorem dX7_lays_115 : decode cX7_lays 115 = .ok (.istore_n 3, 1) := by decide +kernel
theorem dX7_lays_116 : decode cX7_lays 116 = .ok (.iload_n 3, 1) := by decide +kernel
theorem dX7_lays_117 : decode cX7_lays 117 = .ok (.aload_n 0, 1) := by decide +kernel
theorem dX7_lays_118 : decode cX7_lays 118 = .ok (.getfield 99, 3) := by decide +kernel
theorem dX7_lays_121 : decode cX7_lays 121 = .ok (.if_icmp .ge 21, 3) := by decide +kernel
theorem dX7_lays_124 : decode cX7_lays 124 = .ok (.aload_n 0, 1) := by decide +kernel
theorem dX7_lays_125 : decode cX7_lays 125 = .ok (.getfield 93, 3) := by decide +kernel
theorem dX7_lays_128 : decode cX7_lays 128 = .ok (.iload_n 3, 1) := by decide +kernel
theorem dX7_lays_129 : decode cX7_lays 129 = .ok (.aload_n 0, 1) := by decide +kernel
theorem dX7_lays_130 : decode cX7_lays 130 = .ok (.getfield 87, 3) := by decide +kernel
theorem dX7_lays_133 : decode cX7_lays 133 = .ok (.iload_n 3, 1) := by decide +kernel
theorem dX7_lays_134 : decode cX7_lays 134 = .ok (.iaload, 1) := by decide +kernel
theorem dX7_lays_135 : decode cX7_lays 135 = .ok (.iastore, 1) := by decide +kernel
theorem dX7_lays_136 : decode cX7_lays 136 = .ok (.iinc 3 1, 3) := by decide +kernel
theorem dX7_lays_139 : decode cX7_lays 139 = .ok (.goto (-23), 3) := by decide +kernel
theorem dX7_lays_142 : decode cX7_lays 142 = .ok (.return_, 1) := by decide +kernel
abbrev k_X7_lays (d : Nat) : zK := (cX7_lays, 4, RX7, none, ({ frames := 5 + d, cells := 0, slots := 0, locals := 120 + d * 23 } : Room))
theorem zc_X7_lays (d : Nat) : zcal yX7_lays (k_X7_lays d).1 (k_X7_lays d).2.1 (k_X7_lays d).2.2.2.1 2 := ⟨tw_code_yX7_lays, tw_i_TollForHesitatorsModel, ⟨by decide +kernel, by decide +kernel⟩, by decide +kernel⟩
theorem zv_X7_lays : Cond.instanceMethod yX7_lays ∈ TS ∧ Cond.selects RX7 yX7_lays yX7_lays ∈ TS := ⟨tw_inst_yX7_lays, tw_s_yX7_lays⟩
def v_X7_lays_r (rv : mT → Int32 → Int32 → mT) : Nat → Nat → mT → Int32 → Int32 → Int32 → mT
  | 0, _, M, _, _, _ => M
  | n + 1, l, M, v1, v2, v3 => if l = 0 then if (M.1 0) ≤ v3 then M else kk (if ((v2 >>> (v3 &&& 31)) &&& 1) = 1 then M else rv (msa M 33 (upd (M.2.1 33) v1.toNatClampNeg v3)) (v1 + 1) (v2 + (1 <<< (v3 &&& 31)))) (fun M17 : mT => v_X7_lays_r rv n 0 M17 v1 v2 (v3 + 1)) else if (M.1 0) ≤ v3 then M else v_X7_lays_r rv n 1 (msa M 35 (upd (M.2.1 35) v3.toNatClampNeg ((M.2.1 33) v3.toNatClampNeg))) 0 0 (v3 + 1)
def p_X7_lays_r (rv : mT → Int32 → Int32 → mT) (rp : mT → Int32 → Int32 → Prop) : Nat → Nat → mT → Int32 → Int32 → Int32 → Prop
  | 0, _, _, _, _, _ => False
  | n + 1, l, M, v1, v2, v3 => if l = 0 then if (M.1 0) ≤ v3 then True else (if ((v2 >>> (v3 &&& 31)) &&& 1) = 1 then True else vp_in v1 7 ∧ (rp (msa M 33 (upd (M.2.1 33) v1.toNatClampNeg v3)) (v1 + 1) (v2 + (1 <<< (v3 &&& 31))))) ∧ (kk (if ((v2 >>> (v3 &&& 31)) &&& 1) = 1 then M else rv (msa M 33 (upd (M.2.1 33) v1.toNatClampNeg v3)) (v1 + 1) (v2 + (1 <<< (v3 &&& 31)))) (fun M17 : mT => p_X7_lays_r rv rp n 0 M17 v1 v2 (v3 + 1))) else if (M.1 0) ≤ v3 then True else vp_in v3 7 ∧ (vp_in v3 7 ∧ (p_X7_lays_r rv rp n 1 (msa M 35 (upd (M.2.1 35) v3.toNatClampNeg ((M.2.1 33) v3.toNatClampNeg))) 0 0 (v3 + 1)))
set_option maxHeartbeats 4000000 in
theorem w_X7_lays {G : zG} {Γ : zT} {a : Nat → Nat} {A : Nat → Prop} {res : mT} (d : Nat) (rv : mT → Int32 → Int32 → mT) (rp : mT → Int32 → Int32 → Prop) {X : zX} (hw : wk X A Γ.2.2.1.1.heap) (hQ : zQ Γ (Qwv G (fun w => w = mW G a res) A) 0 0 A) (ihc : ∀ {X : zX}, XOK X → ∀ (sz : Nat) (M : mT) (x1 : Int32) (x2 : Int32), rp M x1 x2 → Met Γ.1 yX7_lays (.code yX7_lays (k_X7_lays d).1 (k_X7_lays d).2.1 (k_X7_lays d).2.2.2.1 :: TS) (k_X7_lays d).2.2.2.2 (Pz G [.ref (a 0), .int x1, .int x2] (Fw G X (mW G a M) sz)) (Qwv G (fun w => w = mW G a (rv M x1 x2)) (va_A (mW G a M) sz)) 0 0 (va_A (mW G a M) sz)) : ∀ n : Nat, (∀ (M : mT) (v1 : Int32) (v2 : Int32) (v3 : Int32), p_X7_lays_r rv rp n 0 M v1 v2 v3 → v_X7_lays_r rv n 0 M v1 v2 v3 = res → Z (k_X7_lays (d + 1)) G Γ (wr G A Γ.2.2.1.1.heap (mW G a M)) 0 0 [(0, .ref (a 0)), (1, .int v1), (2, .int v2), (3, .int v3)] 10 []) ∧ (∀ (M : mT) (v1 : Int32) (v2 : Int32) (v3 : Int32), p_X7_lays_r rv rp n 1 M v1 v2 v3 → v_X7_lays_r rv n 1 M v1 v2 v3 = res → Z (k_X7_lays (d + 1)) G Γ (wr G A Γ.2.2.1.1.heap (mW G a M)) 0 0 [(0, .ref (a 0)), (3, .int v3)] 116 []) := by
  intro n
  induction n with
  | zero => exact ⟨fun M v1 v2 v3 hp => absurd hp (by rw [p_X7_lays_r]; exact not_false), fun M v1 v2 v3 hp => absurd hp (by rw [p_X7_lays_r]; exact not_false)⟩
  | succ n ih =>
    refine ⟨?_, ?_⟩
    · intro M v1 v2 v3 hp hv
      rw [p_X7_lays_r] at hp
      rw [v_X7_lays_r] at hv
      have hp := ip_t hp rfl
      have hv := it_t hv rfl
      refine z_iload_n dX7_lays_10 rfl ?_
      refine z_aload_n dX7_lays_11 rfl ?_
      refine mg_0 (v := M.1 0) wr_P rfl rfl dX7_lays_12 ?_
      refine z_icmp_ge (tgt := 55) dX7_lays_15 (by decide) (fun c7 => ?_) (fun c7 => ?_)
      · have hp := ip_t hp c7; have hv := it_t hv c7
        subst hv; exact z_vret_W hQ rfl rfl rfl rfl dX7_lays_55
      · have hp := ip_f hp c7; have hv := it_f hv c7
        refine z_iload_n dX7_lays_18 rfl ?_
        refine z_iload_n dX7_lays_19 rfl ?_
        refine z_ishr dX7_lays_20 ?_
        refine z_iconst (v := 1) dX7_lays_21 rfl ?_
        refine z_iand dX7_lays_22 ?_
        refine z_iconst (v := 1) dX7_lays_23 rfl ?_
        obtain ⟨hpm, hp⟩ := hp
        have J23 : ∀ M17 : mT, M17 = (if ((v2 >>> (v3 &&& 31)) &&& 1) = 1 then M else rv (msa M 33 (upd (M.2.1 33) v1.toNatClampNeg v3)) (v1 + 1) (v2 + (1 <<< (v3 &&& 31)))) → Z (k_X7_lays (d + 1)) G Γ (wr G A Γ.2.2.1.1.heap (mW G a M17)) 0 0 [(0, .ref (a 0)), (1, .int v1), (2, .int v2), (3, .int v3)] 49 [] := by
          intro M17 eM17
          have hp := kk_pq hp eM17
          have hv := kk_vq hv eM17
          clear eM17
          refine z_iinc (v := v3 + 1) (lv' := [(3, .int (v3 + 1)), (0, .ref (a 0)), (1, .int v1), (2, .int v2)]) dX7_lays_49 3 rfl rfl (Nat.le_of_ble_eq_true rfl) rfl ?_
          refine z_goto (tgt := 10) dX7_lays_52 (by decide) ?_
          exact z_lv rfl ((ih).1 M17 v1 v2 (v3 + 1) hp hv)
        refine z_icmp_ne (tgt := 30) dX7_lays_24 (by decide) (fun c13 => ?_) (fun c13 => ?_)
        · have hp := ip_f hpm c13
          refine z_aload_n dX7_lays_30 rfl ?_
          refine mg_33 wr_P rfl dX7_lays_31 ?_
          refine z_iload_n dX7_lays_34 rfl ?_
          refine z_iload_n dX7_lays_35 rfl ?_
          obtain ⟨q14, hp⟩ := hp
          refine ms_33 (F := upd (M.2.1 33) v1.toNatClampNeg v3) q14 rfl dX7_lays_36 ?_
          refine z_aload_n dX7_lays_37 rfl ?_
          refine z_iload_n dX7_lays_38 rfl ?_
          refine z_iconst (v := 1) dX7_lays_39 rfl ?_
          refine z_iadd dX7_lays_40 ?_
          refine z_iload_n dX7_lays_41 rfl ?_
          refine z_iconst (v := 1) dX7_lays_42 rfl ?_
          refine z_iload_n dX7_lays_43 rfl ?_
          refine z_ishl dX7_lays_44 ?_
          refine z_iadd dX7_lays_45 ?_
          have q15 := hp
          refine z_cavvD hw (fun sz => ihc hw.1 sz (msa M 33 (upd (M.2.1 33) v1.toNatClampNeg v3)) (v1 + 1) (v2 + (1 <<< (v3 &&& 31))) q15) (zc_X7_lays d) zv_X7_lays tw_m_RX7_243 (mrec wr_P) (by refine ⟨rfl, rfl, ⟨?_, ?_⟩, ⟨?_, ?_⟩⟩ <;> (simp only [k_X7_lays]; omega)) rfl (Nat.le_of_ble_eq_true rfl) dX7_lays_46 ?_
          exact z_lv rfl (J23 _ (if_neg c13).symm)
        · have hp := ip_t hpm c13
          refine z_goto (tgt := 49) dX7_lays_27 (by decide) ?_
          exact z_lv rfl (J23 _ (if_pos c13).symm)
    · intro M v1 v2 v3 hp hv
      rw [p_X7_lays_r] at hp
      rw [v_X7_lays_r] at hv
      have hp := ip_f hp (by decide)
      have hv := it_f hv (by decide)
      refine z_iload_n dX7_lays_116 rfl ?_
      refine z_aload_n dX7_lays_117 rfl ?_
      refine mg_0 (v := M.1 0) wr_P rfl rfl dX7_lays_118 ?_
      refine z_icmp_ge (tgt := 142) dX7_lays_121 (by decide) (fun c18 => ?_) (fun c18 => ?_)
      · have hp := ip_t hp c18; have hv := it_t hv c18
        subst hv; exact z_vret_W hQ rfl rfl rfl rfl dX7_lays_142
      · have hp := ip_f hp c18; have hv := it_f hv c18
        refine z_aload_n dX7_lays_124 rfl ?_
        refine mg_35 wr_P rfl dX7_lays_125 ?_
        refine z_iload_n dX7_lays_128 rfl ?_
        refine z_aload_n dX7_lays_129 rfl ?_
        refine mg_33 wr_P rfl dX7_lays_130 ?_
        refine z_iload_n dX7_lays_133 rfl ?_
        obtain ⟨q21, hp⟩ := hp
        refine ml_33 (x := (M.2.1 33) v3.toNatClampNeg) wr_P q21 rfl dX7_lays_134 ?_
        obtain ⟨q22, hp⟩ := hp
        refine ms_35 (F := upd (M.2.1 35) v3.toNatClampNeg ((M.2.1 33) v3.toNatClampNeg)) q22 rfl dX7_lays_135 ?_
        refine z_iinc (v := v3 + 1) (lv' := [(3, .int (v3 + 1)), (0, .ref (a 0))]) dX7_lays_136 1 rfl rfl (Nat.le_of_ble_eq_true rfl) rfl ?_
        refine z_goto (tgt := 116) dX7_lays_139 (by decide) ?_
        exact z_lv rfl ((ih).2 (msa M 35 (upd (M.2.1 35) v3.toNatClampNeg ((M.2.1 33) v3.toNatClampNeg))) 0 0 (v3 + 1) hp hv)
def v_X7_lays : Nat → mT → Int32 → Int32 → mT
  | 0, M, _, _ => M
  | d + 1, M, x1, x2 => if (M.1 0) ≤ x1 then kk (v_X7_comes M (M.1 0)) (fun q3 : mT => if (q3.1 40) < (q3.1 39) then q3 else if (q3.1 39) = (q3.1 40) then if (q3.1 38) < (q3.1 41) then v_X7_lays_r (v_X7_lays d) 200 1 (msf (msf q3 40 (q3.1 39)) 41 (q3.1 38)) 0 0 0 else q3 else v_X7_lays_r (v_X7_lays d) 200 1 (msf (msf q3 40 (q3.1 39)) 41 (q3.1 38)) 0 0 0) else v_X7_lays_r (v_X7_lays d) 200 0 M x1 x2 0
def p_X7_lays : Nat → mT → Int32 → Int32 → Prop
  | 0, _, _, _ => False
  | d + 1, M, x1, x2 => if (M.1 0) ≤ x1 then (p_X7_comes M (M.1 0)) ∧ (kk (v_X7_comes M (M.1 0)) (fun q3 : mT => if (q3.1 40) < (q3.1 39) then True else if (q3.1 39) = (q3.1 40) then if (q3.1 38) < (q3.1 41) then p_X7_lays_r (v_X7_lays d) (p_X7_lays d) 200 1 (msf (msf q3 40 (q3.1 39)) 41 (q3.1 38)) 0 0 0 else True else p_X7_lays_r (v_X7_lays d) (p_X7_lays d) 200 1 (msf (msf q3 40 (q3.1 39)) 41 (q3.1 38)) 0 0 0)) else p_X7_lays_r (v_X7_lays d) (p_X7_lays d) 200 0 M x1 x2 0
set_option maxHeartbeats 4000000 in
theorem c_X7_lays {l : Launch} (G : zG) (a : Nat → Nat) : ∀ (d : Nat) {X : zX} (hX : XOK X) (sz : Nat) (M : mT) (x1 : Int32) (x2 : Int32) (hp : p_X7_lays d M x1 x2), Met l yX7_lays (.code yX7_lays (k_X7_lays d).1 (k_X7_lays d).2.1 (k_X7_lays d).2.2.2.1 :: TS) (k_X7_lays d).2.2.2.2 (Pz G [.ref (a 0), .int x1, .int x2] (Fw G X (mW G a M) sz)) (Qwv G (fun w => w = mW G a (v_X7_lays d M x1 x2)) (va_A (mW G a M) sz)) 0 0 (va_A (mW G a M) sz) := by
  intro d
  induction d with
  | zero => exact fun hX sz M x1 x2 hp => absurd hp (by rw [p_X7_lays]; exact not_false)
  | succ d ihd =>
  intro X hX sz M x1 x2 hp
  refine zmet (K := k_X7_lays (d + 1)) (by decide +kernel) rfl rfl (fun Γ hl0 hQ hN hF => ?_)
  subst hl0
  refine z_start hX hF (fun hw => ?_)
  generalize va_A (mW G a M) sz = A at hQ hw ⊢
  obtain ⟨res, hv⟩ : ∃ res, v_X7_lays (d + 1) M x1 x2 = res := ⟨_, rfl⟩
  rw [hv] at hQ
  rw [v_X7_lays] at hv
  rw [p_X7_lays] at hp
  show Z (k_X7_lays (d + 1)) G Γ _ 0 0 [(0, .ref (a 0)), (1, .int x1), (2, .int x2)] 0 []
  refine z_iload_n dX7_lays_0 rfl ?_
  refine z_aload_n dX7_lays_1 rfl ?_
  refine mg_0 (v := M.1 0) wr_P rfl rfl dX7_lays_2 ?_
  refine z_icmp_ge (tgt := 56) dX7_lays_5 (by decide) (fun c1 => ?_) (fun c1 => ?_)
  · have hp := ip_t hp c1; have hv := it_t hv c1
    refine z_aload_n dX7_lays_56 rfl ?_
    refine z_aload_n dX7_lays_57 rfl ?_
    refine mg_0 (v := M.1 0) wr_P rfl rfl dX7_lays_58 ?_
    obtain ⟨q2, hp⟩ := hp
    refine z_cavvD hw (fun sz => c_X7_comes G a hw.1 sz M (M.1 0) q2) zc_X7_comes zv_X7_comes tw_m_RX7_236 (mrec wr_P) (by refine ⟨rfl, rfl, ⟨?_, ?_⟩, ⟨?_, ?_⟩⟩ <;> (simp only [k_X7_lays, k_X7_comes]; omega)) rfl (Nat.le_of_ble_eq_true rfl) dX7_lays_61 ?_
    suffices z24 : ∀ q3 : mT, q3 = (v_X7_comes M (M.1 0)) → Z (k_X7_lays (d + 1)) G Γ (wr G A Γ.2.2.1.1.heap (mW G a q3)) 0 0 [(0, .ref (a 0)), (1, .int x1), (2, .int x2)] 64 [] from z24 _ rfl
    intro q3 hq3
    have hp := kk_pq hp hq3
    have hv := kk_vq hv hq3
    clear hq3
    refine z_aload_n dX7_lays_64 rfl ?_
    refine mg_39 (v := q3.1 39) wr_P rfl rfl dX7_lays_65 ?_
    refine z_aload_n dX7_lays_68 rfl ?_
    refine mg_40 (v := q3.1 40) wr_P rfl rfl dX7_lays_69 ?_
    refine z_icmp_gt (tgt := 97) dX7_lays_72 (by decide) (fun c4 => ?_) (fun c4 => ?_)
    · have hp := ip_t hp c4; have hv := it_t hv c4
      subst hv; exact z_vret_W hQ rfl rfl rfl rfl dX7_lays_97
    · have hp := ip_f hp c4; have hv := it_f hv c4
      refine z_aload_n dX7_lays_75 rfl ?_
      refine mg_39 (v := q3.1 39) wr_P rfl rfl dX7_lays_76 ?_
      refine z_aload_n dX7_lays_79 rfl ?_
      refine mg_40 (v := q3.1 40) wr_P rfl rfl dX7_lays_80 ?_
      refine z_icmp_ne (tgt := 98) dX7_lays_83 (by decide) (fun c5 => ?_) (fun c5 => ?_)
      · have hp := ip_f hp c5; have hv := it_f hv c5
        refine z_aload_n dX7_lays_98 rfl ?_
        refine z_aload_n dX7_lays_99 rfl ?_
        refine mg_39 (v := q3.1 39) wr_P rfl rfl dX7_lays_100 ?_
        refine mp_40 (v := q3.1 39) rfl dX7_lays_103 ?_
        refine z_aload_n dX7_lays_106 rfl ?_
        refine z_aload_n dX7_lays_107 rfl ?_
        refine mg_38 (v := q3.1 38) wr_P rfl rfl dX7_lays_108 ?_
        refine mp_41 (v := q3.1 38) rfl dX7_lays_111 ?_
        refine z_iconst (v := 0) dX7_lays_114 rfl ?_
        refine z_istore_n (lv' := [(3, .int 0), (0, .ref (a 0)), (1, .int x1), (2, .int x2)]) dX7_lays_115 (Nat.le_of_ble_eq_true rfl) rfl ?_
        exact z_lv rfl ((w_X7_lays d (v_X7_lays d) (p_X7_lays d) hw hQ (fun hX sz M x1 x2 hp => ihd hX sz M x1 x2 hp) 200).2 (msf (msf q3 40 (q3.1 39)) 41 (q3.1 38)) 0 0 0 hp hv)
      · have hp := ip_t hp c5; have hv := it_t hv c5
        refine z_aload_n dX7_lays_86 rfl ?_
        refine mg_38 (v := q3.1 38) wr_P rfl rfl dX7_lays_87 ?_
        refine z_aload_n dX7_lays_90 rfl ?_
        refine mg_41 (v := q3.1 41) wr_P rfl rfl dX7_lays_91 ?_
        refine z_icmp_lt (tgt := 98) dX7_lays_94 (by decide) (fun c6 => ?_) (fun c6 => ?_)
        · have hp := ip_t hp c6; have hv := it_t hv c6
          refine z_aload_n dX7_lays_98 rfl ?_
          refine z_aload_n dX7_lays_99 rfl ?_
          refine mg_39 (v := q3.1 39) wr_P rfl rfl dX7_lays_100 ?_
          refine mp_40 (v := q3.1 39) rfl dX7_lays_103 ?_
          refine z_aload_n dX7_lays_106 rfl ?_
          refine z_aload_n dX7_lays_107 rfl ?_
          refine mg_38 (v := q3.1 38) wr_P rfl rfl dX7_lays_108 ?_
          refine mp_41 (v := q3.1 38) rfl dX7_lays_111 ?_
          refine z_iconst (v := 0) dX7_lays_114 rfl ?_
          refine z_istore_n (lv' := [(3, .int 0), (0, .ref (a 0)), (1, .int x1), (2, .int x2)]) dX7_lays_115 (Nat.le_of_ble_eq_true rfl) rfl ?_
          exact z_lv rfl ((w_X7_lays d (v_X7_lays d) (p_X7_lays d) hw hQ (fun hX sz M x1 x2 hp => ihd hX sz M x1 x2 hp) 200).2 (msf (msf q3 40 (q3.1 39)) 41 (q3.1 38)) 0 0 0 hp hv)
        · have hp := ip_f hp c6; have hv := it_f hv c6
          subst hv; exact z_vret_W hQ rfl rfl rfl rfl dX7_lays_97
  · have hp := ip_f hp c1; have hv := it_f hv c1
    refine z_iconst (v := 0) dX7_lays_8 rfl ?_
    refine z_istore_n (lv' := [(3, .int 0), (0, .ref (a 0)), (1, .int x1), (2, .int x2)]) dX7_lays_9 (Nat.le_of_ble_eq_true rfl) rfl ?_
    exact z_lv rfl ((w_X7_lays d (v_X7_lays d) (p_X7_lays d) hw hQ (fun hX sz M x1 x2 hp => ihd hX sz M x1 x2 hp) 200).1 M x1 x2 0 hp hv)
theorem dX7_best_0 : decode cX7_best 0 = .ok (.iload_n 1, 1) := by decide +kernel
theorem dX7_best_1 : decode cX7_best 1 = .ok (.bipush (-2), 2) := by decide +kernel
theorem dX7_best_3 : decode cX7_best 3 = .ok (.if_icmp .lt 11, 3) := by decide +kernel
theorem dX7_best_6 : decode cX7_best 6 = .ok (.iload_n 1, 1) := by decide +kernel
theorem dX7_best_7 : decode cX7_best 7 = .ok (.aload_n 0, 1) := by decide +kernel
theorem dX7_best_8 : decode cX7_best 8 = .ok (.getfield 99, 3) := by decide +kernel
theorem dX7_best_11 : decode cX7_best 11 = .ok (.if_icmp .lt 10, 3) := by decide +kernel
theorem dX7_best_14 : decode cX7_best 14 = .ok (.aload_n 0, 1) := by decide +kernel
theorem dX7_best_15 : decode cX7_best 15 = .ok (.bipush (-5), 2) := by decide +kernel
theorem dX7_best_17 : decode cX7_best 17 = .ok (.invokevirtual 211, 3) := by decide +kernel
theorem dX7_best_20 : decode cX7_best 20 = .ok (.ireturn, 1) := by decide +kernel
theorem dX7_best_21 : decode cX7_best 21 = .ok (.aload_n 0, 1) := by decide +kernel
theorem dX7_best_22 : decode cX7_best 22 = .ok (.bipush 99, 2) := by decide +kernel
theorem dX7_best_24 : decode cX7_best 24 = .ok (.putfield 246, 3) := by decide +kernel
theorem dX7_best_27 : decode cX7_best 27 = .ok (.aload_n 0, 1) := by decide +kernel
theorem dX7_best_28 : decode cX7_best 28 = .ok (.bipush 99, 2) := by decide +kernel
theorem dX7_best_30 : decode cX7_best 30 = .ok (.putfield 249, 3) := by decide +kernel
theorem dX7_best_33 : decode cX7_best 33 = .ok (.aload_n 0, 1) := by decide +kernel
theorem dX7_best_34 : decode cX7_best 34 = .ok (.iconst 0, 1) := by decide +kernel
theorem dX7_best_35 : decode cX7_best 35 = .ok (.iconst 0, 1) := by decide +kernel
theorem dX7_best_36 : decode cX7_best 36 = .ok (.invokevirtual 243, 3) := by decide +kernel
theorem dX7_best_39 : decode cX7_best 39 = .ok (.iload_n 1, 1) := by decide +kernel
theorem dX7_best_40 : decode cX7_best 40 = .ok (.iconst (-1), 1) := by decide +kernel
theorem dX7_best_41 : decode cX7_best 41 = .ok (.if_icmp .ne 15, 3) := by decide +kernel
theorem dX7_best_44 : decode cX7_best 44 = .ok (.aload_n 0, 1) := by decide +kernel
theorem dX7_best_45 : decode cX7_best 45 = .ok (.getfield 249, 3) := by decide +kernel
theorem dX7_best_48 : decode cX7_best 48 = .ok (.aload_n 0, 1) := by decide +kernel
theorem dX7_best_49 : decode cX7_best 49 = .ok (.getfield 13, 3) := by decide +kernel
theorem dX7_best_52 : decode cX7_best 52 = .ok (.imul, 1) := by decide +kernel
theorem dX7_best_53 : decode cX7_best 53 = .ok (.goto 22, 3) := by decide +kernel
theorem dX7_best_56 : decode cX7_best 56 = .ok (.iload_n 1, 1) := by decide +kernel
theorem dX7_best_57 : decode cX7_best 57 = .ok (.bipush (-2), 2) := by decide +kernel
theorem dX7_best_59 : decode cX7_best 59 = .ok (.if_icmp .ne 10, 3) := by decide +kernel
theorem dX7_best_62 : decode cX7_best 62 = .ok (.aload_n 0, 1) := by decide +kernel
theorem dX7_best_63 : decode cX7_best 63 = .ok (.getfield 246, 3) := by decide +kernel
theorem dX7_best_66 : decode cX7_best 66 = .ok (.goto 9, 3) := by decide +kernel
theorem dX7_best_69 : decode cX7_best 69 = .ok (.aload_n 0, 1) := by decide +kernel
theorem dX7_best_70 : decode cX7_best 70 = .ok (.getfield 93, 3) := by decide +kernel
theorem dX7_best_73 : decode cX7_best 73 = .ok (.iload_n 1, 1) := by decide +kernel
theorem dX7_best_74 : decode cX7_best 74 = .ok (.iaload, 1) := by decide +kernel
theorem dX7_best_75 : decode cX7_best 75 = .ok (.ireturn, 1) := by decide +kernel
abbrev k_X7_best : zK := (cX7_best, 2, RX7, (some .int), ({ frames := 15, cells := 0, slots := 0, locals := 350 } : Room))
theorem zc_X7_best : zcal yX7_best k_X7_best.1 k_X7_best.2.1 k_X7_best.2.2.2.1 1 := ⟨tw_code_yX7_best, tw_i_TollForHesitatorsModel, ⟨by decide +kernel, by decide +kernel⟩, by decide +kernel⟩
theorem zv_X7_best : Cond.instanceMethod yX7_best ∈ TS ∧ Cond.selects RX7 yX7_best yX7_best ∈ TS := ⟨tw_inst_yX7_best, tw_s_yX7_best⟩
def v_X7_best (M : mT) (x1 : Int32) : Int32 × mT := if x1 < (-2) then kk (v_X7_noTen M (-5)) (fun q3 : Int32 × mT => (q3.1, q3.2)) else if x1 < (M.1 0) then kk (v_X7_lays 9 (msf (msf M 40 99) 41 99) 0 0) (fun q6 : mT => ((if x1 = (-1) then (q6.1 41) * (q6.1 3) else (if x1 = (-2) then q6.1 40 else (q6.2.1 35) x1.toNatClampNeg)), q6)) else kk (v_X7_noTen M (-5)) (fun q13 : Int32 × mT => (q13.1, q13.2))
def p_X7_best (M : mT) (x1 : Int32) : Prop := if x1 < (-2) then p_X7_noTen M (-5) else if x1 < (M.1 0) then (p_X7_lays 9 (msf (msf M 40 99) 41 99) 0 0) ∧ (kk (v_X7_lays 9 (msf (msf M 40 99) 41 99) 0 0) (fun q6 : mT => if x1 = (-1) then True else if x1 = (-2) then True else vp_in x1 7)) else p_X7_noTen M (-5)
set_option maxHeartbeats 4000000 in
theorem c_X7_best {l : Launch} (G : zG) (a : Nat → Nat) {X : zX} (hX : XOK X) (sz : Nat) (M : mT) (x1 : Int32) (hp : p_X7_best M x1) : Met l yX7_best (.code yX7_best k_X7_best.1 k_X7_best.2.1 k_X7_best.2.2.2.1 :: TS) k_X7_best.2.2.2.2 (Pz G [.ref (a 0), .int x1] (Fw G X (mW G a M) sz)) (Qwi G (fun r w => r = (v_X7_best M x1).1 ∧ w = mW G a (v_X7_best M x1).2) (va_A (mW G a M) sz)) 0 0 (va_A (mW G a M) sz) := by
  refine zmet (by decide +kernel) rfl rfl (fun Γ hl0 hQ hN hF => ?_)
  refine z_start hX hF (fun hw => ?_)
  generalize va_A (mW G a M) sz = A at hQ hw ⊢
  obtain ⟨res, hv⟩ : ∃ res, v_X7_best M x1 = res := ⟨_, rfl⟩
  rw [hv] at hQ
  unfold v_X7_best at hv
  unfold p_X7_best at hp
  show Z k_X7_best G Γ _ 0 0 [(0, .ref (a 0)), (1, .int x1)] 0 []
  refine z_iload_n dX7_best_0 rfl ?_
  refine z_bipush (v := (-2)) dX7_best_1 rfl ?_
  refine z_icmp_lt (tgt := 14) dX7_best_3 (by decide) (fun c1 => ?_) (fun c1 => ?_)
  · have hp := ip_t hp c1; have hv := it_t hv c1
    refine z_aload_n dX7_best_14 rfl ?_
    refine z_bipush (v := (-5)) dX7_best_15 rfl ?_
    have q2 := hp
    refine z_caviD hw (fun sz => c_X7_noTen G a hw.1 sz M (-5) q2) zc_X7_noTen zv_X7_noTen tw_m_RX7_211 (mrec wr_P) (zroom_of rfl) rfl (Nat.le_of_ble_eq_true rfl) dX7_best_17 ?_
    suffices z14 : ∀ q3 : Int32 × mT, q3 = (v_X7_noTen M (-5)) → Z k_X7_best G Γ (wr G A Γ.2.2.1.1.heap (mW G a q3.2)) 0 0 [(0, .ref (a 0)), (1, .int x1)] 20 [.int q3.1] from z14 _ rfl
    intro q3 hq3
    have hv := kk_vq hv hq3
    clear hq3
    subst hv; exact z_iret_W hQ rfl rfl rfl ⟨rfl, rfl⟩ dX7_best_20
  · have hp := ip_f hp c1; have hv := it_f hv c1
    refine z_iload_n dX7_best_6 rfl ?_
    refine z_aload_n dX7_best_7 rfl ?_
    refine mg_0 (v := M.1 0) wr_P rfl rfl dX7_best_8 ?_
    refine z_icmp_lt (tgt := 21) dX7_best_11 (by decide) (fun c4 => ?_) (fun c4 => ?_)
    · have hp := ip_t hp c4; have hv := it_t hv c4
      refine z_aload_n dX7_best_21 rfl ?_
      refine z_bipush (v := 99) dX7_best_22 rfl ?_
      refine mp_40 (v := 99) rfl dX7_best_24 ?_
      refine z_aload_n dX7_best_27 rfl ?_
      refine z_bipush (v := 99) dX7_best_28 rfl ?_
      refine mp_41 (v := 99) rfl dX7_best_30 ?_
      refine z_aload_n dX7_best_33 rfl ?_
      refine z_iconst (v := 0) dX7_best_34 rfl ?_
      refine z_iconst (v := 0) dX7_best_35 rfl ?_
      obtain ⟨q5, hp⟩ := hp
      refine z_cavvD hw (fun sz => c_X7_lays G a 9 hw.1 sz (msf (msf M 40 99) 41 99) 0 0 q5) (zc_X7_lays 9) zv_X7_lays tw_m_RX7_243 (mrec wr_P) (zroom_of rfl) rfl (Nat.le_of_ble_eq_true rfl) dX7_best_36 ?_
      suffices z15 : ∀ q6 : mT, q6 = (v_X7_lays 9 (msf (msf M 40 99) 41 99) 0 0) → Z k_X7_best G Γ (wr G A Γ.2.2.1.1.heap (mW G a q6)) 0 0 [(0, .ref (a 0)), (1, .int x1)] 39 [] from z15 _ rfl
      intro q6 hq6
      have hp := kk_pq hp hq6
      have hv := kk_vq hv hq6
      clear hq6
      refine z_iload_n dX7_best_39 rfl ?_
      refine z_iconst (v := (-1)) dX7_best_40 rfl ?_
      have hpm := hp
      have J16 : ∀ m11 : Int32, m11 = (if x1 = (-1) then (q6.1 41) * (q6.1 3) else (if x1 = (-2) then q6.1 40 else (q6.2.1 35) x1.toNatClampNeg)) → Z k_X7_best G Γ (wr G A Γ.2.2.1.1.heap (mW G a q6)) 0 0 [(0, .ref (a 0)), (1, .int x1)] 75 [.int m11] := by
        intro m11 em11
        rewrite [em11]; clear em11
        subst hv; exact z_iret_W hQ rfl rfl rfl ⟨rfl, rfl⟩ dX7_best_75
      refine z_icmp_ne (tgt := 56) dX7_best_41 (by decide) (fun c7 => ?_) (fun c7 => ?_)
      · have hp := ip_f hpm c7
        refine z_iload_n dX7_best_56 rfl ?_
        refine z_bipush (v := (-2)) dX7_best_57 rfl ?_
        have hpm := hp
        have J17 : ∀ m10 : Int32, m10 = (if x1 = (-2) then q6.1 40 else (q6.2.1 35) x1.toNatClampNeg) → Z k_X7_best G Γ (wr G A Γ.2.2.1.1.heap (mW G a q6)) 0 0 [(0, .ref (a 0)), (1, .int x1)] 75 [.int m10] := by
          intro m10 em10
          rewrite [em10]; clear em10
          exact z_lv rfl (J16 _ (if_neg c7).symm)
        refine z_icmp_ne (tgt := 69) dX7_best_59 (by decide) (fun c8 => ?_) (fun c8 => ?_)
        · have hp := ip_f hpm c8
          refine z_aload_n dX7_best_69 rfl ?_
          refine mg_35 wr_P rfl dX7_best_70 ?_
          refine z_iload_n dX7_best_73 rfl ?_
          have q9 := hp
          refine ml_35 (x := (q6.2.1 35) x1.toNatClampNeg) wr_P q9 rfl dX7_best_74 ?_
          exact z_lv rfl (J17 _ (if_neg c8).symm)
        · have hp := ip_t hpm c8
          refine z_aload_n dX7_best_62 rfl ?_
          refine mg_40 (v := q6.1 40) wr_P rfl rfl dX7_best_63 ?_
          refine z_goto (tgt := 75) dX7_best_66 (by decide) ?_
          exact z_lv rfl (J17 _ (if_pos c8).symm)
      · have hp := ip_t hpm c7
        refine z_aload_n dX7_best_44 rfl ?_
        refine mg_41 (v := q6.1 41) wr_P rfl rfl dX7_best_45 ?_
        refine z_aload_n dX7_best_48 rfl ?_
        refine mg_3 (v := q6.1 3) wr_P rfl rfl dX7_best_49 ?_
        refine z_imul dX7_best_52 ?_
        refine z_goto (tgt := 75) dX7_best_53 (by decide) ?_
        exact z_lv rfl (J16 _ (if_pos c7).symm)
    · have hp := ip_f hp c4; have hv := it_f hv c4
      refine z_aload_n dX7_best_14 rfl ?_
      refine z_bipush (v := (-5)) dX7_best_15 rfl ?_
      have q12 := hp
      refine z_caviD hw (fun sz => c_X7_noTen G a hw.1 sz M (-5) q12) zc_X7_noTen zv_X7_noTen tw_m_RX7_211 (mrec wr_P) (zroom_of rfl) rfl (Nat.le_of_ble_eq_true rfl) dX7_best_17 ?_
      suffices z18 : ∀ q13 : Int32 × mT, q13 = (v_X7_noTen M (-5)) → Z k_X7_best G Γ (wr G A Γ.2.2.1.1.heap (mW G a q13.2)) 0 0 [(0, .ref (a 0)), (1, .int x1)] 20 [.int q13.1] from z18 _ rfl
      intro q13 hq13
      have hv := kk_vq hv hq13
      clear hq13
      subst hv; exact z_iret_W hQ rfl rfl rfl ⟨rfl, rfl⟩ dX7_best_20
theorem dX7_pushes_0 : decode cX7_pushes 0 = .ok (.iload_n 1, 1) := by decide +kernel
theorem dX7_pushes_1 : decode cX7_pushes 1 = .ok (.ifCond .lt 8, 3) := by decide +kernel
theorem dX7_pushes_4 : decode cX7_pushes 4 = .ok (.iload_n 1, 1) := by decide +kernel
theorem dX7_pushes_5 : decode cX7_pushes 5 = .ok (.iconst 1, 1) := by decide +kernel
theorem dX7_pushes_6 : decode cX7_pushes 6 = .ok (.if_icmp .le 10, 3) := by decide +kernel
theorem dX7_pushes_9 : decode cX7_pushes 9 = .ok (.aload_n 0, 1) := by decide +kernel
theorem dX7_pushes_10 : decode cX7_pushes 10 = .ok (.bipush (-5), 2) := by decide +kernel
theorem dX7_pushes_12 : decode cX7_pushes 12 = .ok (.invokevirtual 106, 3) := by decide +kernel
theorem dX7_pushes_15 : decode cX7_pushes 15 = .ok (.ireturn, 1) := by decide +kernel
theorem dX7_pushes_16 : decode cX7_pushes 16 = .ok (.iconst 0, 1) := by decide +kernel
theorem dX7_pushes_17 : decode cX7_pushes 17 = .ok (.istore_n 2, 1) := by decide +kernel
theorem dX7_pushes_18 : decode cX7_pushes 18 = .ok (.iconst (-1), 1) := by decide +kernel
theorem dX7_pushes_19 : decode cX7_pushes 19 = .ok (.istore_n 3, 1) := by decide +kernel
theorem dX7_pushes_20 : decode cX7_pushes 20 = .ok (.iconst 0, 1) := by decide +kernel
theorem dX7_pushes_21 : decode cX7_pushes 21 = .ok (.istore 4, 2) := by decide +kernel
theorem dX7_pushes_23 : decode cX7_pushes 23 = .ok (.iload 4, 2) := by decide +kernel
theorem dX7_pushes_25 : decode cX7_pushes 25 = .ok (.iconst 1, 1) := by decide +kernel
theorem dX7_pushes_26 : decode cX7_pushes 26 = .ok (.aload_n 0, 1) := by decide +kernel
theorem dX7_pushes_27 : decode cX7_pushes 27 = .ok (.getfield 99, 3) := by decide +kernel
theorem dX7_pushes_30 : decode cX7_pushes 30 = .ok (.ishl, 1) := by decide +kernel
theorem dX7_pushes_31 : decode cX7_pushes 31 = .ok (.if_icmp .ge 116, 3) := by decide +kernel
theorem dX7_pushes_34 : decode cX7_pushes 34 = .ok (.iconst 0, 1) := by decide +kernel
theorem dX7_pushes_35 : decode cX7_pushes 35 = .ok (.istore 5, 2) := by decide +kernel
theorem dX7_pushes_37 : decode cX7_pushes 37 = .ok (.iconst 0, 1) := by decide +kernel
theorem dX7_pushes_38 : decode cX7_pushes 38 = .ok (.istore 6, 2) := by decide +kernel
theorem dX7_pushes_40 : decode cX7_pushes 40 = .ok (.iload 6, 2) := by decide +kernel
theorem dX7_pushes_42 : decode cX7_pushes 42 = .ok (.aload_n 0, 1) := by decide +kernel
theorem dX7_pushes_43 : decode cX7_pushes 43 = .ok (.getfield 99, 3) := by decide +kernel
theorem dX7_pushes_46 : decode cX7_pushes 46 = .ok (.if_icmp .ge 38, 3) := by decide +kernel
theorem dX7_pushes_49 : decode cX7_pushes 49 = .ok (.aload_n 0, 1) := by decide +kernel
theorem dX7_pushes_50 : decode cX7_pushes 50 = .ok (.getfield 87, 3) := by decide +kernel
theorem dX7_pushes_53 : decode cX7_pushes 53 = .ok (.iload 6, 2) := by decide +kernel
theorem dX7_pushes_55 : decode cX7_pushes 55 = .ok (.iload 6, 2) := by decide +kernel
theorem dX7_pushes_57 : decode cX7_pushes 57 = .ok (.iastore, 1) := by decide +kernel
theorem dX7_pushes_58 : decode cX7_pushes 58 = .ok (.iload 4, 2) := by decide +kernel
theorem dX7_pushes_60 : decode cX7_pushes 60 = .ok (.iload 6, 2) := by decide +kernel
theorem dX7_pushes_62 : decode cX7_pushes 62 = .ok (.ishr, 1) := by decide +kernel
theorem dX7_pushes_63 : decode cX7_pushes 63 = .ok (.iconst 1, 1) := by decide +kernel
theorem dX7_pushes_64 : decode cX7_pushes 64 = .ok (.iand, 1) := by decide +kernel
theorem dX7_pushes_65 : decode cX7_pushes 65 = .ok (.iconst 1, 1) := by decide +kernel
theorem dX7_pushes_66 : decode cX7_pushes 66 = .ok (.if_icmp .ne 12, 3) := by decide +kernel
theorem dX7_pushes_69 : decode cX7_pushes 69 = .ok (.iload 5, 2) := by decide +kernel
theorem dX7_pushes_71 : decode cX7_pushes 71 = .ok (.aload_n 0, 1) := by decide +kernel
theorem dX7_pushes_72 : decode cX7_pushes 72 = .ok (.getfield 16, 3) := by decide +kernel
theorem dX7_pushes_75 : decode cX7_pushes 75 = .ok (.iadd, 1) := by decide +kernel
theorem dX7_pushes_76 : decode cX7_pushes 76 = .ok (.istore 5, 2) := by decide +kernel
theorem dX7_pushes_78 : decode cX7_pushes 78 = .ok (.iinc 6 1, 3) := by decide +kernel
theorem dX7_pushes_81 : decode cX7_pushes 81 = .ok (.goto (-41), 3) := by decide +kernel
theorem dX7_pushes_84 : decode cX7_pushes 84 = .ok (.aload_n 0, 1) := by decide +kernel
theorem dX7_pushes_85 : decode cX7_pushes 85 = .ok (.iload 4, 2) := by decide +kernel
theorem dX7_pushes_87 : decode cX7_pushes 87 = .ok (.putfield 217, 3) := by decide +kernel
theorem dX7_pushes_90 : decode cX7_pushes 90 = .ok (.aload_n 0, 1) := by decide +kernel
theorem dX7_pushes_91 : decode cX7_pushes 91 = .ok (.aload_n 0, 1) := by decide +kernel
theorem dX7_pushes_92 : decode cX7_pushes 92 = .ok (.getfield 99, 3) := by decide +kernel
theorem dX7_pushes_95 : decode cX7_pushes 95 = .ok (.invokevirtual 236, 3) := by decide +kernel
theorem dX7_pushes_98 : decode cX7_pushes 98 = .ok (.iload 5, 2) := by decide +kernel
theorem dX7_pushes_100 : decode cX7_pushes 100 = .ok (.aload_n 0, 1) := by decide +kernel
theorem dX7_pushes_101 : decode cX7_pushes 101 = .ok (.getfield 223, 3) := by decide +kernel
theorem dX7_pushes_104 : decode cX7_pushes 104 = .ok (.aload_n 0, 1) := by decide +kernel
theorem dX7_pushes_105 : decode cX7_pushes 105 = .ok (.getfield 13, 3) := by decide +kernel
theorem dX7_pushes_108 : decode cX7_pushes 108 = .ok (.imul, 1) := by decide +kernel
theorem dX7_pushes_109 : decode cX7_pushes 109 = .ok (.sipush 1000, 3) := by decide +kernel
theorem dX7_pushes_112 : decode cX7_pushes 112 = .ok (.aload_n 0, 1) := by decide +kernel
theorem dX7_pushes_113 : decode cX7_pushes 113 = .ok (.getfield 226, 3) := by decide +kernel
theorem dX7_pushes_116 : decode cX7_pushes 116 = .ok (.imul, 1) := by decide +kernel
theorem dX7_pushes_117 : decode cX7_pushes 117 = .ok (.iadd, 1) := by decide +kernel
theorem dX7_pushes_118 : decode cX7_pushes 118 = .ok (.iadd, 1) := by decide +kernel
theorem dX7_pushes_119 : decode cX7_pushes 119 = .ok (.istore 5, 2) := by decide +kernel
theorem dX7_pushes_121 : decode cX7_pushes 121 = .ok (.iload_n 3, 1) := by decide +kernel
theorem dX7_pushes_122 : decode cX7_pushes 122 = .ok (.iconst (-1), 1) := by decide +kernel
theorem dX7_pushes_123 : decode cX7_pushes 123 = .ok (.if_icmp .eq 12, 3) := by decide +kernel
theorem dX7_pushes_126 : decode cX7_pushes 126 = .ok (.iload 5, 2) := by decide +kernel
theorem dX7_pushes_128 : decode cX7_pushes 128 = .ok (.iload_n 3, 1) := by decide +kernel
theorem dX7_pushes_129 : decode cX7_pushes 129 = .ok (.if_icmp .lt 6, 3) := by decide +kernel
theorem dX7_pushes_132 : decode cX7_pushes 132 = .ok (.goto 9, 3) := by decide +kernel
theorem dX7_pushes_135 : decode cX7_pushes 135 = .ok (.iload 4, 2) := by decide +kernel
theorem dX7_pushes_137 : decode cX7_pushes 137 = .ok (.istore_n 2, 1) := by decide +kernel
theorem dX7_pushes_138 : decode cX7_pushes 138 = .ok (.iload 5, 2) := by decide +kernel
theorem dX7_pushes_140 : decode cX7_pushes 140 = .ok (.istore_n 3, 1) := by decide +kernel
theorem dX7_pushes_141 : decode cX7_pushes 141 = .ok (.iinc 4 1, 3) := by decide +kernel
theorem dX7_pushes_144 : decode cX7_pushes 144 = .ok (.goto (-121), 3) := by decide +kernel
theorem dX7_pushes_147 : decode cX7_pushes 147 = .ok (.aload_n 0, 1) := by decide +kernel
theorem dX7_pushes_148 : decode cX7_pushes 148 = .ok (.iconst 0, 1) := by decide +kernel
theorem dX7_pushes_149 : decode cX7_pushes 149 = .ok (.putfield 217, 3) := by decide +kernel
theorem dX7_pushes_152 : decode cX7_pushes 152 = .ok (.iload_n 1, 1) := by decide +kernel
theorem dX7_pushes_153 : decode cX7_pushes 153 = .ok (.ifCond .ne 7, 3) := by decide +kernel
theorem dX7_pushes_156 : decode cX7_pushes 156 = .ok (.iload_n 2, 1) := by decide +kernel
theorem dX7_pushes_157 : decode cX7_pushes 157 = .ok (.goto 4, 3) := by decide +kernel
theorem dX7_pushes_160 : decode cX7_pushes 160 = .ok (.iload_n 3, 1) := by decide +kernel
theorem dX7_pushes_161 : decode cX7_pushes 161 = .ok (.ireturn, 1) := by decide +kernel
abbrev k_X7_pushes : zK := (cX7_pushes, 7, RX7, (some .int), ({ frames := 5, cells := 0, slots := 0, locals := 120 } : Room))
theorem zc_X7_pushes : zcal yX7_pushes k_X7_pushes.1 k_X7_pushes.2.1 k_X7_pushes.2.2.2.1 1 := ⟨tw_code_yX7_pushes, tw_i_TollForHesitatorsModel, ⟨by decide +kernel, by decide +kernel⟩, by decide +kernel⟩
theorem zv_X7_pushes : Cond.instanceMethod yX7_pushes ∈ TS ∧ Cond.selects RX7 yX7_pushes yX7_pushes ∈ TS := ⟨tw_inst_yX7_pushes, tw_s_yX7_pushes⟩
def v_X7_pushes_r : Nat → Nat → mT → Int32 → Int32 → Int32 → Int32 → Int32 → Int32 → Int32 × mT
  | 0, _, M, _, _, _, _, _, _ => (0, M)
  | n + 1, l, M, v1, v2, v3, v4, v5, v6 => if l = 0 then if (1 <<< ((M.1 0) &&& 31)) ≤ v4 then ((if v1 = 0 then v2 else v3), msf M 36 0) else v_X7_pushes_r n 1 M v1 v2 v3 v4 0 0 else if (M.1 0) ≤ v6 then kk (v_X7_comes (msf M 36 v4) (M.1 0)) (fun q15 : mT => kk (if v3 = (-1) then v5 + (((q15.1 38) * (q15.1 3)) + (1000 * (q15.1 39))) else (if (v5 + (((q15.1 38) * (q15.1 3)) + (1000 * (q15.1 39)))) < v3 then v5 + (((q15.1 38) * (q15.1 3)) + (1000 * (q15.1 39))) else v3)) (fun m20 : Int32 => kk (if v3 = (-1) then v4 else (if (v5 + (((q15.1 38) * (q15.1 3)) + (1000 * (q15.1 39)))) < v3 then v4 else v2)) (fun m21 : Int32 => v_X7_pushes_r n 0 q15 v1 m21 m20 (v4 + 1) 0 0))) else v_X7_pushes_r n 1 (msa M 33 (upd (M.2.1 33) v6.toNatClampNeg v6)) v1 v2 v3 v4 (if ((v4 >>> (v6 &&& 31)) &&& 1) = 1 then v5 + (M.1 4) else v5) (v6 + 1)
def p_X7_pushes_r : Nat → Nat → mT → Int32 → Int32 → Int32 → Int32 → Int32 → Int32 → Prop
  | 0, _, _, _, _, _, _, _, _ => False
  | n + 1, l, M, v1, v2, v3, v4, v5, v6 => if l = 0 then if (1 <<< ((M.1 0) &&& 31)) ≤ v4 then True else p_X7_pushes_r n 1 M v1 v2 v3 v4 0 0 else if (M.1 0) ≤ v6 then (p_X7_comes (msf M 36 v4) (M.1 0)) ∧ (kk (v_X7_comes (msf M 36 v4) (M.1 0)) (fun q15 : mT => kk (if v3 = (-1) then v5 + (((q15.1 38) * (q15.1 3)) + (1000 * (q15.1 39))) else (if (v5 + (((q15.1 38) * (q15.1 3)) + (1000 * (q15.1 39)))) < v3 then v5 + (((q15.1 38) * (q15.1 3)) + (1000 * (q15.1 39))) else v3)) (fun m20 : Int32 => kk (if v3 = (-1) then v4 else (if (v5 + (((q15.1 38) * (q15.1 3)) + (1000 * (q15.1 39)))) < v3 then v4 else v2)) (fun m21 : Int32 => p_X7_pushes_r n 0 q15 v1 m21 m20 (v4 + 1) 0 0)))) else vp_in v6 7 ∧ (p_X7_pushes_r n 1 (msa M 33 (upd (M.2.1 33) v6.toNatClampNeg v6)) v1 v2 v3 v4 (if ((v4 >>> (v6 &&& 31)) &&& 1) = 1 then v5 + (M.1 4) else v5) (v6 + 1))
set_option maxHeartbeats 4000000 in
theorem w_X7_pushes {G : zG} {Γ : zT} {a : Nat → Nat} {A : Nat → Prop} {res : Int32 × mT} {X : zX} (hw : wk X A Γ.2.2.1.1.heap) (hQ : zQ Γ (Qwi G (fun r w => r = res.1 ∧ w = mW G a res.2) A) 0 0 A) : ∀ n : Nat, (∀ (M : mT) (v1 : Int32) (v2 : Int32) (v3 : Int32) (v4 : Int32) (v5 : Int32) (v6 : Int32), p_X7_pushes_r n 0 M v1 v2 v3 v4 v5 v6 → v_X7_pushes_r n 0 M v1 v2 v3 v4 v5 v6 = res → Z k_X7_pushes G Γ (wr G A Γ.2.2.1.1.heap (mW G a M)) 0 0 [(0, .ref (a 0)), (1, .int v1), (2, .int v2), (3, .int v3), (4, .int v4)] 23 []) ∧ (∀ (M : mT) (v1 : Int32) (v2 : Int32) (v3 : Int32) (v4 : Int32) (v5 : Int32) (v6 : Int32), p_X7_pushes_r n 1 M v1 v2 v3 v4 v5 v6 → v_X7_pushes_r n 1 M v1 v2 v3 v4 v5 v6 = res → Z k_X7_pushes G Γ (wr G A Γ.2.2.1.1.heap (mW G a M)) 0 0 [(0, .ref (a 0)), (1, .int v1), (2, .int v2), (3, .int v3), (4, .int v4), (5, .int v5), (6, .int v6)] 40 []) := by
  intro n
  induction n with
  | zero => exact ⟨fun M v1 v2 v3 v4 v5 v6 hp => absurd hp (by rw [p_X7_pushes_r]; exact not_false), fun M v1 v2 v3 v4 v5 v6 hp => absurd hp (by rw [p_X7_pushes_r]; exact not_false)⟩
  | succ n ih =>
    refine ⟨?_, ?_⟩
    · intro M v1 v2 v3 v4 v5 v6 hp hv
      rw [p_X7_pushes_r] at hp
      rw [v_X7_pushes_r] at hv
      have hp := ip_t hp rfl
      have hv := it_t hv rfl
      refine z_iload dX7_pushes_23 rfl ?_
      refine z_iconst (v := 1) dX7_pushes_25 rfl ?_
      refine z_aload_n dX7_pushes_26 rfl ?_
      refine mg_0 (v := M.1 0) wr_P rfl rfl dX7_pushes_27 ?_
      refine z_ishl dX7_pushes_30 ?_
      refine z_icmp_ge (tgt := 147) dX7_pushes_31 (by decide) (fun c7 => ?_) (fun c7 => ?_)
      · have hp := ip_t hp c7; have hv := it_t hv c7
        refine z_aload_n dX7_pushes_147 rfl ?_
        refine z_iconst (v := 0) dX7_pushes_148 rfl ?_
        refine mp_36 (v := 0) rfl dX7_pushes_149 ?_
        refine z_iload_n dX7_pushes_152 rfl ?_
        have J25 : ∀ m9 : Int32, m9 = (if v1 = 0 then v2 else v3) → Z k_X7_pushes G Γ (wr G A Γ.2.2.1.1.heap (mW G a (msf M 36 0))) 0 0 [(0, .ref (a 0)), (1, .int v1), (2, .int v2), (3, .int v3), (4, .int v4)] 161 [.int m9] := by
          intro m9 em9
          rewrite [em9]; clear em9
          subst hv; exact z_iret_W hQ rfl rfl rfl ⟨rfl, rfl⟩ dX7_pushes_161
        refine z_if_ne (tgt := 160) dX7_pushes_153 (by decide) (fun c8 => ?_) (fun c8 => ?_)
        · skip
          refine z_iload_n dX7_pushes_160 rfl ?_
          exact z_lv rfl (J25 _ (if_neg c8).symm)
        · skip
          refine z_iload_n dX7_pushes_156 rfl ?_
          refine z_goto (tgt := 161) dX7_pushes_157 (by decide) ?_
          exact z_lv rfl (J25 _ (if_pos c8).symm)
      · have hp := ip_f hp c7; have hv := it_f hv c7
        refine z_iconst (v := 0) dX7_pushes_34 rfl ?_
        refine z_istore (lv' := [(5, .int 0), (0, .ref (a 0)), (1, .int v1), (2, .int v2), (3, .int v3), (4, .int v4)]) dX7_pushes_35 (Nat.le_of_ble_eq_true rfl) rfl ?_
        refine z_iconst (v := 0) dX7_pushes_37 rfl ?_
        refine z_istore (lv' := [(6, .int 0), (5, .int 0), (0, .ref (a 0)), (1, .int v1), (2, .int v2), (3, .int v3), (4, .int v4)]) dX7_pushes_38 (Nat.le_of_ble_eq_true rfl) rfl ?_
        exact z_lv rfl ((ih).2 M v1 v2 v3 v4 0 0 hp hv)
    · intro M v1 v2 v3 v4 v5 v6 hp hv
      rw [p_X7_pushes_r] at hp
      rw [v_X7_pushes_r] at hv
      have hp := ip_f hp (by decide)
      have hv := it_f hv (by decide)
      refine z_iload dX7_pushes_40 rfl ?_
      refine z_aload_n dX7_pushes_42 rfl ?_
      refine mg_0 (v := M.1 0) wr_P rfl rfl dX7_pushes_43 ?_
      refine z_icmp_ge (tgt := 84) dX7_pushes_46 (by decide) (fun c10 => ?_) (fun c10 => ?_)
      · have hp := ip_t hp c10; have hv := it_t hv c10
        refine z_aload_n dX7_pushes_84 rfl ?_
        refine z_iload dX7_pushes_85 rfl ?_
        refine mp_36 (v := v4) rfl dX7_pushes_87 ?_
        refine z_aload_n dX7_pushes_90 rfl ?_
        refine z_aload_n dX7_pushes_91 rfl ?_
        refine mg_0 (v := M.1 0) wr_P rfl rfl dX7_pushes_92 ?_
        obtain ⟨q14, hp⟩ := hp
        refine z_cavvD hw (fun sz => c_X7_comes G a hw.1 sz (msf M 36 v4) (M.1 0) q14) zc_X7_comes zv_X7_comes tw_m_RX7_236 (mrec wr_P) (zroom_of rfl) rfl (Nat.le_of_ble_eq_true rfl) dX7_pushes_95 ?_
        suffices z26 : ∀ q15 : mT, q15 = (v_X7_comes (msf M 36 v4) (M.1 0)) → Z k_X7_pushes G Γ (wr G A Γ.2.2.1.1.heap (mW G a q15)) 0 0 [(0, .ref (a 0)), (1, .int v1), (2, .int v2), (3, .int v3), (4, .int v4), (5, .int v5), (6, .int v6)] 98 [] from z26 _ rfl
        intro q15 hq15
        have hp := kk_pq hp hq15
        have hv := kk_vq hv hq15
        clear hq15
        refine z_iload dX7_pushes_98 rfl ?_
        refine z_aload_n dX7_pushes_100 rfl ?_
        refine mg_38 (v := q15.1 38) wr_P rfl rfl dX7_pushes_101 ?_
        refine z_aload_n dX7_pushes_104 rfl ?_
        refine mg_3 (v := q15.1 3) wr_P rfl rfl dX7_pushes_105 ?_
        refine z_imul dX7_pushes_108 ?_
        refine z_sipush (v := 1000) dX7_pushes_109 rfl ?_
        refine z_aload_n dX7_pushes_112 rfl ?_
        refine mg_39 (v := q15.1 39) wr_P rfl rfl dX7_pushes_113 ?_
        refine z_imul dX7_pushes_116 ?_
        refine z_iadd dX7_pushes_117 ?_
        refine z_iadd dX7_pushes_118 ?_
        refine z_istore (lv' := [(5, .int (v5 + (((q15.1 38) * (q15.1 3)) + (1000 * (q15.1 39))))), (0, .ref (a 0)), (1, .int v1), (2, .int v2), (3, .int v3), (4, .int v4), (6, .int v6)]) dX7_pushes_119 (Nat.le_of_ble_eq_true rfl) rfl ?_
        refine z_iload_n dX7_pushes_121 rfl ?_
        refine z_iconst (v := (-1)) dX7_pushes_122 rfl ?_
        have J27 : ∀ m20 : Int32, m20 = (if v3 = (-1) then v5 + (((q15.1 38) * (q15.1 3)) + (1000 * (q15.1 39))) else (if (v5 + (((q15.1 38) * (q15.1 3)) + (1000 * (q15.1 39)))) < v3 then v5 + (((q15.1 38) * (q15.1 3)) + (1000 * (q15.1 39))) else v3)) → ∀ m21 : Int32, m21 = (if v3 = (-1) then v4 else (if (v5 + (((q15.1 38) * (q15.1 3)) + (1000 * (q15.1 39)))) < v3 then v4 else v2)) → Z k_X7_pushes G Γ (wr G A Γ.2.2.1.1.heap (mW G a q15)) 0 0 [(3, .int m20), (2, .int m21), (5, .int (v5 + (((q15.1 38) * (q15.1 3)) + (1000 * (q15.1 39))))), (0, .ref (a 0)), (1, .int v1), (4, .int v4), (6, .int v6)] 141 [] := by
          intro m20 em20 m21 em21
          have hp := kk_pq hp em20
          have hv := kk_vq hv em20
          clear em20
          have hp := kk_pq hp em21
          have hv := kk_vq hv em21
          clear em21
          refine z_iinc (v := v4 + 1) (lv' := [(4, .int (v4 + 1)), (3, .int m20), (2, .int m21), (5, .int (v5 + (((q15.1 38) * (q15.1 3)) + (1000 * (q15.1 39))))), (0, .ref (a 0)), (1, .int v1), (6, .int v6)]) dX7_pushes_141 5 rfl rfl (Nat.le_of_ble_eq_true rfl) rfl ?_
          refine z_goto (tgt := 23) dX7_pushes_144 (by decide) ?_
          exact z_lv rfl ((ih).1 q15 v1 m21 m20 (v4 + 1) 0 0 hp hv)
        refine z_icmp_eq (tgt := 135) dX7_pushes_123 (by decide) (fun c16 => ?_) (fun c16 => ?_)
        · skip
          refine z_iload dX7_pushes_135 rfl ?_
          refine z_istore_n (lv' := [(2, .int v4), (5, .int (v5 + (((q15.1 38) * (q15.1 3)) + (1000 * (q15.1 39))))), (0, .ref (a 0)), (1, .int v1), (3, .int v3), (4, .int v4), (6, .int v6)]) dX7_pushes_137 (Nat.le_of_ble_eq_true rfl) rfl ?_
          refine z_iload dX7_pushes_138 rfl ?_
          refine z_istore_n (lv' := [(3, .int (v5 + (((q15.1 38) * (q15.1 3)) + (1000 * (q15.1 39))))), (2, .int v4), (5, .int (v5 + (((q15.1 38) * (q15.1 3)) + (1000 * (q15.1 39))))), (0, .ref (a 0)), (1, .int v1), (4, .int v4), (6, .int v6)]) dX7_pushes_140 (Nat.le_of_ble_eq_true rfl) rfl ?_
          exact z_lv rfl (J27 _ (if_pos c16).symm _ (if_pos c16).symm)
        · skip
          refine z_iload dX7_pushes_126 rfl ?_
          refine z_iload_n dX7_pushes_128 rfl ?_
          have J28 : ∀ m18 : Int32, m18 = (if (v5 + (((q15.1 38) * (q15.1 3)) + (1000 * (q15.1 39)))) < v3 then v5 + (((q15.1 38) * (q15.1 3)) + (1000 * (q15.1 39))) else v3) → ∀ m19 : Int32, m19 = (if (v5 + (((q15.1 38) * (q15.1 3)) + (1000 * (q15.1 39)))) < v3 then v4 else v2) → Z k_X7_pushes G Γ (wr G A Γ.2.2.1.1.heap (mW G a q15)) 0 0 [(3, .int m18), (2, .int m19), (5, .int (v5 + (((q15.1 38) * (q15.1 3)) + (1000 * (q15.1 39))))), (0, .ref (a 0)), (1, .int v1), (4, .int v4), (6, .int v6)] 141 [] := by
            intro m18 em18 m19 em19
            rewrite [em18]; clear em18
            rewrite [em19]; clear em19
            exact z_lv rfl (J27 _ (if_neg c16).symm _ (if_neg c16).symm)
          refine z_icmp_lt (tgt := 135) dX7_pushes_129 (by decide) (fun c17 => ?_) (fun c17 => ?_)
          · skip
            refine z_iload dX7_pushes_135 rfl ?_
            refine z_istore_n (lv' := [(2, .int v4), (5, .int (v5 + (((q15.1 38) * (q15.1 3)) + (1000 * (q15.1 39))))), (0, .ref (a 0)), (1, .int v1), (3, .int v3), (4, .int v4), (6, .int v6)]) dX7_pushes_137 (Nat.le_of_ble_eq_true rfl) rfl ?_
            refine z_iload dX7_pushes_138 rfl ?_
            refine z_istore_n (lv' := [(3, .int (v5 + (((q15.1 38) * (q15.1 3)) + (1000 * (q15.1 39))))), (2, .int v4), (5, .int (v5 + (((q15.1 38) * (q15.1 3)) + (1000 * (q15.1 39))))), (0, .ref (a 0)), (1, .int v1), (4, .int v4), (6, .int v6)]) dX7_pushes_140 (Nat.le_of_ble_eq_true rfl) rfl ?_
            exact z_lv rfl (J28 _ (if_pos c17).symm _ (if_pos c17).symm)
          · skip
            refine z_goto (tgt := 141) dX7_pushes_132 (by decide) ?_
            exact z_lv rfl (J28 _ (if_neg c17).symm _ (if_neg c17).symm)
      · have hp := ip_f hp c10; have hv := it_f hv c10
        refine z_aload_n dX7_pushes_49 rfl ?_
        refine mg_33 wr_P rfl dX7_pushes_50 ?_
        refine z_iload dX7_pushes_53 rfl ?_
        refine z_iload dX7_pushes_55 rfl ?_
        obtain ⟨q22, hp⟩ := hp
        refine ms_33 (F := upd (M.2.1 33) v6.toNatClampNeg v6) q22 rfl dX7_pushes_57 ?_
        refine z_iload dX7_pushes_58 rfl ?_
        refine z_iload dX7_pushes_60 rfl ?_
        refine z_ishr dX7_pushes_62 ?_
        refine z_iconst (v := 1) dX7_pushes_63 rfl ?_
        refine z_iand dX7_pushes_64 ?_
        refine z_iconst (v := 1) dX7_pushes_65 rfl ?_
        have J29 : ∀ m24 : Int32, m24 = (if ((v4 >>> (v6 &&& 31)) &&& 1) = 1 then v5 + (M.1 4) else v5) → Z k_X7_pushes G Γ (wr G A Γ.2.2.1.1.heap (mW G a (msa M 33 (upd (M.2.1 33) v6.toNatClampNeg v6)))) 0 0 [(5, .int m24), (0, .ref (a 0)), (1, .int v1), (2, .int v2), (3, .int v3), (4, .int v4), (6, .int v6)] 78 [] := by
          intro m24 em24
          rewrite [em24]; clear em24
          refine z_iinc (v := v6 + 1) (lv' := [(6, .int (v6 + 1)), (5, .int (if ((v4 >>> (v6 &&& 31)) &&& 1) = 1 then v5 + (M.1 4) else v5)), (0, .ref (a 0)), (1, .int v1), (2, .int v2), (3, .int v3), (4, .int v4)]) dX7_pushes_78 6 rfl rfl (Nat.le_of_ble_eq_true rfl) rfl ?_
          refine z_goto (tgt := 40) dX7_pushes_81 (by decide) ?_
          exact z_lv rfl ((ih).2 (msa M 33 (upd (M.2.1 33) v6.toNatClampNeg v6)) v1 v2 v3 v4 (if ((v4 >>> (v6 &&& 31)) &&& 1) = 1 then v5 + (M.1 4) else v5) (v6 + 1) hp hv)
        refine z_icmp_ne (tgt := 78) dX7_pushes_66 (by decide) (fun c23 => ?_) (fun c23 => ?_)
        · skip
          exact z_lv rfl (J29 _ (if_neg c23).symm)
        · skip
          refine z_iload dX7_pushes_69 rfl ?_
          refine z_aload_n dX7_pushes_71 rfl ?_
          refine mg_4 (v := M.1 4) wr_P rfl rfl dX7_pushes_72 ?_
          refine z_iadd dX7_pushes_75 ?_
          refine z_istore (lv' := [(5, .int (v5 + (M.1 4))), (0, .ref (a 0)), (1, .int v1), (2, .int v2), (3, .int v3), (4, .int v4), (6, .int v6)]) dX7_pushes_76 (Nat.le_of_ble_eq_true rfl) rfl ?_
          exact z_lv rfl (J29 _ (if_pos c23).symm)
def v_X7_pushes (M : mT) (x1 : Int32) : Int32 × mT := if x1 < 0 then kk (v_X7_no M (-5)) (fun q3 : Int32 × mT => (q3.1, q3.2)) else if x1 ≤ 1 then v_X7_pushes_r 1400 0 M x1 0 (-1) 0 0 0 else kk (v_X7_no M (-5)) (fun q6 : Int32 × mT => (q6.1, q6.2))
def p_X7_pushes (M : mT) (x1 : Int32) : Prop := if x1 < 0 then p_X7_no M (-5) else if x1 ≤ 1 then p_X7_pushes_r 1400 0 M x1 0 (-1) 0 0 0 else p_X7_no M (-5)
set_option maxHeartbeats 4000000 in
theorem c_X7_pushes {l : Launch} (G : zG) (a : Nat → Nat) {X : zX} (hX : XOK X) (sz : Nat) (M : mT) (x1 : Int32) (hp : p_X7_pushes M x1) : Met l yX7_pushes (.code yX7_pushes k_X7_pushes.1 k_X7_pushes.2.1 k_X7_pushes.2.2.2.1 :: TS) k_X7_pushes.2.2.2.2 (Pz G [.ref (a 0), .int x1] (Fw G X (mW G a M) sz)) (Qwi G (fun r w => r = (v_X7_pushes M x1).1 ∧ w = mW G a (v_X7_pushes M x1).2) (va_A (mW G a M) sz)) 0 0 (va_A (mW G a M) sz) := by
  refine zmet (by decide +kernel) rfl rfl (fun Γ hl0 hQ hN hF => ?_)
  refine z_start hX hF (fun hw => ?_)
  generalize va_A (mW G a M) sz = A at hQ hw ⊢
  obtain ⟨res, hv⟩ : ∃ res, v_X7_pushes M x1 = res := ⟨_, rfl⟩
  rw [hv] at hQ
  unfold v_X7_pushes at hv
  unfold p_X7_pushes at hp
  show Z k_X7_pushes G Γ _ 0 0 [(0, .ref (a 0)), (1, .int x1)] 0 []
  refine z_iload_n dX7_pushes_0 rfl ?_
  refine z_if_lt (tgt := 9) dX7_pushes_1 (by decide) (fun c1 => ?_) (fun c1 => ?_)
  · have hp := ip_t hp c1; have hv := it_t hv c1
    refine z_aload_n dX7_pushes_9 rfl ?_
    refine z_bipush (v := (-5)) dX7_pushes_10 rfl ?_
    have q2 := hp
    refine z_caviD hw (fun sz => c_X7_no G a hw.1 sz M (-5) q2) zc_X7_no zv_X7_no tw_m_RX7_106 (mrec wr_P) (zroom_of rfl) rfl (Nat.le_of_ble_eq_true rfl) dX7_pushes_12 ?_
    suffices z30 : ∀ q3 : Int32 × mT, q3 = (v_X7_no M (-5)) → Z k_X7_pushes G Γ (wr G A Γ.2.2.1.1.heap (mW G a q3.2)) 0 0 [(0, .ref (a 0)), (1, .int x1)] 15 [.int q3.1] from z30 _ rfl
    intro q3 hq3
    have hv := kk_vq hv hq3
    clear hq3
    subst hv; exact z_iret_W hQ rfl rfl rfl ⟨rfl, rfl⟩ dX7_pushes_15
  · have hp := ip_f hp c1; have hv := it_f hv c1
    refine z_iload_n dX7_pushes_4 rfl ?_
    refine z_iconst (v := 1) dX7_pushes_5 rfl ?_
    refine z_icmp_le (tgt := 16) dX7_pushes_6 (by decide) (fun c4 => ?_) (fun c4 => ?_)
    · have hp := ip_t hp c4; have hv := it_t hv c4
      refine z_iconst (v := 0) dX7_pushes_16 rfl ?_
      refine z_istore_n (lv' := [(2, .int 0), (0, .ref (a 0)), (1, .int x1)]) dX7_pushes_17 (Nat.le_of_ble_eq_true rfl) rfl ?_
      refine z_iconst (v := (-1)) dX7_pushes_18 rfl ?_
      refine z_istore_n (lv' := [(3, .int (-1)), (2, .int 0), (0, .ref (a 0)), (1, .int x1)]) dX7_pushes_19 (Nat.le_of_ble_eq_true rfl) rfl ?_
      refine z_iconst (v := 0) dX7_pushes_20 rfl ?_
      refine z_istore (lv' := [(4, .int 0), (3, .int (-1)), (2, .int 0), (0, .ref (a 0)), (1, .int x1)]) dX7_pushes_21 (Nat.le_of_ble_eq_true rfl) rfl ?_
      exact z_lv rfl ((w_X7_pushes hw hQ 1400).1 M x1 0 (-1) 0 0 0 hp hv)
    · have hp := ip_f hp c4; have hv := it_f hv c4
      refine z_aload_n dX7_pushes_9 rfl ?_
      refine z_bipush (v := (-5)) dX7_pushes_10 rfl ?_
      have q5 := hp
      refine z_caviD hw (fun sz => c_X7_no G a hw.1 sz M (-5) q5) zc_X7_no zv_X7_no tw_m_RX7_106 (mrec wr_P) (zroom_of rfl) rfl (Nat.le_of_ble_eq_true rfl) dX7_pushes_12 ?_
      suffices z31 : ∀ q6 : Int32 × mT, q6 = (v_X7_no M (-5)) → Z k_X7_pushes G Γ (wr G A Γ.2.2.1.1.heap (mW G a q6.2)) 0 0 [(0, .ref (a 0)), (1, .int x1)] 15 [.int q6.1] from z31 _ rfl
      intro q6 hq6
      have hv := kk_vq hv hq6
      clear hq6
      subst hv; exact z_iret_W hQ rfl rfl rfl ⟨rfl, rfl⟩ dX7_pushes_15
theorem dX7_practise_0 : decode cX7_practise 0 = .ok (.aload_n 0, 1) := by decide +kernel
theorem dX7_practise_1 : decode cX7_practise 1 = .ok (.iload_n 1, 1) := by decide +kernel
theorem dX7_practise_2 : decode cX7_practise 2 = .ok (.invokevirtual 110, 3) := by decide +kernel
theorem dX7_practise_5 : decode cX7_practise 5 = .ok (.ifCond .ne 9, 3) := by decide +kernel
theorem dX7_practise_8 : decode cX7_practise 8 = .ok (.aload_n 0, 1) := by decide +kernel
theorem dX7_practise_9 : decode cX7_practise 9 = .ok (.iconst (-1), 1) := by decide +kernel
theorem dX7_practise_10 : decode cX7_practise 10 = .ok (.invokevirtual 106, 3) := by decide +kernel
theorem dX7_practise_13 : decode cX7_practise 13 = .ok (.ireturn, 1) := by decide +kernel
theorem dX7_practise_14 : decode cX7_practise 14 = .ok (.iload_n 3, 1) := by decide +kernel
theorem dX7_practise_15 : decode cX7_practise 15 = .ok (.ifCond .lt 8, 3) := by decide +kernel
theorem dX7_practise_18 : decode cX7_practise 18 = .ok (.iload_n 3, 1) := by decide +kernel
theorem dX7_practise_19 : decode cX7_practise 19 = .ok (.iconst 1, 1) := by decide +kernel
theorem dX7_practise_20 : decode cX7_practise 20 = .ok (.if_icmp .le 10, 3) := by decide +kernel
theorem dX7_practise_23 : decode cX7_practise 23 = .ok (.aload_n 0, 1) := by decide +kernel
theorem dX7_practise_24 : decode cX7_practise 24 = .ok (.bipush (-5), 2) := by decide +kernel
theorem dX7_practise_26 : decode cX7_practise 26 = .ok (.invokevirtual 106, 3) := by decide +kernel
theorem dX7_practise_29 : decode cX7_practise 29 = .ok (.ireturn, 1) := by decide +kernel
theorem dX7_practise_30 : decode cX7_practise 30 = .ok (.aload_n 0, 1) := by decide +kernel
theorem dX7_practise_31 : decode cX7_practise 31 = .ok (.iload_n 2, 1) := by decide +kernel
theorem dX7_practise_32 : decode cX7_practise 32 = .ok (.iconst 1, 1) := by decide +kernel
theorem dX7_practise_33 : decode cX7_practise 33 = .ok (.bipush 99, 2) := by decide +kernel
theorem dX7_practise_35 : decode cX7_practise 35 = .ok (.invokevirtual 116, 3) := by decide +kernel
theorem dX7_practise_38 : decode cX7_practise 38 = .ok (.ifCond .ne 10, 3) := by decide +kernel
theorem dX7_practise_41 : decode cX7_practise 41 = .ok (.aload_n 0, 1) := by decide +kernel
theorem dX7_practise_42 : decode cX7_practise 42 = .ok (.bipush (-6), 2) := by decide +kernel
theorem dX7_practise_44 : decode cX7_practise 44 = .ok (.invokevirtual 106, 3) := by decide +kernel
theorem dX7_practise_47 : decode cX7_practise 47 = .ok (.ireturn, 1) := by decide +kernel
theorem dX7_practise_48 : decode cX7_practise 48 = .ok (.aload_n 0, 1) := by decide +kernel
theorem dX7_practise_49 : decode cX7_practise 49 = .ok (.getfield 35, 3) := by decide +kernel
theorem dX7_practise_52 : decode cX7_practise 52 = .ok (.iload_n 1, 1) := by decide +kernel
theorem dX7_practise_53 : decode cX7_practise 53 = .ok (.iaload, 1) := by decide +kernel
theorem dX7_practise_54 : decode cX7_practise 54 = .ok (.istore 4, 2) := by decide +kernel
theorem dX7_practise_56 : decode cX7_practise 56 = .ok (.iconst 0, 1) := by decide +kernel
theorem dX7_practise_57 : decode cX7_practise 57 = .ok (.istore 5, 2) := by decide +kernel
theorem dX7_practise_59 : decode cX7_practise 59 = .ok (.iconst (-1), 1) := by decide +kernel
theorem dX7_practise_60 : decode cX7_practise 60 = .ok (.istore 6, 2) := by decide +kernel
theorem dX7_practise_62 : decode cX7_practise 62 = .ok (.iconst 0, 1) := by decide +kernel
theorem dX7_practise_63 : decode cX7_practise 63 = .ok (.istore 7, 2) := by decide +kernel
theorem dX7_practise_65 : decode cX7_practise 65 = .ok (.iload 7, 2) := by decide +kernel
theorem dX7_practise_67 : decode cX7_practise 67 = .ok (.bipush 20, 2) := by decide +kernel
theorem dX7_practise_69 : decode cX7_practise 69 = .ok (.if_icmp .gt 76, 3) := by decide +kernel
theorem dX7_practise_72 : decode cX7_practise 72 = .ok (.aload_n 0, 1) := by decide +kernel
theorem dX7_practise_73 : decode cX7_practise 73 = .ok (.getfield 35, 3) := by decide +kernel
theorem dX7_practise_76 : decode cX7_practise 76 = .ok (.iload_n 1, 1) := by decide +kernel
theorem dX7_practise_77 : decode cX7_practise 77 = .ok (.iload 4, 2) := by decide +kernel
theorem dX7_practise_79 : decode cX7_practise 79 = .ok (.iload 7, 2) := by decide +kernel
theorem dX7_practise_81 : decode cX7_practise 81 = .ok (.iadd, 1) := by decide +kernel
theorem dX7_practise_82 : decode cX7_practise 82 = .ok (.bipush 30, 2) := by decide +kernel
theorem dX7_practise_84 : decode cX7_practise 84 = .ok (.if_icmp .le 8, 3) := by decide +kernel
theorem dX7_practise_87 : decode cX7_practise 87 = .ok (.bipush 30, 2) := by decide +kernel
theorem dX7_practise_89 : decode cX7_practise 89 = .ok (.goto 8, 3) := by decide +kernel
theorem dX7_practise_92 : decode cX7_practise 92 = .ok (.iload 4, 2) := by decide +kernel
theorem dX7_practise_94 : decode cX7_practise 94 = .ok (.iload 7, 2) := by decide +kernel
theorem dX7_practise_96 : decode cX7_practise 96 = .ok (.iadd, 1) := by decide +kernel
theorem dX7_practise_97 : decode cX7_practise 97 = .ok (.iastore, 1) := by decide +kernel
theorem dX7_practise_98 : decode cX7_practise 98 = .ok (.iload 7, 2) := by decide +kernel
theorem dX7_practise_100 : decode cX7_practise 100 = .ok (.iload_n 2, 1) := by decide +kernel
theorem dX7_practise_101 : decode cX7_practise 101 = .ok (.imul, 1) := by decide +kernel
theorem dX7_practise_102 : decode cX7_practise 102 = .ok (.aload_n 0, 1) := by decide +kernel
theorem dX7_practise_103 : decode cX7_practise 103 = .ok (.iload_n 1, 1) := by decide +kernel
theorem dX7_practise_104 : decode cX7_practise 104 = .ok (.invokevirtual 214, 3) := by decide +kernel
theorem dX7_practise_107 : decode cX7_practise 107 = .ok (.aload_n 0, 1) := by decide +kernel
theorem dX7_practise_108 : decode cX7_practise 108 = .ok (.getfield 13, 3) := by decide +kernel
theorem dX7_practise_111 : decode cX7_practise 111 = .ok (.imul, 1) := by decide +kernel
theorem dX7_practise_112 : decode cX7_practise 112 = .ok (.iadd, 1) := by decide +kernel
theorem dX7_practise_113 : decode cX7_practise 113 = .ok (.istore 8, 2) := by decide +kernel
theorem dX7_practise_115 : decode cX7_practise 115 = .ok (.iload 6, 2) := by decide +kernel
theorem dX7_practise_117 : decode cX7_practise 117 = .ok (.iconst (-1), 1) := by decide +kernel
theorem dX7_practise_118 : decode cX7_practise 118 = .ok (.if_icmp .eq 13, 3) := by decide +kernel
theorem dX7_practise_121 : decode cX7_practise 121 = .ok (.iload 8, 2) := by decide +kernel
theorem dX7_practise_123 : decode cX7_practise 123 = .ok (.iload 6, 2) := by decide +kernel
theorem dX7_practise_125 : decode cX7_practise 125 = .ok (.if_icmp .lt 6, 3) := by decide +kernel
theorem dX7_practise_128 : decode cX7_practise 128 = .ok (.goto 11, 3) := by decide +kernel
theorem dX7_practise_131 : decode cX7_practise 131 = .ok (.iload 7, 2) := by decide +kernel
theorem dX7_practise_133 : decode cX7_practise 133 = .ok (.istore 5, 2) := by decide +kernel
theorem dX7_practise_135 : decode cX7_practise 135 = .ok (.iload 8, 2) := by decide +kernel
theorem dX7_practise_137 : decode cX7_practise 137 = .ok (.istore 6, 2) := by decide +kernel
theorem dX7_practise_139 : decode cX7_practise 139 = .ok (.iinc 7 1, 3) := by decide +kernel
theorem dX7_practise_142 : decode cX7_practise 142 = .ok (.goto (-77), 3) := by decide +kernel
theorem dX7_practise_145 : decode cX7_practise 145 = .ok (.aload_n 0, 1) := by decide +kernel
theorem dX7_practise_146 : decode cX7_practise 146 = .ok (.getfield 35, 3) := by decide +kernel
theorem dX7_practise_149 : decode cX7_practise 149 = .ok (.iload_n 1, 1) := by decide +kernel
theorem dX7_practise_150 : decode cX7_practise 150 = .ok (.iload 4, 2) := by decide +kernel
theorem dX7_practise_152 : decode cX7_practise 152 = .ok (.iastore, 1) := by decide +kernel
theorem dX7_practise_153 : decode cX7_practise 153 = .ok (.iload_n 3, 1) := by decide +kernel
theorem dX7_practise_154 : decode cX7_practise 154 = .ok (.ifCond .ne 8, 3) := by decide +kernel
theorem dX7_practise_157 : decode cX7_practise 157 = .ok (.iload 5, 2) := by decide +kernel
theorem dX7_practise_159 : decode cX7_practise 159 = .ok (.goto 5, 3) := by decide +kernel
theorem dX7_practise_162 : decode cX7_practise 162 = .ok (.iload 6, 2) := by decide +kernel
theorem dX7_practise_164 : decode cX7_practise 164 = .ok (.ireturn, 1) := by decide +kernel
abbrev k_X7_practise : zK := (cX7_practise, 9, RX7, (some .int), ({ frames := 5, cells := 0, slots := 0, locals := 116 } : Room))
theorem zc_X7_practise : zcal yX7_practise k_X7_practise.1 k_X7_practise.2.1 k_X7_practise.2.2.2.1 3 := ⟨tw_code_yX7_practise, tw_i_TollForHesitatorsModel, ⟨by decide +kernel, by decide +kernel⟩, by decide +kernel⟩
theorem zv_X7_practise : Cond.instanceMethod yX7_practise ∈ TS ∧ Cond.selects RX7 yX7_practise yX7_practise ∈ TS := ⟨tw_inst_yX7_practise, tw_s_yX7_practise⟩
def v_X7_practise_r : Nat → mT → Int32 → Int32 → Int32 → Int32 → Int32 → Int32 → Int32 → Int32 × mT
  | 0, M, _, _, _, _, _, _, _ => (0, M)
  | n + 1, M, v1, v2, v3, v4, v5, v6, v7 => if 20 < v7 then ((if v3 = 0 then v5 else v6), msa M 11 (upd (M.2.1 11) v1.toNatClampNeg v4)) else kk ((v7 * v2) + ((v_X7_fogsOf (msa M 11 (upd (M.2.1 11) v1.toNatClampNeg (if (v4 + v7) ≤ 30 then v4 + v7 else 30))) v1) * (M.1 3))) (fun y32 : Int32 => v_X7_practise_r n (msa M 11 (upd (M.2.1 11) v1.toNatClampNeg (if (v4 + v7) ≤ 30 then v4 + v7 else 30))) v1 v2 v3 v4 (if v6 = (-1) then v7 else (if y32 < v6 then v7 else v5)) (if v6 = (-1) then y32 else (if y32 < v6 then y32 else v6)) (v7 + 1))
def p_X7_practise_r : Nat → mT → Int32 → Int32 → Int32 → Int32 → Int32 → Int32 → Int32 → Prop
  | 0, _, _, _, _, _, _, _, _ => False
  | n + 1, M, v1, v2, v3, v4, v5, v6, v7 => if 20 < v7 then vp_in v1 7 else vp_in v1 7 ∧ ((p_X7_fogsOf (msa M 11 (upd (M.2.1 11) v1.toNatClampNeg (if (v4 + v7) ≤ 30 then v4 + v7 else 30))) v1) ∧ (kk ((v7 * v2) + ((v_X7_fogsOf (msa M 11 (upd (M.2.1 11) v1.toNatClampNeg (if (v4 + v7) ≤ 30 then v4 + v7 else 30))) v1) * (M.1 3))) (fun y32 : Int32 => p_X7_practise_r n (msa M 11 (upd (M.2.1 11) v1.toNatClampNeg (if (v4 + v7) ≤ 30 then v4 + v7 else 30))) v1 v2 v3 v4 (if v6 = (-1) then v7 else (if y32 < v6 then v7 else v5)) (if v6 = (-1) then y32 else (if y32 < v6 then y32 else v6)) (v7 + 1))))
set_option maxHeartbeats 4000000 in
theorem w_X7_practise {G : zG} {Γ : zT} {a : Nat → Nat} {A : Nat → Prop} {res : Int32 × mT} {X : zX} (hw : wk X A Γ.2.2.1.1.heap) (hQ : zQ Γ (Qwi G (fun r w => r = res.1 ∧ w = mW G a res.2) A) 0 0 A) : ∀ n : Nat, (∀ (M : mT) (v1 : Int32) (v2 : Int32) (v3 : Int32) (v4 : Int32) (v5 : Int32) (v6 : Int32) (v7 : Int32), p_X7_practise_r n M v1 v2 v3 v4 v5 v6 v7 → v_X7_practise_r n M v1 v2 v3 v4 v5 v6 v7 = res → Z k_X7_practise G Γ (wr G A Γ.2.2.1.1.heap (mW G a M)) 0 0 [(0, .ref (a 0)), (1, .int v1), (2, .int v2), (3, .int v3), (4, .int v4), (5, .int v5), (6, .int v6), (7, .int v7)] 65 []) := by
  intro n
  induction n with
  | zero => exact fun M v1 v2 v3 v4 v5 v6 v7 hp => absurd hp (by rw [p_X7_practise_r]; exact not_false)
  | succ n ih =>
    intro M v1 v2 v3 v4 v5 v6 v7 hp hv
    rw [p_X7_practise_r] at hp
    rw [v_X7_practise_r] at hv
    refine z_iload dX7_practise_65 rfl ?_
    refine z_bipush (v := 20) dX7_practise_67 rfl ?_
    refine z_icmp_gt (tgt := 145) dX7_practise_69 (by decide) (fun c14 => ?_) (fun c14 => ?_)
    · have hp := ip_t hp c14; have hv := it_t hv c14
      refine z_aload_n dX7_practise_145 rfl ?_
      refine mg_11 wr_P rfl dX7_practise_146 ?_
      refine z_iload_n dX7_practise_149 rfl ?_
      refine z_iload dX7_practise_150 rfl ?_
      have q25 := hp
      refine ms_11 (F := upd (M.2.1 11) v1.toNatClampNeg v4) q25 rfl dX7_practise_152 ?_
      refine z_iload_n dX7_practise_153 rfl ?_
      have J39 : ∀ m27 : Int32, m27 = (if v3 = 0 then v5 else v6) → Z k_X7_practise G Γ (wr G A Γ.2.2.1.1.heap (mW G a (msa M 11 (upd (M.2.1 11) v1.toNatClampNeg v4)))) 0 0 [(0, .ref (a 0)), (1, .int v1), (2, .int v2), (3, .int v3), (4, .int v4), (5, .int v5), (6, .int v6), (7, .int v7)] 164 [.int m27] := by
        intro m27 em27
        rewrite [em27]; clear em27
        subst hv; exact z_iret_W hQ rfl rfl rfl ⟨rfl, rfl⟩ dX7_practise_164
      refine z_if_ne (tgt := 162) dX7_practise_154 (by decide) (fun c26 => ?_) (fun c26 => ?_)
      · skip
        refine z_iload dX7_practise_162 rfl ?_
        exact z_lv rfl (J39 _ (if_neg c26).symm)
      · skip
        refine z_iload dX7_practise_157 rfl ?_
        refine z_goto (tgt := 164) dX7_practise_159 (by decide) ?_
        exact z_lv rfl (J39 _ (if_pos c26).symm)
    · have hp := ip_f hp c14; have hv := it_f hv c14
      refine z_aload_n dX7_practise_72 rfl ?_
      refine mg_11 wr_P rfl dX7_practise_73 ?_
      refine z_iload_n dX7_practise_76 rfl ?_
      refine z_iload dX7_practise_77 rfl ?_
      refine z_iload dX7_practise_79 rfl ?_
      refine z_iadd dX7_practise_81 ?_
      refine z_bipush (v := 30) dX7_practise_82 rfl ?_
      have J40 : ∀ m29 : Int32, m29 = (if (v4 + v7) ≤ 30 then v4 + v7 else 30) → Z k_X7_practise G Γ (wr G A Γ.2.2.1.1.heap (mW G a M)) 0 0 [(0, .ref (a 0)), (1, .int v1), (2, .int v2), (3, .int v3), (4, .int v4), (5, .int v5), (6, .int v6), (7, .int v7)] 97 [.int m29, .int v1, .ref (a 11)] := by
        intro m29 em29
        rewrite [em29]; clear em29
        obtain ⟨q30, hp⟩ := hp
        refine ms_11 (F := upd (M.2.1 11) v1.toNatClampNeg (if (v4 + v7) ≤ 30 then v4 + v7 else 30)) q30 rfl dX7_practise_97 ?_
        refine z_iload dX7_practise_98 rfl ?_
        refine z_iload_n dX7_practise_100 rfl ?_
        refine z_imul dX7_practise_101 ?_
        refine z_aload_n dX7_practise_102 rfl ?_
        refine z_iload_n dX7_practise_103 rfl ?_
        obtain ⟨q31, hp⟩ := hp
        refine z_cvi (c_X7_fogsOf G a (msa M 11 (upd (M.2.1 11) v1.toNatClampNeg (if (v4 + v7) ≤ 30 then v4 + v7 else 30))) v1 q31) zc_X7_fogsOf zv_X7_fogsOf tw_m_RX7_214 (mrec wr_P) wr_P (zroom_of rfl) rfl (Nat.le_of_ble_eq_true rfl) dX7_practise_104 ?_
        refine z_aload_n dX7_practise_107 rfl ?_
        refine mg_3 (v := M.1 3) wr_P rfl rfl dX7_practise_108 ?_
        refine z_imul dX7_practise_111 ?_
        refine z_iadd dX7_practise_112 ?_
        suffices z41 : ∀ y32 : Int32, y32 = ((v7 * v2) + ((v_X7_fogsOf (msa M 11 (upd (M.2.1 11) v1.toNatClampNeg (if (v4 + v7) ≤ 30 then v4 + v7 else 30))) v1) * (M.1 3))) → Z k_X7_practise G Γ (wr G A Γ.2.2.1.1.heap (mW G a (msa M 11 (upd (M.2.1 11) v1.toNatClampNeg (if (v4 + v7) ≤ 30 then v4 + v7 else 30))))) 0 0 [(0, .ref (a 0)), (1, .int v1), (2, .int v2), (3, .int v3), (4, .int v4), (5, .int v5), (6, .int v6), (7, .int v7)] 113 [.int y32] from z41 _ rfl
        intro y32 hy32
        have hp := kk_pq hp hy32
        have hv := kk_vq hv hy32
        clear hy32
        refine z_istore (lv' := [(8, .int y32), (0, .ref (a 0)), (1, .int v1), (2, .int v2), (3, .int v3), (4, .int v4), (5, .int v5), (6, .int v6), (7, .int v7)]) dX7_practise_113 (Nat.le_of_ble_eq_true rfl) rfl ?_
        refine z_iload dX7_practise_115 rfl ?_
        refine z_iconst (v := (-1)) dX7_practise_117 rfl ?_
        have J42 : ∀ m37 : Int32, m37 = (if v6 = (-1) then y32 else (if y32 < v6 then y32 else v6)) → ∀ m38 : Int32, m38 = (if v6 = (-1) then v7 else (if y32 < v6 then v7 else v5)) → Z k_X7_practise G Γ (wr G A Γ.2.2.1.1.heap (mW G a (msa M 11 (upd (M.2.1 11) v1.toNatClampNeg (if (v4 + v7) ≤ 30 then v4 + v7 else 30))))) 0 0 [(6, .int m37), (5, .int m38), (8, .int y32), (0, .ref (a 0)), (1, .int v1), (2, .int v2), (3, .int v3), (4, .int v4), (7, .int v7)] 139 [] := by
          intro m37 em37 m38 em38
          rewrite [em37]; clear em37
          rewrite [em38]; clear em38
          refine z_iinc (v := v7 + 1) (lv' := [(7, .int (v7 + 1)), (6, .int (if v6 = (-1) then y32 else (if y32 < v6 then y32 else v6))), (5, .int (if v6 = (-1) then v7 else (if y32 < v6 then v7 else v5))), (8, .int y32), (0, .ref (a 0)), (1, .int v1), (2, .int v2), (3, .int v3), (4, .int v4)]) dX7_practise_139 8 rfl rfl (Nat.le_of_ble_eq_true rfl) rfl ?_
          refine z_goto (tgt := 65) dX7_practise_142 (by decide) ?_
          exact z_lv rfl ((ih) (msa M 11 (upd (M.2.1 11) v1.toNatClampNeg (if (v4 + v7) ≤ 30 then v4 + v7 else 30))) v1 v2 v3 v4 (if v6 = (-1) then v7 else (if y32 < v6 then v7 else v5)) (if v6 = (-1) then y32 else (if y32 < v6 then y32 else v6)) (v7 + 1) hp hv)
        refine z_icmp_eq (tgt := 131) dX7_practise_118 (by decide) (fun c33 => ?_) (fun c33 => ?_)
        · skip
          refine z_iload dX7_practise_131 rfl ?_
          refine z_istore (lv' := [(5, .int v7), (8, .int y32), (0, .ref (a 0)), (1, .int v1), (2, .int v2), (3, .int v3), (4, .int v4), (6, .int v6), (7, .int v7)]) dX7_practise_133 (Nat.le_of_ble_eq_true rfl) rfl ?_
          refine z_iload dX7_practise_135 rfl ?_
          refine z_istore (lv' := [(6, .int y32), (5, .int v7), (8, .int y32), (0, .ref (a 0)), (1, .int v1), (2, .int v2), (3, .int v3), (4, .int v4), (7, .int v7)]) dX7_practise_137 (Nat.le_of_ble_eq_true rfl) rfl ?_
          exact z_lv rfl (J42 _ (if_pos c33).symm _ (if_pos c33).symm)
        · skip
          refine z_iload dX7_practise_121 rfl ?_
          refine z_iload dX7_practise_123 rfl ?_
          have J43 : ∀ m35 : Int32, m35 = (if y32 < v6 then y32 else v6) → ∀ m36 : Int32, m36 = (if y32 < v6 then v7 else v5) → Z k_X7_practise G Γ (wr G A Γ.2.2.1.1.heap (mW G a (msa M 11 (upd (M.2.1 11) v1.toNatClampNeg (if (v4 + v7) ≤ 30 then v4 + v7 else 30))))) 0 0 [(6, .int m35), (5, .int m36), (8, .int y32), (0, .ref (a 0)), (1, .int v1), (2, .int v2), (3, .int v3), (4, .int v4), (7, .int v7)] 139 [] := by
            intro m35 em35 m36 em36
            rewrite [em35]; clear em35
            rewrite [em36]; clear em36
            exact z_lv rfl (J42 _ (if_neg c33).symm _ (if_neg c33).symm)
          refine z_icmp_lt (tgt := 131) dX7_practise_125 (by decide) (fun c34 => ?_) (fun c34 => ?_)
          · skip
            refine z_iload dX7_practise_131 rfl ?_
            refine z_istore (lv' := [(5, .int v7), (8, .int y32), (0, .ref (a 0)), (1, .int v1), (2, .int v2), (3, .int v3), (4, .int v4), (6, .int v6), (7, .int v7)]) dX7_practise_133 (Nat.le_of_ble_eq_true rfl) rfl ?_
            refine z_iload dX7_practise_135 rfl ?_
            refine z_istore (lv' := [(6, .int y32), (5, .int v7), (8, .int y32), (0, .ref (a 0)), (1, .int v1), (2, .int v2), (3, .int v3), (4, .int v4), (7, .int v7)]) dX7_practise_137 (Nat.le_of_ble_eq_true rfl) rfl ?_
            exact z_lv rfl (J43 _ (if_pos c34).symm _ (if_pos c34).symm)
          · skip
            refine z_goto (tgt := 139) dX7_practise_128 (by decide) ?_
            exact z_lv rfl (J43 _ (if_neg c34).symm _ (if_neg c34).symm)
      refine z_icmp_le (tgt := 92) dX7_practise_84 (by decide) (fun c28 => ?_) (fun c28 => ?_)
      · skip
        refine z_iload dX7_practise_92 rfl ?_
        refine z_iload dX7_practise_94 rfl ?_
        refine z_iadd dX7_practise_96 ?_
        exact z_lv rfl (J40 _ (if_pos c28).symm)
      · skip
        refine z_bipush (v := 30) dX7_practise_87 rfl ?_
        refine z_goto (tgt := 97) dX7_practise_89 (by decide) ?_
        exact z_lv rfl (J40 _ (if_neg c28).symm)
def v_X7_practise (M : mT) (x1 : Int32) (x2 : Int32) (x3 : Int32) : Int32 × mT := if (v_X7_isComer M x1) = 0 then kk (v_X7_no M (-1)) (fun q13 : Int32 × mT => (q13.1, q13.2)) else if x3 < 0 then kk (v_X7_no M (-5)) (fun q4 : Int32 × mT => (q4.1, q4.2)) else if x3 ≤ 1 then if (v_X7_isFrom M x2 1 99) = 0 then kk (v_X7_no M (-6)) (fun q9 : Int32 × mT => (q9.1, q9.2)) else v_X7_practise_r 200 M x1 x2 x3 ((M.2.1 11) x1.toNatClampNeg) 0 (-1) 0 else kk (v_X7_no M (-5)) (fun q11 : Int32 × mT => (q11.1, q11.2))
def p_X7_practise (M : mT) (x1 : Int32) (x2 : Int32) (x3 : Int32) : Prop := if (v_X7_isComer M x1) = 0 then p_X7_no M (-1) else if x3 < 0 then p_X7_no M (-5) else if x3 ≤ 1 then if (v_X7_isFrom M x2 1 99) = 0 then p_X7_no M (-6) else vp_in x1 7 ∧ (p_X7_practise_r 200 M x1 x2 x3 ((M.2.1 11) x1.toNatClampNeg) 0 (-1) 0) else p_X7_no M (-5)
set_option maxHeartbeats 4000000 in
theorem c_X7_practise {l : Launch} (G : zG) (a : Nat → Nat) {X : zX} (hX : XOK X) (sz : Nat) (M : mT) (x1 : Int32) (x2 : Int32) (x3 : Int32) (hp : p_X7_practise M x1 x2 x3) : Met l yX7_practise (.code yX7_practise k_X7_practise.1 k_X7_practise.2.1 k_X7_practise.2.2.2.1 :: TS) k_X7_practise.2.2.2.2 (Pz G [.ref (a 0), .int x1, .int x2, .int x3] (Fw G X (mW G a M) sz)) (Qwi G (fun r w => r = (v_X7_practise M x1 x2 x3).1 ∧ w = mW G a (v_X7_practise M x1 x2 x3).2) (va_A (mW G a M) sz)) 0 0 (va_A (mW G a M) sz) := by
  refine zmet (by decide +kernel) rfl rfl (fun Γ hl0 hQ hN hF => ?_)
  refine z_start hX hF (fun hw => ?_)
  generalize va_A (mW G a M) sz = A at hQ hw ⊢
  obtain ⟨res, hv⟩ : ∃ res, v_X7_practise M x1 x2 x3 = res := ⟨_, rfl⟩
  rw [hv] at hQ
  unfold v_X7_practise at hv
  unfold p_X7_practise at hp
  show Z k_X7_practise G Γ _ 0 0 [(0, .ref (a 0)), (1, .int x1), (2, .int x2), (3, .int x3)] 0 []
  refine z_aload_n dX7_practise_0 rfl ?_
  refine z_iload_n dX7_practise_1 rfl ?_
  refine z_cvi (c_X7_isComer G a M x1 ) zc_X7_isComer zv_X7_isComer tw_m_RX7_110 (mrec wr_P) wr_P (zroom_of rfl) rfl (Nat.le_of_ble_eq_true rfl) dX7_practise_2 ?_
  refine z_if_ne (tgt := 14) dX7_practise_5 (by decide) (fun c1 => ?_) (fun c1 => ?_)
  · have hp := ip_f hp c1; have hv := it_f hv c1
    refine z_iload_n dX7_practise_14 rfl ?_
    refine z_if_lt (tgt := 23) dX7_practise_15 (by decide) (fun c2 => ?_) (fun c2 => ?_)
    · have hp := ip_t hp c2; have hv := it_t hv c2
      refine z_aload_n dX7_practise_23 rfl ?_
      refine z_bipush (v := (-5)) dX7_practise_24 rfl ?_
      have q3 := hp
      refine z_caviD hw (fun sz => c_X7_no G a hw.1 sz M (-5) q3) zc_X7_no zv_X7_no tw_m_RX7_106 (mrec wr_P) (zroom_of rfl) rfl (Nat.le_of_ble_eq_true rfl) dX7_practise_26 ?_
      suffices z44 : ∀ q4 : Int32 × mT, q4 = (v_X7_no M (-5)) → Z k_X7_practise G Γ (wr G A Γ.2.2.1.1.heap (mW G a q4.2)) 0 0 [(0, .ref (a 0)), (1, .int x1), (2, .int x2), (3, .int x3)] 29 [.int q4.1] from z44 _ rfl
      intro q4 hq4
      have hv := kk_vq hv hq4
      clear hq4
      subst hv; exact z_iret_W hQ rfl rfl rfl ⟨rfl, rfl⟩ dX7_practise_29
    · have hp := ip_f hp c2; have hv := it_f hv c2
      refine z_iload_n dX7_practise_18 rfl ?_
      refine z_iconst (v := 1) dX7_practise_19 rfl ?_
      refine z_icmp_le (tgt := 30) dX7_practise_20 (by decide) (fun c5 => ?_) (fun c5 => ?_)
      · have hp := ip_t hp c5; have hv := it_t hv c5
        refine z_aload_n dX7_practise_30 rfl ?_
        refine z_iload_n dX7_practise_31 rfl ?_
        refine z_iconst (v := 1) dX7_practise_32 rfl ?_
        refine z_bipush (v := 99) dX7_practise_33 rfl ?_
        refine z_cvi (c_X7_isFrom G a M x2 1 99 ) zc_X7_isFrom zv_X7_isFrom tw_m_RX7_116 (mrec wr_P) wr_P (zroom_of rfl) rfl (Nat.le_of_ble_eq_true rfl) dX7_practise_35 ?_
        refine z_if_ne (tgt := 48) dX7_practise_38 (by decide) (fun c6 => ?_) (fun c6 => ?_)
        · have hp := ip_f hp c6; have hv := it_f hv c6
          refine z_aload_n dX7_practise_48 rfl ?_
          refine mg_11 wr_P rfl dX7_practise_49 ?_
          refine z_iload_n dX7_practise_52 rfl ?_
          obtain ⟨q7, hp⟩ := hp
          refine ml_11 (x := (M.2.1 11) x1.toNatClampNeg) wr_P q7 rfl dX7_practise_53 ?_
          refine z_istore (lv' := [(4, .int ((M.2.1 11) x1.toNatClampNeg)), (0, .ref (a 0)), (1, .int x1), (2, .int x2), (3, .int x3)]) dX7_practise_54 (Nat.le_of_ble_eq_true rfl) rfl ?_
          refine z_iconst (v := 0) dX7_practise_56 rfl ?_
          refine z_istore (lv' := [(5, .int 0), (4, .int ((M.2.1 11) x1.toNatClampNeg)), (0, .ref (a 0)), (1, .int x1), (2, .int x2), (3, .int x3)]) dX7_practise_57 (Nat.le_of_ble_eq_true rfl) rfl ?_
          refine z_iconst (v := (-1)) dX7_practise_59 rfl ?_
          refine z_istore (lv' := [(6, .int (-1)), (5, .int 0), (4, .int ((M.2.1 11) x1.toNatClampNeg)), (0, .ref (a 0)), (1, .int x1), (2, .int x2), (3, .int x3)]) dX7_practise_60 (Nat.le_of_ble_eq_true rfl) rfl ?_
          refine z_iconst (v := 0) dX7_practise_62 rfl ?_
          refine z_istore (lv' := [(7, .int 0), (6, .int (-1)), (5, .int 0), (4, .int ((M.2.1 11) x1.toNatClampNeg)), (0, .ref (a 0)), (1, .int x1), (2, .int x2), (3, .int x3)]) dX7_practise_63 (Nat.le_of_ble_eq_true rfl) rfl ?_
          exact z_lv rfl ((w_X7_practise hw hQ 200) M x1 x2 x3 ((M.2.1 11) x1.toNatClampNeg) 0 (-1) 0 hp hv)
        · have hp := ip_t hp c6; have hv := it_t hv c6
          refine z_aload_n dX7_practise_41 rfl ?_
          refine z_bipush (v := (-6)) dX7_practise_42 rfl ?_
          have q8 := hp
          refine z_caviD hw (fun sz => c_X7_no G a hw.1 sz M (-6) q8) zc_X7_no zv_X7_no tw_m_RX7_106 (mrec wr_P) (zroom_of rfl) rfl (Nat.le_of_ble_eq_true rfl) dX7_practise_44 ?_
          suffices z45 : ∀ q9 : Int32 × mT, q9 = (v_X7_no M (-6)) → Z k_X7_practise G Γ (wr G A Γ.2.2.1.1.heap (mW G a q9.2)) 0 0 [(0, .ref (a 0)), (1, .int x1), (2, .int x2), (3, .int x3)] 47 [.int q9.1] from z45 _ rfl
          intro q9 hq9
          have hv := kk_vq hv hq9
          clear hq9
          subst hv; exact z_iret_W hQ rfl rfl rfl ⟨rfl, rfl⟩ dX7_practise_47
      · have hp := ip_f hp c5; have hv := it_f hv c5
        refine z_aload_n dX7_practise_23 rfl ?_
        refine z_bipush (v := (-5)) dX7_practise_24 rfl ?_
        have q10 := hp
        refine z_caviD hw (fun sz => c_X7_no G a hw.1 sz M (-5) q10) zc_X7_no zv_X7_no tw_m_RX7_106 (mrec wr_P) (zroom_of rfl) rfl (Nat.le_of_ble_eq_true rfl) dX7_practise_26 ?_
        suffices z46 : ∀ q11 : Int32 × mT, q11 = (v_X7_no M (-5)) → Z k_X7_practise G Γ (wr G A Γ.2.2.1.1.heap (mW G a q11.2)) 0 0 [(0, .ref (a 0)), (1, .int x1), (2, .int x2), (3, .int x3)] 29 [.int q11.1] from z46 _ rfl
        intro q11 hq11
        have hv := kk_vq hv hq11
        clear hq11
        subst hv; exact z_iret_W hQ rfl rfl rfl ⟨rfl, rfl⟩ dX7_practise_29
  · have hp := ip_t hp c1; have hv := it_t hv c1
    refine z_aload_n dX7_practise_8 rfl ?_
    refine z_iconst (v := (-1)) dX7_practise_9 rfl ?_
    have q12 := hp
    refine z_caviD hw (fun sz => c_X7_no G a hw.1 sz M (-1) q12) zc_X7_no zv_X7_no tw_m_RX7_106 (mrec wr_P) (zroom_of rfl) rfl (Nat.le_of_ble_eq_true rfl) dX7_practise_10 ?_
    suffices z47 : ∀ q13 : Int32 × mT, q13 = (v_X7_no M (-1)) → Z k_X7_practise G Γ (wr G A Γ.2.2.1.1.heap (mW G a q13.2)) 0 0 [(0, .ref (a 0)), (1, .int x1), (2, .int x2), (3, .int x3)] 13 [.int q13.1] from z47 _ rfl
    intro q13 hq13
    have hv := kk_vq hv hq13
    clear hq13
    subst hv; exact z_iret_W hQ rfl rfl rfl ⟨rfl, rfl⟩ dX7_practise_13
theorem dX7_barsOfTwos_0 : decode cX7_barsOfTwos 0 = .ok (.aload_n 0, 1) := by decide +kernel
theorem dX7_barsOfTwos_1 : decode cX7_barsOfTwos 1 = .ok (.iload_n 1, 1) := by decide +kernel
theorem dX7_barsOfTwos_2 : decode cX7_barsOfTwos 2 = .ok (.invokevirtual 102, 3) := by decide +kernel
theorem dX7_barsOfTwos_5 : decode cX7_barsOfTwos 5 = .ok (.ifCond .eq 11, 3) := by decide +kernel
theorem dX7_barsOfTwos_8 : decode cX7_barsOfTwos 8 = .ok (.aload_n 0, 1) := by decide +kernel
theorem dX7_barsOfTwos_9 : decode cX7_barsOfTwos 9 = .ok (.iload_n 3, 1) := by decide +kernel
theorem dX7_barsOfTwos_10 : decode cX7_barsOfTwos 10 = .ok (.invokevirtual 110, 3) := by decide +kernel
theorem dX7_barsOfTwos_13 : decode cX7_barsOfTwos 13 = .ok (.ifCond .ne 5, 3) := by decide +kernel
theorem dX7_barsOfTwos_16 : decode cX7_barsOfTwos 16 = .ok (.iconst (-1), 1) := by decide +kernel
theorem dX7_barsOfTwos_17 : decode cX7_barsOfTwos 17 = .ok (.ireturn, 1) := by decide +kernel
theorem dX7_barsOfTwos_18 : decode cX7_barsOfTwos 18 = .ok (.aload_n 0, 1) := by decide +kernel
theorem dX7_barsOfTwos_19 : decode cX7_barsOfTwos 19 = .ok (.iload_n 1, 1) := by decide +kernel
theorem dX7_barsOfTwos_20 : decode cX7_barsOfTwos 20 = .ok (.invokevirtual 180, 3) := by decide +kernel
theorem dX7_barsOfTwos_23 : decode cX7_barsOfTwos 23 = .ok (.istore 4, 2) := by decide +kernel
theorem dX7_barsOfTwos_25 : decode cX7_barsOfTwos 25 = .ok (.iload 4, 2) := by decide +kernel
theorem dX7_barsOfTwos_27 : decode cX7_barsOfTwos 27 = .ok (.ifCond .ne 43, 3) := by decide +kernel
theorem dX7_barsOfTwos_30 : decode cX7_barsOfTwos 30 = .ok (.iload_n 2, 1) := by decide +kernel
theorem dX7_barsOfTwos_31 : decode cX7_barsOfTwos 31 = .ok (.ifCond .ge 8, 3) := by decide +kernel
theorem dX7_barsOfTwos_34 : decode cX7_barsOfTwos 34 = .ok (.bipush (-4), 2) := by decide +kernel
theorem dX7_barsOfTwos_36 : decode cX7_barsOfTwos 36 = .ok (.goto 32, 3) := by decide +kernel
theorem dX7_barsOfTwos_39 : decode cX7_barsOfTwos 39 = .ok (.iload_n 2, 1) := by decide +kernel
theorem dX7_barsOfTwos_40 : decode cX7_barsOfTwos 40 = .ok (.aload_n 0, 1) := by decide +kernel
theorem dX7_barsOfTwos_41 : decode cX7_barsOfTwos 41 = .ok (.getfield 56, 3) := by decide +kernel
theorem dX7_barsOfTwos_44 : decode cX7_barsOfTwos 44 = .ok (.iload_n 1, 1) := by decide +kernel
theorem dX7_barsOfTwos_45 : decode cX7_barsOfTwos 45 = .ok (.iaload, 1) := by decide +kernel
theorem dX7_barsOfTwos_46 : decode cX7_barsOfTwos 46 = .ok (.iconst 2, 1) := by decide +kernel
theorem dX7_barsOfTwos_47 : decode cX7_barsOfTwos 47 = .ok (.idiv, 1) := by decide +kernel
theorem dX7_barsOfTwos_48 : decode cX7_barsOfTwos 48 = .ok (.if_icmp .le 8, 3) := by decide +kernel
theorem dX7_barsOfTwos_51 : decode cX7_barsOfTwos 51 = .ok (.bipush (-5), 2) := by decide +kernel
theorem dX7_barsOfTwos_53 : decode cX7_barsOfTwos 53 = .ok (.goto 15, 3) := by decide +kernel
theorem dX7_barsOfTwos_56 : decode cX7_barsOfTwos 56 = .ok (.iload_n 2, 1) := by decide +kernel
theorem dX7_barsOfTwos_57 : decode cX7_barsOfTwos 57 = .ok (.bipush 40, 2) := by decide +kernel
theorem dX7_barsOfTwos_59 : decode cX7_barsOfTwos 59 = .ok (.if_icmp .le 8, 3) := by decide +kernel
theorem dX7_barsOfTwos_62 : decode cX7_barsOfTwos 62 = .ok (.bipush (-6), 2) := by decide +kernel
theorem dX7_barsOfTwos_64 : decode cX7_barsOfTwos 64 = .ok (.goto 4, 3) := by decide +kernel
theorem dX7_barsOfTwos_67 : decode cX7_barsOfTwos 67 = .ok (.iconst 0, 1) := by decide +kernel
theorem dX7_barsOfTwos_68 : decode cX7_barsOfTwos 68 = .ok (.istore 4, 2) := by decide +kernel
theorem dX7_barsOfTwos_70 : decode cX7_barsOfTwos 70 = .ok (.iconst 0, 1) := by decide +kernel
theorem dX7_barsOfTwos_71 : decode cX7_barsOfTwos 71 = .ok (.istore 5, 2) := by decide +kernel
theorem dX7_barsOfTwos_73 : decode cX7_barsOfTwos 73 = .ok (.iload 5, 2) := by decide +kernel
theorem dX7_barsOfTwos_75 : decode cX7_barsOfTwos 75 = .ok (.iload_n 2, 1) := by decide +kernel
theorem dX7_barsOfTwos_76 : decode cX7_barsOfTwos 76 = .ok (.if_icmp .ge 57, 3) := by decide +kernel
theorem dX7_barsOfTwos_79 : decode cX7_barsOfTwos 79 = .ok (.iload 4, 2) := by decide +kernel
theorem dX7_barsOfTwos_81 : decode cX7_barsOfTwos 81 = .ok (.ifCond .ne 52, 3) := by decide +kernel
theorem dX7_barsOfTwos_84 : decode cX7_barsOfTwos 84 = .ok (.aload_n 0, 1) := by decide +kernel
theorem dX7_barsOfTwos_85 : decode cX7_barsOfTwos 85 = .ok (.aload_n 0, 1) := by decide +kernel
theorem dX7_barsOfTwos_86 : decode cX7_barsOfTwos 86 = .ok (.iload_n 1, 1) := by decide +kernel
theorem dX7_barsOfTwos_87 : decode cX7_barsOfTwos 87 = .ok (.iconst 2, 1) := by decide +kernel
theorem dX7_barsOfTwos_88 : decode cX7_barsOfTwos 88 = .ok (.iload 5, 2) := by decide +kernel
theorem dX7_barsOfTwos_90 : decode cX7_barsOfTwos 90 = .ok (.imul, 1) := by decide +kernel
theorem dX7_barsOfTwos_91 : decode cX7_barsOfTwos 91 = .ok (.invokevirtual 233, 3) := by decide +kernel
theorem dX7_barsOfTwos_94 : decode cX7_barsOfTwos 94 = .ok (.iconst 0, 1) := by decide +kernel
theorem dX7_barsOfTwos_95 : decode cX7_barsOfTwos 95 = .ok (.bipush 9, 2) := by decide +kernel
theorem dX7_barsOfTwos_97 : decode cX7_barsOfTwos 97 = .ok (.invokevirtual 116, 3) := by decide +kernel
theorem dX7_barsOfTwos_100 : decode cX7_barsOfTwos 100 = .ok (.ifCond .eq 23, 3) := by decide +kernel
theorem dX7_barsOfTwos_103 : decode cX7_barsOfTwos 103 = .ok (.aload_n 0, 1) := by decide +kernel
theorem dX7_barsOfTwos_104 : decode cX7_barsOfTwos 104 = .ok (.aload_n 0, 1) := by decide +kernel
theorem dX7_barsOfTwos_105 : decode cX7_barsOfTwos 105 = .ok (.iload_n 1, 1) := by decide +kernel
theorem dX7_barsOfTwos_106 : decode cX7_barsOfTwos 106 = .ok (.iconst 2, 1) := by decide +kernel
theorem dX7_barsOfTwos_107 : decode cX7_barsOfTwos 107 = .ok (.iload 5, 2) := by decide +kernel
theorem dX7_barsOfTwos_109 : decode cX7_barsOfTwos 109 = .ok (.imul, 1) := by decide +kernel
theorem dX7_barsOfTwos_110 : decode cX7_barsOfTwos 110 = .ok (.iconst 1, 1) := by decide +kernel
theorem dX7_barsOfTwos_111 : decode cX7_barsOfTwos 111 = .ok (.iadd, 1) := by decide +kernel
theorem dX7_barsOfTwos_112 : decode cX7_barsOfTwos 112 = .ok (.invokevirtual 233, 3) := by decide +kernel
theorem dX7_barsOfTwos_115 : decode cX7_barsOfTwos 115 = .ok (.iconst 0, 1) := by decide +kernel
theorem dX7_barsOfTwos_116 : decode cX7_barsOfTwos 116 = .ok (.iconst 1, 1) := by decide +kernel
theorem dX7_barsOfTwos_117 : decode cX7_barsOfTwos 117 = .ok (.invokevirtual 116, 3) := by decide +kernel
theorem dX7_barsOfTwos_120 : decode cX7_barsOfTwos 120 = .ok (.ifCond .ne 7, 3) := by decide +kernel
theorem dX7_barsOfTwos_123 : decode cX7_barsOfTwos 123 = .ok (.bipush (-6), 2) := by decide +kernel
theorem dX7_barsOfTwos_125 : decode cX7_barsOfTwos 125 = .ok (.istore 4, 2) := by decide +kernel
theorem dX7_barsOfTwos_127 : decode cX7_barsOfTwos 127 = .ok (.iinc 5 1, 3) := by decide +kernel
theorem dX7_barsOfTwos_130 : decode cX7_barsOfTwos 130 = .ok (.goto (-57), 3) := by decide +kernel
theorem dX7_barsOfTwos_133 : decode cX7_barsOfTwos 133 = .ok (.iload 4, 2) := by decide +kernel
theorem dX7_barsOfTwos_135 : decode cX7_barsOfTwos 135 = .ok (.ireturn, 1) := by decide +kernel
abbrev k_X7_barsOfTwos : zK := (cX7_barsOfTwos, 6, RX7, (some .int), ({ frames := 2, cells := 0, slots := 0, locals := 42 } : Room))
theorem zc_X7_barsOfTwos : zcal yX7_barsOfTwos k_X7_barsOfTwos.1 k_X7_barsOfTwos.2.1 k_X7_barsOfTwos.2.2.2.1 3 := ⟨tw_code_yX7_barsOfTwos, tw_i_TollForHesitatorsModel, ⟨by decide +kernel, by decide +kernel⟩, by decide +kernel⟩
theorem zv_X7_barsOfTwos : Cond.instanceMethod yX7_barsOfTwos ∈ TS ∧ Cond.selects RX7 yX7_barsOfTwos yX7_barsOfTwos ∈ TS := ⟨tw_inst_yX7_barsOfTwos, tw_s_yX7_barsOfTwos⟩
def v_X7_barsOfTwos_r (M : mT) : Nat → Int32 → Int32 → Int32 → Int32 → Int32
  | 0, _, _, _, _ => 0
  | n + 1, v1, v2, v4, v5 => if v2 ≤ v5 then v4 else if v4 = 0 then kk (if (v_X7_isFrom M (v_X7_intAt M v1 (2 * v5)) 0 9) = 0 then (-6) else (if (v_X7_isFrom M (v_X7_intAt M v1 ((2 * v5) + 1)) 0 1) = 0 then (-6) else v4)) (fun m33 : Int32 => v_X7_barsOfTwos_r M n v1 v2 m33 (v5 + 1)) else v4
def p_X7_barsOfTwos_r (M : mT) : Nat → Int32 → Int32 → Int32 → Int32 → Prop
  | 0, _, _, _, _ => False
  | n + 1, v1, v2, v4, v5 => if v2 ≤ v5 then True else if v4 = 0 then (p_X7_intAt M v1 (2 * v5)) ∧ ((if (v_X7_isFrom M (v_X7_intAt M v1 (2 * v5)) 0 9) = 0 then True else p_X7_intAt M v1 ((2 * v5) + 1)) ∧ (kk (if (v_X7_isFrom M (v_X7_intAt M v1 (2 * v5)) 0 9) = 0 then (-6) else (if (v_X7_isFrom M (v_X7_intAt M v1 ((2 * v5) + 1)) 0 1) = 0 then (-6) else v4)) (fun m33 : Int32 => p_X7_barsOfTwos_r M n v1 v2 m33 (v5 + 1)))) else True
set_option maxHeartbeats 4000000 in
theorem w_X7_barsOfTwos {G : zG} {Γ : zT} {a : Nat → Nat} {res : Int32} (M : mT) (hF : va_P G.2.1 CL (mW G a M) Γ.2.2.1.1.heap) (hQ : zQ Γ (vp_Si (fun r => r = res)) 0 0 (fun _ => False)) : ∀ n : Nat, (∀ (v1 : Int32) (v2 : Int32) (v4 : Int32) (v5 : Int32), p_X7_barsOfTwos_r M n v1 v2 v4 v5 → v_X7_barsOfTwos_r M n v1 v2 v4 v5 = res → Z k_X7_barsOfTwos G Γ (rd Γ.2.2.1.1.heap) 0 0 [(0, .ref (a 0)), (1, .int v1), (2, .int v2), (4, .int v4), (5, .int v5)] 73 []) := by
  have hI := rd_P (G := G) hF
  intro n
  induction n with
  | zero => exact fun v1 v2 v4 v5 hp => absurd hp (by rw [p_X7_barsOfTwos_r]; exact not_false)
  | succ n ih =>
    intro v1 v2 v4 v5 hp hv
    rw [p_X7_barsOfTwos_r] at hp
    rw [v_X7_barsOfTwos_r] at hv
    refine z_iload dX7_barsOfTwos_73 rfl ?_
    refine z_iload_n dX7_barsOfTwos_75 rfl ?_
    refine z_icmp_ge (tgt := 133) dX7_barsOfTwos_76 (by decide) (fun c13 => ?_) (fun c13 => ?_)
    · have hp := ip_t hp c13; have hv := it_t hv c13
      refine z_iload dX7_barsOfTwos_133 rfl ?_
      exact z_iret_S hQ rfl hv dX7_barsOfTwos_135
    · have hp := ip_f hp c13; have hv := it_f hv c13
      refine z_iload dX7_barsOfTwos_79 rfl ?_
      refine z_if_ne (tgt := 133) dX7_barsOfTwos_81 (by decide) (fun c21 => ?_) (fun c21 => ?_)
      · have hp := ip_f hp c21; have hv := it_f hv c21
        refine z_iload dX7_barsOfTwos_133 rfl ?_
        exact z_iret_S hQ rfl hv dX7_barsOfTwos_135
      · have hp := ip_t hp c21; have hv := it_t hv c21
        refine z_aload_n dX7_barsOfTwos_84 rfl ?_
        refine z_aload_n dX7_barsOfTwos_85 rfl ?_
        refine z_iload_n dX7_barsOfTwos_86 rfl ?_
        refine z_iconst (v := 2) dX7_barsOfTwos_87 rfl ?_
        refine z_iload dX7_barsOfTwos_88 rfl ?_
        refine z_imul dX7_barsOfTwos_90 ?_
        obtain ⟨q28, hp⟩ := hp
        refine z_cvi (c_X7_intAt G a M v1 (2 * v5) q28) zc_X7_intAt zv_X7_intAt tw_m_RX7_233 (mrec hI) hI (zroom_of rfl) rfl (Nat.le_of_ble_eq_true rfl) dX7_barsOfTwos_91 ?_
        refine z_iconst (v := 0) dX7_barsOfTwos_94 rfl ?_
        refine z_bipush (v := 9) dX7_barsOfTwos_95 rfl ?_
        refine z_cvi (c_X7_isFrom G a M (v_X7_intAt M v1 (2 * v5)) 0 9 ) zc_X7_isFrom zv_X7_isFrom tw_m_RX7_116 (mrec hI) hI (zroom_of rfl) rfl (Nat.le_of_ble_eq_true rfl) dX7_barsOfTwos_97 ?_
        obtain ⟨hpm, hp⟩ := hp
        have J34 : ∀ m33 : Int32, m33 = (if (v_X7_isFrom M (v_X7_intAt M v1 (2 * v5)) 0 9) = 0 then (-6) else (if (v_X7_isFrom M (v_X7_intAt M v1 ((2 * v5) + 1)) 0 1) = 0 then (-6) else v4)) → Z k_X7_barsOfTwos G Γ (rd Γ.2.2.1.1.heap) 0 0 [(4, .int m33), (0, .ref (a 0)), (1, .int v1), (2, .int v2), (5, .int v5)] 127 [] := by
          intro m33 em33
          have hp := kk_pq hp em33
          have hv := kk_vq hv em33
          clear em33
          refine z_iinc (v := v5 + 1) (lv' := [(5, .int (v5 + 1)), (4, .int m33), (0, .ref (a 0)), (1, .int v1), (2, .int v2)]) dX7_barsOfTwos_127 4 rfl rfl (Nat.le_of_ble_eq_true rfl) rfl ?_
          refine z_goto (tgt := 73) dX7_barsOfTwos_130 (by decide) ?_
          exact z_lv rfl ((ih) v1 v2 m33 (v5 + 1) hp hv)
        refine z_if_eq (tgt := 123) dX7_barsOfTwos_100 (by decide) (fun c29 => ?_) (fun c29 => ?_)
        · have hp := ip_t hpm c29
          refine z_bipush (v := (-6)) dX7_barsOfTwos_123 rfl ?_
          refine z_istore (lv' := [(4, .int (-6)), (0, .ref (a 0)), (1, .int v1), (2, .int v2), (5, .int v5)]) dX7_barsOfTwos_125 (Nat.le_of_ble_eq_true rfl) rfl ?_
          exact z_lv rfl (J34 _ (if_pos c29).symm)
        · have hp := ip_f hpm c29
          refine z_aload_n dX7_barsOfTwos_103 rfl ?_
          refine z_aload_n dX7_barsOfTwos_104 rfl ?_
          refine z_iload_n dX7_barsOfTwos_105 rfl ?_
          refine z_iconst (v := 2) dX7_barsOfTwos_106 rfl ?_
          refine z_iload dX7_barsOfTwos_107 rfl ?_
          refine z_imul dX7_barsOfTwos_109 ?_
          refine z_iconst (v := 1) dX7_barsOfTwos_110 rfl ?_
          refine z_iadd dX7_barsOfTwos_111 ?_
          have q30 := hp
          refine z_cvi (c_X7_intAt G a M v1 ((2 * v5) + 1) q30) zc_X7_intAt zv_X7_intAt tw_m_RX7_233 (mrec hI) hI (zroom_of rfl) rfl (Nat.le_of_ble_eq_true rfl) dX7_barsOfTwos_112 ?_
          refine z_iconst (v := 0) dX7_barsOfTwos_115 rfl ?_
          refine z_iconst (v := 1) dX7_barsOfTwos_116 rfl ?_
          refine z_cvi (c_X7_isFrom G a M (v_X7_intAt M v1 ((2 * v5) + 1)) 0 1 ) zc_X7_isFrom zv_X7_isFrom tw_m_RX7_116 (mrec hI) hI (zroom_of rfl) rfl (Nat.le_of_ble_eq_true rfl) dX7_barsOfTwos_117 ?_
          have J35 : ∀ m32 : Int32, m32 = (if (v_X7_isFrom M (v_X7_intAt M v1 ((2 * v5) + 1)) 0 1) = 0 then (-6) else v4) → Z k_X7_barsOfTwos G Γ (rd Γ.2.2.1.1.heap) 0 0 [(4, .int m32), (0, .ref (a 0)), (1, .int v1), (2, .int v2), (5, .int v5)] 127 [] := by
            intro m32 em32
            rewrite [em32]; clear em32
            exact z_lv rfl (J34 _ (if_neg c29).symm)
          refine z_if_ne (tgt := 127) dX7_barsOfTwos_120 (by decide) (fun c31 => ?_) (fun c31 => ?_)
          · skip
            exact z_lv rfl (J35 _ (if_neg c31).symm)
          · skip
            refine z_bipush (v := (-6)) dX7_barsOfTwos_123 rfl ?_
            refine z_istore (lv' := [(4, .int (-6)), (0, .ref (a 0)), (1, .int v1), (2, .int v2), (5, .int v5)]) dX7_barsOfTwos_125 (Nat.le_of_ble_eq_true rfl) rfl ?_
            exact z_lv rfl (J35 _ (if_pos c31).symm)
def v_X7_barsOfTwos (M : mT) (x1 : Int32) (x2 : Int32) (x3 : Int32) : Int32 := if (v_X7_isShelf M x1) = 0 then (-1) else if (v_X7_isComer M x3) = 0 then (-1) else kk (if (v_X7_wanted M x1) = 0 then (if 0 ≤ x2 then (if x2 ≤ (((M.2.1 18) x1.toNatClampNeg) / 2) then (if x2 ≤ 40 then 0 else (-6)) else (-5)) else (-4)) else (v_X7_wanted M x1)) (fun m12 : Int32 => v_X7_barsOfTwos_r M 200 x1 x2 m12 0)
def p_X7_barsOfTwos (M : mT) (x1 : Int32) (x2 : Int32) (x3 : Int32) : Prop := if (v_X7_isShelf M x1) = 0 then True else if (v_X7_isComer M x3) = 0 then True else p_X7_wanted M x1 ∧ ((if (v_X7_wanted M x1) = 0 then if 0 ≤ x2 then vp_in x1 8 else True else True) ∧ (kk (if (v_X7_wanted M x1) = 0 then (if 0 ≤ x2 then (if x2 ≤ (((M.2.1 18) x1.toNatClampNeg) / 2) then (if x2 ≤ 40 then 0 else (-6)) else (-5)) else (-4)) else (v_X7_wanted M x1)) (fun m12 : Int32 => p_X7_barsOfTwos_r M 200 x1 x2 m12 0)))
set_option maxHeartbeats 4000000 in
theorem c_X7_barsOfTwos {l : Launch} (G : zG) (a : Nat → Nat) (M : mT) (x1 : Int32) (x2 : Int32) (x3 : Int32) (hp : p_X7_barsOfTwos M x1 x2 x3) : Met l yX7_barsOfTwos (.code yX7_barsOfTwos k_X7_barsOfTwos.1 k_X7_barsOfTwos.2.1 k_X7_barsOfTwos.2.2.2.1 :: TS) k_X7_barsOfTwos.2.2.2.2 (Pz G [.ref (a 0), .int x1, .int x2, .int x3] (va_P G.2.1 CL (mW G a M))) (vp_Si (fun r => r = v_X7_barsOfTwos M x1 x2 x3)) 0 0 (fun _ => False) := by
  refine zmet (by decide +kernel) rfl rfl (fun Γ hl0 hQ hN hF => ?_)
  have hI := rd_P (G := G) hF
  obtain ⟨res, hv⟩ : ∃ res, v_X7_barsOfTwos M x1 x2 x3 = res := ⟨_, rfl⟩
  rw [hv] at hQ
  unfold v_X7_barsOfTwos at hv
  unfold p_X7_barsOfTwos at hp
  show Z k_X7_barsOfTwos G Γ _ 0 0 [(0, .ref (a 0)), (1, .int x1), (2, .int x2), (3, .int x3)] 0 []
  refine z_aload_n dX7_barsOfTwos_0 rfl ?_
  refine z_iload_n dX7_barsOfTwos_1 rfl ?_
  refine z_cvi (c_X7_isShelf G a M x1 ) zc_X7_isShelf zv_X7_isShelf tw_m_RX7_102 (mrec hI) hI (zroom_of rfl) rfl (Nat.le_of_ble_eq_true rfl) dX7_barsOfTwos_2 ?_
  refine z_if_eq (tgt := 16) dX7_barsOfTwos_5 (by decide) (fun c1 => ?_) (fun c1 => ?_)
  · have hp := ip_t hp c1; have hv := it_t hv c1
    refine z_iconst (v := (-1)) dX7_barsOfTwos_16 rfl ?_
    exact z_iret_S hQ rfl hv dX7_barsOfTwos_17
  · have hp := ip_f hp c1; have hv := it_f hv c1
    refine z_aload_n dX7_barsOfTwos_8 rfl ?_
    refine z_iload_n dX7_barsOfTwos_9 rfl ?_
    refine z_cvi (c_X7_isComer G a M x3 ) zc_X7_isComer zv_X7_isComer tw_m_RX7_110 (mrec hI) hI (zroom_of rfl) rfl (Nat.le_of_ble_eq_true rfl) dX7_barsOfTwos_10 ?_
    refine z_if_ne (tgt := 18) dX7_barsOfTwos_13 (by decide) (fun c2 => ?_) (fun c2 => ?_)
    · have hp := ip_f hp c2; have hv := it_f hv c2
      refine z_aload_n dX7_barsOfTwos_18 rfl ?_
      refine z_iload_n dX7_barsOfTwos_19 rfl ?_
      obtain ⟨q3, hp⟩ := hp
      refine z_cvi (c_X7_wanted G a M x1 q3) zc_X7_wanted zv_X7_wanted tw_m_RX7_180 (mrec hI) hI (zroom_of rfl) rfl (Nat.le_of_ble_eq_true rfl) dX7_barsOfTwos_20 ?_
      refine z_istore (lv' := [(4, .int (v_X7_wanted M x1)), (0, .ref (a 0)), (1, .int x1), (2, .int x2), (3, .int x3)]) dX7_barsOfTwos_23 (Nat.le_of_ble_eq_true rfl) rfl ?_
      refine z_iload dX7_barsOfTwos_25 rfl ?_
      obtain ⟨hpm, hp⟩ := hp
      have J36 : ∀ m12 : Int32, m12 = (if (v_X7_wanted M x1) = 0 then (if 0 ≤ x2 then (if x2 ≤ (((M.2.1 18) x1.toNatClampNeg) / 2) then (if x2 ≤ 40 then 0 else (-6)) else (-5)) else (-4)) else (v_X7_wanted M x1)) → Z k_X7_barsOfTwos G Γ (rd Γ.2.2.1.1.heap) 0 0 [(4, .int m12), (0, .ref (a 0)), (1, .int x1), (2, .int x2), (3, .int x3)] 70 [] := by
        intro m12 em12
        have hp := kk_pq hp em12
        have hv := kk_vq hv em12
        clear em12
        refine z_iconst (v := 0) dX7_barsOfTwos_70 rfl ?_
        refine z_istore (lv' := [(5, .int 0), (4, .int m12), (0, .ref (a 0)), (1, .int x1), (2, .int x2), (3, .int x3)]) dX7_barsOfTwos_71 (Nat.le_of_ble_eq_true rfl) rfl ?_
        exact z_lv rfl ((w_X7_barsOfTwos M hF hQ 200) x1 x2 m12 0 hp hv)
      refine z_if_ne (tgt := 70) dX7_barsOfTwos_27 (by decide) (fun c4 => ?_) (fun c4 => ?_)
      · have hp := ip_f hpm c4
        exact z_lv rfl (J36 _ (if_neg c4).symm)
      · have hp := ip_t hpm c4
        refine z_iload_n dX7_barsOfTwos_30 rfl ?_
        have hpm := hp
        have J37 : ∀ m11 : Int32, m11 = (if 0 ≤ x2 then (if x2 ≤ (((M.2.1 18) x1.toNatClampNeg) / 2) then (if x2 ≤ 40 then 0 else (-6)) else (-5)) else (-4)) → Z k_X7_barsOfTwos G Γ (rd Γ.2.2.1.1.heap) 0 0 [(4, .int (v_X7_wanted M x1)), (0, .ref (a 0)), (1, .int x1), (2, .int x2), (3, .int x3)] 68 [.int m11] := by
          intro m11 em11
          rewrite [em11]; clear em11
          refine z_istore (lv' := [(4, .int (if 0 ≤ x2 then (if x2 ≤ (((M.2.1 18) x1.toNatClampNeg) / 2) then (if x2 ≤ 40 then 0 else (-6)) else (-5)) else (-4))), (0, .ref (a 0)), (1, .int x1), (2, .int x2), (3, .int x3)]) dX7_barsOfTwos_68 (Nat.le_of_ble_eq_true rfl) rfl ?_
          exact z_lv rfl (J36 _ (if_pos c4).symm)
        refine z_if_ge (tgt := 39) dX7_barsOfTwos_31 (by decide) (fun c5 => ?_) (fun c5 => ?_)
        · have hp := ip_t hpm c5
          refine z_iload_n dX7_barsOfTwos_39 rfl ?_
          refine z_aload_n dX7_barsOfTwos_40 rfl ?_
          refine mg_18 hI rfl dX7_barsOfTwos_41 ?_
          refine z_iload_n dX7_barsOfTwos_44 rfl ?_
          have q6 := hp
          refine ml_18 (x := (M.2.1 18) x1.toNatClampNeg) hI q6 rfl dX7_barsOfTwos_45 ?_
          refine z_iconst (v := 2) dX7_barsOfTwos_46 rfl ?_
          refine z_idiv dX7_barsOfTwos_47 (by decide) ?_
          have J38 : ∀ m10 : Int32, m10 = (if x2 ≤ (((M.2.1 18) x1.toNatClampNeg) / 2) then (if x2 ≤ 40 then 0 else (-6)) else (-5)) → Z k_X7_barsOfTwos G Γ (rd Γ.2.2.1.1.heap) 0 0 [(4, .int (v_X7_wanted M x1)), (0, .ref (a 0)), (1, .int x1), (2, .int x2), (3, .int x3)] 68 [.int m10] := by
            intro m10 em10
            rewrite [em10]; clear em10
            exact z_lv rfl (J37 _ (if_pos c5).symm)
          refine z_icmp_le (tgt := 56) dX7_barsOfTwos_48 (by decide) (fun c7 => ?_) (fun c7 => ?_)
          · skip
            refine z_iload_n dX7_barsOfTwos_56 rfl ?_
            refine z_bipush (v := 40) dX7_barsOfTwos_57 rfl ?_
            have J39 : ∀ m9 : Int32, m9 = (if x2 ≤ 40 then 0 else (-6)) → Z k_X7_barsOfTwos G Γ (rd Γ.2.2.1.1.heap) 0 0 [(4, .int (v_X7_wanted M x1)), (0, .ref (a 0)), (1, .int x1), (2, .int x2), (3, .int x3)] 68 [.int m9] := by
              intro m9 em9
              rewrite [em9]; clear em9
              exact z_lv rfl (J38 _ (if_pos c7).symm)
            refine z_icmp_le (tgt := 67) dX7_barsOfTwos_59 (by decide) (fun c8 => ?_) (fun c8 => ?_)
            · skip
              refine z_iconst (v := 0) dX7_barsOfTwos_67 rfl ?_
              exact z_lv rfl (J39 _ (if_pos c8).symm)
            · skip
              refine z_bipush (v := (-6)) dX7_barsOfTwos_62 rfl ?_
              refine z_goto (tgt := 68) dX7_barsOfTwos_64 (by decide) ?_
              exact z_lv rfl (J39 _ (if_neg c8).symm)
          · skip
            refine z_bipush (v := (-5)) dX7_barsOfTwos_51 rfl ?_
            refine z_goto (tgt := 68) dX7_barsOfTwos_53 (by decide) ?_
            exact z_lv rfl (J38 _ (if_neg c7).symm)
        · have hp := ip_f hpm c5
          refine z_bipush (v := (-4)) dX7_barsOfTwos_34 rfl ?_
          refine z_goto (tgt := 68) dX7_barsOfTwos_36 (by decide) ?_
          exact z_lv rfl (J37 _ (if_neg c5).symm)
    · have hp := ip_t hp c2; have hv := it_t hv c2
      refine z_iconst (v := (-1)) dX7_barsOfTwos_16 rfl ?_
      exact z_iret_S hQ rfl hv dX7_barsOfTwos_17
theorem dX7_slowsBy_0 : decode cX7_slowsBy 0 = .ok (.aload_n 0, 1) := by decide +kernel
theorem dX7_slowsBy_1 : decode cX7_slowsBy 1 = .ok (.getfield 35, 3) := by decide +kernel
theorem dX7_slowsBy_4 : decode cX7_slowsBy 4 = .ok (.iload_n 1, 1) := by decide +kernel
theorem dX7_slowsBy_5 : decode cX7_slowsBy 5 = .ok (.iaload, 1) := by decide +kernel
theorem dX7_slowsBy_6 : decode cX7_slowsBy 6 = .ok (.istore 4, 2) := by decide +kernel
theorem dX7_slowsBy_8 : decode cX7_slowsBy 8 = .ok (.aload_n 0, 1) := by decide +kernel
theorem dX7_slowsBy_9 : decode cX7_slowsBy 9 = .ok (.getfield 35, 3) := by decide +kernel
theorem dX7_slowsBy_12 : decode cX7_slowsBy 12 = .ok (.iload_n 1, 1) := by decide +kernel
theorem dX7_slowsBy_13 : decode cX7_slowsBy 13 = .ok (.iload_n 2, 1) := by decide +kernel
theorem dX7_slowsBy_14 : decode cX7_slowsBy 14 = .ok (.iastore, 1) := by decide +kernel
theorem dX7_slowsBy_15 : decode cX7_slowsBy 15 = .ok (.aload_n 0, 1) := by decide +kernel
theorem dX7_slowsBy_16 : decode cX7_slowsBy 16 = .ok (.iload_n 1, 1) := by decide +kernel
theorem dX7_slowsBy_17 : decode cX7_slowsBy 17 = .ok (.iload_n 3, 1) := by decide +kernel
theorem dX7_slowsBy_18 : decode cX7_slowsBy 18 = .ok (.invokevirtual 208, 3) := by decide +kernel
theorem dX7_slowsBy_21 : decode cX7_slowsBy 21 = .ok (.iconst (-1), 1) := by decide +kernel
theorem dX7_slowsBy_22 : decode cX7_slowsBy 22 = .ok (.if_icmp .ne 7, 3) := by decide +kernel
theorem dX7_slowsBy_25 : decode cX7_slowsBy 25 = .ok (.iconst 0, 1) := by decide +kernel
theorem dX7_slowsBy_26 : decode cX7_slowsBy 26 = .ok (.goto 4, 3) := by decide +kernel
theorem dX7_slowsBy_29 : decode cX7_slowsBy 29 = .ok (.iconst 1, 1) := by decide +kernel
theorem dX7_slowsBy_30 : decode cX7_slowsBy 30 = .ok (.istore 5, 2) := by decide +kernel
theorem dX7_slowsBy_32 : decode cX7_slowsBy 32 = .ok (.aload_n 0, 1) := by decide +kernel
theorem dX7_slowsBy_33 : decode cX7_slowsBy 33 = .ok (.getfield 35, 3) := by decide +kernel
theorem dX7_slowsBy_36 : decode cX7_slowsBy 36 = .ok (.iload_n 1, 1) := by decide +kernel
theorem dX7_slowsBy_37 : decode cX7_slowsBy 37 = .ok (.iload 4, 2) := by decide +kernel
theorem dX7_slowsBy_39 : decode cX7_slowsBy 39 = .ok (.iastore, 1) := by decide +kernel
theorem dX7_slowsBy_40 : decode cX7_slowsBy 40 = .ok (.iload 5, 2) := by decide +kernel
theorem dX7_slowsBy_42 : decode cX7_slowsBy 42 = .ok (.ireturn, 1) := by decide +kernel
abbrev k_X7_slowsBy : zK := (cX7_slowsBy, 6, RX7, (some .int), ({ frames := 4, cells := 0, slots := 0, locals := 93 } : Room))
theorem zc_X7_slowsBy : zcal yX7_slowsBy k_X7_slowsBy.1 k_X7_slowsBy.2.1 k_X7_slowsBy.2.2.2.1 3 := ⟨tw_code_yX7_slowsBy, tw_i_TollForHesitatorsModel, ⟨by decide +kernel, by decide +kernel⟩, by decide +kernel⟩
theorem zv_X7_slowsBy : Cond.instanceMethod yX7_slowsBy ∈ TS ∧ Cond.selects RX7 yX7_slowsBy yX7_slowsBy ∈ TS := ⟨tw_inst_yX7_slowsBy, tw_s_yX7_slowsBy⟩
def v_X7_slowsBy (M : mT) (x1 : Int32) (x2 : Int32) (x3 : Int32) : Int32 × mT := kk (if (v_X7_aloneIn (msa M 11 (upd (M.2.1 11) x1.toNatClampNeg x2)) x1 x3) = (-1) then 0 else 1) (fun m5 : Int32 => (m5, msa (msa M 11 (upd (M.2.1 11) x1.toNatClampNeg x2)) 11 (upd (upd (M.2.1 11) x1.toNatClampNeg x2) x1.toNatClampNeg ((M.2.1 11) x1.toNatClampNeg))))
def p_X7_slowsBy (M : mT) (x1 : Int32) (x2 : Int32) (x3 : Int32) : Prop := vp_in x1 7 ∧ (vp_in x1 7 ∧ ((p_X7_aloneIn (msa M 11 (upd (M.2.1 11) x1.toNatClampNeg x2)) x1 x3) ∧ (kk (if (v_X7_aloneIn (msa M 11 (upd (M.2.1 11) x1.toNatClampNeg x2)) x1 x3) = (-1) then 0 else 1) (fun m5 : Int32 => vp_in x1 7))))
set_option maxHeartbeats 4000000 in
theorem c_X7_slowsBy {l : Launch} (G : zG) (a : Nat → Nat) {X : zX} (hX : XOK X) (sz : Nat) (M : mT) (x1 : Int32) (x2 : Int32) (x3 : Int32) (hp : p_X7_slowsBy M x1 x2 x3) : Met l yX7_slowsBy (.code yX7_slowsBy k_X7_slowsBy.1 k_X7_slowsBy.2.1 k_X7_slowsBy.2.2.2.1 :: TS) k_X7_slowsBy.2.2.2.2 (Pz G [.ref (a 0), .int x1, .int x2, .int x3] (Fw G X (mW G a M) sz)) (Qwi G (fun r w => r = (v_X7_slowsBy M x1 x2 x3).1 ∧ w = mW G a (v_X7_slowsBy M x1 x2 x3).2) (va_A (mW G a M) sz)) 0 0 (va_A (mW G a M) sz) := by
  refine zmet (by decide +kernel) rfl rfl (fun Γ hl0 hQ hN hF => ?_)
  refine z_start hX hF (fun hw => ?_)
  generalize va_A (mW G a M) sz = A at hQ hw ⊢
  obtain ⟨res, hv⟩ : ∃ res, v_X7_slowsBy M x1 x2 x3 = res := ⟨_, rfl⟩
  rw [hv] at hQ
  unfold v_X7_slowsBy at hv
  unfold p_X7_slowsBy at hp
  show Z k_X7_slowsBy G Γ _ 0 0 [(0, .ref (a 0)), (1, .int x1), (2, .int x2), (3, .int x3)] 0 []
  refine z_aload_n dX7_slowsBy_0 rfl ?_
  refine mg_11 wr_P rfl dX7_slowsBy_1 ?_
  refine z_iload_n dX7_slowsBy_4 rfl ?_
  obtain ⟨q1, hp⟩ := hp
  refine ml_11 (x := (M.2.1 11) x1.toNatClampNeg) wr_P q1 rfl dX7_slowsBy_5 ?_
  refine z_istore (lv' := [(4, .int ((M.2.1 11) x1.toNatClampNeg)), (0, .ref (a 0)), (1, .int x1), (2, .int x2), (3, .int x3)]) dX7_slowsBy_6 (Nat.le_of_ble_eq_true rfl) rfl ?_
  refine z_aload_n dX7_slowsBy_8 rfl ?_
  refine mg_11 wr_P rfl dX7_slowsBy_9 ?_
  refine z_iload_n dX7_slowsBy_12 rfl ?_
  refine z_iload_n dX7_slowsBy_13 rfl ?_
  obtain ⟨q2, hp⟩ := hp
  refine ms_11 (F := upd (M.2.1 11) x1.toNatClampNeg x2) q2 rfl dX7_slowsBy_14 ?_
  refine z_aload_n dX7_slowsBy_15 rfl ?_
  refine z_iload_n dX7_slowsBy_16 rfl ?_
  refine z_iload_n dX7_slowsBy_17 rfl ?_
  obtain ⟨q3, hp⟩ := hp
  refine z_cvi (c_X7_aloneIn G a (msa M 11 (upd (M.2.1 11) x1.toNatClampNeg x2)) x1 x3 q3) zc_X7_aloneIn zv_X7_aloneIn tw_m_RX7_208 (mrec wr_P) wr_P (zroom_of rfl) rfl (Nat.le_of_ble_eq_true rfl) dX7_slowsBy_18 ?_
  refine z_iconst (v := (-1)) dX7_slowsBy_21 rfl ?_
  have J7 : ∀ m5 : Int32, m5 = (if (v_X7_aloneIn (msa M 11 (upd (M.2.1 11) x1.toNatClampNeg x2)) x1 x3) = (-1) then 0 else 1) → Z k_X7_slowsBy G Γ (wr G A Γ.2.2.1.1.heap (mW G a (msa M 11 (upd (M.2.1 11) x1.toNatClampNeg x2)))) 0 0 [(4, .int ((M.2.1 11) x1.toNatClampNeg)), (0, .ref (a 0)), (1, .int x1), (2, .int x2), (3, .int x3)] 30 [.int m5] := by
    intro m5 em5
    have hp := kk_pq hp em5
    have hv := kk_vq hv em5
    clear em5
    refine z_istore (lv' := [(5, .int m5), (4, .int ((M.2.1 11) x1.toNatClampNeg)), (0, .ref (a 0)), (1, .int x1), (2, .int x2), (3, .int x3)]) dX7_slowsBy_30 (Nat.le_of_ble_eq_true rfl) rfl ?_
    refine z_aload_n dX7_slowsBy_32 rfl ?_
    refine mg_11 wr_P rfl dX7_slowsBy_33 ?_
    refine z_iload_n dX7_slowsBy_36 rfl ?_
    refine z_iload dX7_slowsBy_37 rfl ?_
    have q6 := hp
    refine ms_11 (F := upd (upd (M.2.1 11) x1.toNatClampNeg x2) x1.toNatClampNeg ((M.2.1 11) x1.toNatClampNeg)) q6 rfl dX7_slowsBy_39 ?_
    refine z_iload dX7_slowsBy_40 rfl ?_
    subst hv; exact z_iret_W hQ rfl rfl rfl ⟨rfl, rfl⟩ dX7_slowsBy_42
  refine z_icmp_ne (tgt := 29) dX7_slowsBy_22 (by decide) (fun c4 => ?_) (fun c4 => ?_)
  · skip
    refine z_iconst (v := 1) dX7_slowsBy_29 rfl ?_
    exact z_lv rfl (J7 _ (if_neg c4).symm)
  · skip
    refine z_iconst (v := 0) dX7_slowsBy_25 rfl ?_
    refine z_goto (tgt := 30) dX7_slowsBy_26 (by decide) ?_
    exact z_lv rfl (J7 _ (if_pos c4).symm)
theorem dX7_fitting_0 : decode cX7_fitting 0 = .ok (.iconst 0, 1) := by decide +kernel
theorem dX7_fitting_1 : decode cX7_fitting 1 = .ok (.istore 4, 2) := by decide +kernel
theorem dX7_fitting_3 : decode cX7_fitting 3 = .ok (.iconst 0, 1) := by decide +kernel
theorem dX7_fitting_4 : decode cX7_fitting 4 = .ok (.istore 5, 2) := by decide +kernel
theorem dX7_fitting_6 : decode cX7_fitting 6 = .ok (.iload 5, 2) := by decide +kernel
theorem dX7_fitting_8 : decode cX7_fitting 8 = .ok (.bipush 30, 2) := by decide +kernel
theorem dX7_fitting_10 : decode cX7_fitting 10 = .ok (.if_icmp .gt 83, 3) := by decide +kernel
theorem dX7_fitting_13 : decode cX7_fitting 13 = .ok (.iconst 1, 1) := by decide +kernel
theorem dX7_fitting_14 : decode cX7_fitting 14 = .ok (.istore 6, 2) := by decide +kernel
theorem dX7_fitting_16 : decode cX7_fitting 16 = .ok (.iconst 0, 1) := by decide +kernel
theorem dX7_fitting_17 : decode cX7_fitting 17 = .ok (.istore 7, 2) := by decide +kernel
theorem dX7_fitting_19 : decode cX7_fitting 19 = .ok (.iload 7, 2) := by decide +kernel
theorem dX7_fitting_21 : decode cX7_fitting 21 = .ok (.iload_n 2, 1) := by decide +kernel
theorem dX7_fitting_22 : decode cX7_fitting 22 = .ok (.if_icmp .ge 51, 3) := by decide +kernel
theorem dX7_fitting_25 : decode cX7_fitting 25 = .ok (.iload 6, 2) := by decide +kernel
theorem dX7_fitting_27 : decode cX7_fitting 27 = .ok (.ifCond .eq 46, 3) := by decide +kernel
theorem dX7_fitting_30 : decode cX7_fitting 30 = .ok (.aload_n 0, 1) := by decide +kernel
theorem dX7_fitting_31 : decode cX7_fitting 31 = .ok (.iload_n 3, 1) := by decide +kernel
theorem dX7_fitting_32 : decode cX7_fitting 32 = .ok (.iload 5, 2) := by decide +kernel
theorem dX7_fitting_34 : decode cX7_fitting 34 = .ok (.aload_n 0, 1) := by decide +kernel
theorem dX7_fitting_35 : decode cX7_fitting 35 = .ok (.iload_n 1, 1) := by decide +kernel
theorem dX7_fitting_36 : decode cX7_fitting 36 = .ok (.iconst 2, 1) := by decide +kernel
theorem dX7_fitting_37 : decode cX7_fitting 37 = .ok (.iload 7, 2) := by decide +kernel
theorem dX7_fitting_39 : decode cX7_fitting 39 = .ok (.imul, 1) := by decide +kernel
theorem dX7_fitting_40 : decode cX7_fitting 40 = .ok (.invokevirtual 233, 3) := by decide +kernel
theorem dX7_fitting_43 : decode cX7_fitting 43 = .ok (.invokevirtual 252, 3) := by decide +kernel
theorem dX7_fitting_46 : decode cX7_fitting 46 = .ok (.aload_n 0, 1) := by decide +kernel
theorem dX7_fitting_47 : decode cX7_fitting 47 = .ok (.iload_n 1, 1) := by decide +kernel
theorem dX7_fitting_48 : decode cX7_fitting 48 = .ok (.iconst 2, 1) := by decide +kernel
theorem dX7_fitting_49 : decode cX7_fitting 49 = .ok (.iload 7, 2) := by decide +kernel
theorem dX7_fitting_51 : decode cX7_fitting 51 = .ok (.imul, 1) := by decide +kernel
theorem dX7_fitting_52 : decode cX7_fitting 52 = .ok (.iconst 1, 1) := by decide +kernel
theorem dX7_fitting_53 : decode cX7_fitting 53 = .ok (.iadd, 1) := by decide +kernel
theorem dX7_fitting_54 : decode cX7_fitting 54 = .ok (.invokevirtual 233, 3) := by decide +kernel
theorem dX7_fitting_57 : decode cX7_fitting 57 = .ok (.if_icmp .ne 7, 3) := by decide +kernel
theorem dX7_fitting_60 : decode cX7_fitting 60 = .ok (.iconst 1, 1) := by decide +kernel
theorem dX7_fitting_61 : decode cX7_fitting 61 = .ok (.goto 4, 3) := by decide +kernel
theorem dX7_fitting_64 : decode cX7_fitting 64 = .ok (.iconst 0, 1) := by decide +kernel
theorem dX7_fitting_65 : decode cX7_fitting 65 = .ok (.istore 6, 2) := by decide +kernel
theorem dX7_fitting_67 : decode cX7_fitting 67 = .ok (.iinc 7 1, 3) := by decide +kernel
theorem dX7_fitting_70 : decode cX7_fitting 70 = .ok (.goto (-51), 3) := by decide +kernel
theorem dX7_fitting_73 : decode cX7_fitting 73 = .ok (.iload 6, 2) := by decide +kernel
theorem dX7_fitting_75 : decode cX7_fitting 75 = .ok (.ifCond .eq 12, 3) := by decide +kernel
theorem dX7_fitting_78 : decode cX7_fitting 78 = .ok (.iload 4, 2) := by decide +kernel
theorem dX7_fitting_80 : decode cX7_fitting 80 = .ok (.iconst 1, 1) := by decide +kernel
theorem dX7_fitting_81 : decode cX7_fitting 81 = .ok (.iload 5, 2) := by decide +kernel
theorem dX7_fitting_83 : decode cX7_fitting 83 = .ok (.ishl, 1) := by decide +kernel
theorem dX7_fitting_84 : decode cX7_fitting 84 = .ok (.iadd, 1) := by decide +kernel
theorem dX7_fitting_85 : decode cX7_fitting 85 = .ok (.istore 4, 2) := by decide +kernel
theorem dX7_fitting_87 : decode cX7_fitting 87 = .ok (.iinc 5 1, 3) := by decide +kernel
theorem dX7_fitting_90 : decode cX7_fitting 90 = .ok (.goto (-84), 3) := by decide +kernel
theorem dX7_fitting_93 : decode cX7_fitting 93 = .ok (.iload 4, 2) := by decide +kernel
theorem dX7_fitting_95 : decode cX7_fitting 95 = .ok (.ireturn, 1) := by decide +kernel
abbrev k_X7_fitting : zK := (cX7_fitting, 8, RX7, (some .int), ({ frames := 5, cells := 0, slots := 0, locals := 118 } : Room))
theorem zc_X7_fitting : zcal yX7_fitting k_X7_fitting.1 k_X7_fitting.2.1 k_X7_fitting.2.2.2.1 3 := ⟨tw_code_yX7_fitting, tw_i_TollForHesitatorsModel, ⟨by decide +kernel, by decide +kernel⟩, by decide +kernel⟩
theorem zv_X7_fitting : Cond.instanceMethod yX7_fitting ∈ TS ∧ Cond.selects RX7 yX7_fitting yX7_fitting ∈ TS := ⟨tw_inst_yX7_fitting, tw_s_yX7_fitting⟩
def v_X7_fitting_r : Nat → Nat → mT → Int32 → Int32 → Int32 → Int32 → Int32 → Int32 → Int32 → Int32 × mT
  | 0, _, M, _, _, _, _, _, _, _ => (0, M)
  | n + 1, l, M, v1, v2, v3, v4, v5, v6, v7 => if l = 0 then if 30 < v5 then (v4, M) else v_X7_fitting_r n 1 M v1 v2 v3 v4 v5 1 0 else if v2 ≤ v7 then v_X7_fitting_r n 0 M v1 v2 v3 (if v6 = 0 then v4 else v4 + (1 <<< (v5 &&& 31))) (v5 + 1) 0 0 else if v6 = 0 then v_X7_fitting_r n 0 M v1 v2 v3 (if v6 = 0 then v4 else v4 + (1 <<< (v5 &&& 31))) (v5 + 1) 0 0 else kk (v_X7_slowsBy M v3 v5 (v_X7_intAt M v1 (2 * v7))) (fun q23 : Int32 × mT => v_X7_fitting_r n 1 q23.2 v1 v2 v3 v4 v5 (if q23.1 = (v_X7_intAt q23.2 v1 ((2 * v7) + 1)) then 1 else 0) (v7 + 1))
def p_X7_fitting_r : Nat → Nat → mT → Int32 → Int32 → Int32 → Int32 → Int32 → Int32 → Int32 → Prop
  | 0, _, _, _, _, _, _, _, _, _ => False
  | n + 1, l, M, v1, v2, v3, v4, v5, v6, v7 => if l = 0 then if 30 < v5 then True else p_X7_fitting_r n 1 M v1 v2 v3 v4 v5 1 0 else if v2 ≤ v7 then p_X7_fitting_r n 0 M v1 v2 v3 (if v6 = 0 then v4 else v4 + (1 <<< (v5 &&& 31))) (v5 + 1) 0 0 else if v6 = 0 then p_X7_fitting_r n 0 M v1 v2 v3 (if v6 = 0 then v4 else v4 + (1 <<< (v5 &&& 31))) (v5 + 1) 0 0 else (p_X7_intAt M v1 (2 * v7)) ∧ ((p_X7_slowsBy M v3 v5 (v_X7_intAt M v1 (2 * v7))) ∧ (kk (v_X7_slowsBy M v3 v5 (v_X7_intAt M v1 (2 * v7))) (fun q23 : Int32 × mT => (p_X7_intAt q23.2 v1 ((2 * v7) + 1)) ∧ (p_X7_fitting_r n 1 q23.2 v1 v2 v3 v4 v5 (if q23.1 = (v_X7_intAt q23.2 v1 ((2 * v7) + 1)) then 1 else 0) (v7 + 1)))))
set_option maxHeartbeats 4000000 in
theorem w_X7_fitting {G : zG} {Γ : zT} {a : Nat → Nat} {A : Nat → Prop} {res : Int32 × mT} {X : zX} (hw : wk X A Γ.2.2.1.1.heap) (hQ : zQ Γ (Qwi G (fun r w => r = res.1 ∧ w = mW G a res.2) A) 0 0 A) : ∀ n : Nat, (∀ (M : mT) (v1 : Int32) (v2 : Int32) (v3 : Int32) (v4 : Int32) (v5 : Int32) (v6 : Int32) (v7 : Int32), p_X7_fitting_r n 0 M v1 v2 v3 v4 v5 v6 v7 → v_X7_fitting_r n 0 M v1 v2 v3 v4 v5 v6 v7 = res → Z k_X7_fitting G Γ (wr G A Γ.2.2.1.1.heap (mW G a M)) 0 0 [(0, .ref (a 0)), (1, .int v1), (2, .int v2), (3, .int v3), (4, .int v4), (5, .int v5)] 6 []) ∧ (∀ (M : mT) (v1 : Int32) (v2 : Int32) (v3 : Int32) (v4 : Int32) (v5 : Int32) (v6 : Int32) (v7 : Int32), p_X7_fitting_r n 1 M v1 v2 v3 v4 v5 v6 v7 → v_X7_fitting_r n 1 M v1 v2 v3 v4 v5 v6 v7 = res → Z k_X7_fitting G Γ (wr G A Γ.2.2.1.1.heap (mW G a M)) 0 0 [(0, .ref (a 0)), (1, .int v1), (2, .int v2), (3, .int v3), (4, .int v4), (5, .int v5), (6, .int v6), (7, .int v7)] 19 []) := by
  intro n
  induction n with
  | zero => exact ⟨fun M v1 v2 v3 v4 v5 v6 v7 hp => absurd hp (by rw [p_X7_fitting_r]; exact not_false), fun M v1 v2 v3 v4 v5 v6 v7 hp => absurd hp (by rw [p_X7_fitting_r]; exact not_false)⟩
  | succ n ih =>
    refine ⟨?_, ?_⟩
    · intro M v1 v2 v3 v4 v5 v6 v7 hp hv
      rw [p_X7_fitting_r] at hp
      rw [v_X7_fitting_r] at hv
      have hp := ip_t hp rfl
      have hv := it_t hv rfl
      refine z_iload dX7_fitting_6 rfl ?_
      refine z_bipush (v := 30) dX7_fitting_8 rfl ?_
      refine z_icmp_gt (tgt := 93) dX7_fitting_10 (by decide) (fun c1 => ?_) (fun c1 => ?_)
      · have hp := ip_t hp c1; have hv := it_t hv c1
        refine z_iload dX7_fitting_93 rfl ?_
        subst hv; exact z_iret_W hQ rfl rfl rfl ⟨rfl, rfl⟩ dX7_fitting_95
      · have hp := ip_f hp c1; have hv := it_f hv c1
        refine z_iconst (v := 1) dX7_fitting_13 rfl ?_
        refine z_istore (lv' := [(6, .int 1), (0, .ref (a 0)), (1, .int v1), (2, .int v2), (3, .int v3), (4, .int v4), (5, .int v5)]) dX7_fitting_14 (Nat.le_of_ble_eq_true rfl) rfl ?_
        refine z_iconst (v := 0) dX7_fitting_16 rfl ?_
        refine z_istore (lv' := [(7, .int 0), (6, .int 1), (0, .ref (a 0)), (1, .int v1), (2, .int v2), (3, .int v3), (4, .int v4), (5, .int v5)]) dX7_fitting_17 (Nat.le_of_ble_eq_true rfl) rfl ?_
        exact z_lv rfl ((ih).2 M v1 v2 v3 v4 v5 1 0 hp hv)
    · intro M v1 v2 v3 v4 v5 v6 v7 hp hv
      rw [p_X7_fitting_r] at hp
      rw [v_X7_fitting_r] at hv
      have hp := ip_f hp (by decide)
      have hv := it_f hv (by decide)
      refine z_iload dX7_fitting_19 rfl ?_
      refine z_iload_n dX7_fitting_21 rfl ?_
      refine z_icmp_ge (tgt := 73) dX7_fitting_22 (by decide) (fun c2 => ?_) (fun c2 => ?_)
      · have hp := ip_t hp c2; have hv := it_t hv c2
        refine z_iload dX7_fitting_73 rfl ?_
        have J27 : ∀ m11 : Int32, m11 = (if v6 = 0 then v4 else v4 + (1 <<< (v5 &&& 31))) → Z k_X7_fitting G Γ (wr G A Γ.2.2.1.1.heap (mW G a M)) 0 0 [(0, .ref (a 0)), (1, .int v1), (2, .int v2), (3, .int v3), (4, .int m11), (5, .int v5), (6, .int v6), (7, .int v7)] 87 [] := by
          intro m11 em11
          rewrite [em11]; clear em11
          refine z_iinc (v := v5 + 1) (lv' := [(5, .int (v5 + 1)), (0, .ref (a 0)), (1, .int v1), (2, .int v2), (3, .int v3), (4, .int (if v6 = 0 then v4 else v4 + (1 <<< (v5 &&& 31)))), (6, .int v6), (7, .int v7)]) dX7_fitting_87 5 rfl rfl (Nat.le_of_ble_eq_true rfl) rfl ?_
          refine z_goto (tgt := 6) dX7_fitting_90 (by decide) ?_
          exact z_lv rfl ((ih).1 M v1 v2 v3 (if v6 = 0 then v4 else v4 + (1 <<< (v5 &&& 31))) (v5 + 1) 0 0 hp hv)
        refine z_if_eq (tgt := 87) dX7_fitting_75 (by decide) (fun c10 => ?_) (fun c10 => ?_)
        · skip
          exact z_lv rfl (J27 _ (if_pos c10).symm)
        · skip
          refine z_iload dX7_fitting_78 rfl ?_
          refine z_iconst (v := 1) dX7_fitting_80 rfl ?_
          refine z_iload dX7_fitting_81 rfl ?_
          refine z_ishl dX7_fitting_83 ?_
          refine z_iadd dX7_fitting_84 ?_
          refine z_istore (lv' := [(4, .int (v4 + (1 <<< (v5 &&& 31)))), (0, .ref (a 0)), (1, .int v1), (2, .int v2), (3, .int v3), (5, .int v5), (6, .int v6), (7, .int v7)]) dX7_fitting_85 (Nat.le_of_ble_eq_true rfl) rfl ?_
          exact z_lv rfl (J27 _ (if_neg c10).symm)
      · have hp := ip_f hp c2; have hv := it_f hv c2
        refine z_iload dX7_fitting_25 rfl ?_
        refine z_if_eq (tgt := 73) dX7_fitting_27 (by decide) (fun c12 => ?_) (fun c12 => ?_)
        · have hp := ip_t hp c12; have hv := it_t hv c12
          refine z_iload dX7_fitting_73 rfl ?_
          have J28 : ∀ m20 : Int32, m20 = (if v6 = 0 then v4 else v4 + (1 <<< (v5 &&& 31))) → Z k_X7_fitting G Γ (wr G A Γ.2.2.1.1.heap (mW G a M)) 0 0 [(0, .ref (a 0)), (1, .int v1), (2, .int v2), (3, .int v3), (4, .int m20), (5, .int v5), (6, .int v6), (7, .int v7)] 87 [] := by
            intro m20 em20
            rewrite [em20]; clear em20
            refine z_iinc (v := v5 + 1) (lv' := [(5, .int (v5 + 1)), (0, .ref (a 0)), (1, .int v1), (2, .int v2), (3, .int v3), (4, .int (if v6 = 0 then v4 else v4 + (1 <<< (v5 &&& 31)))), (6, .int v6), (7, .int v7)]) dX7_fitting_87 5 rfl rfl (Nat.le_of_ble_eq_true rfl) rfl ?_
            refine z_goto (tgt := 6) dX7_fitting_90 (by decide) ?_
            exact z_lv rfl ((ih).1 M v1 v2 v3 (if v6 = 0 then v4 else v4 + (1 <<< (v5 &&& 31))) (v5 + 1) 0 0 hp hv)
          refine z_if_eq (tgt := 87) dX7_fitting_75 (by decide) (fun c19 => ?_) (fun c19 => ?_)
          · skip
            exact z_lv rfl (J28 _ (if_pos c19).symm)
          · skip
            refine z_iload dX7_fitting_78 rfl ?_
            refine z_iconst (v := 1) dX7_fitting_80 rfl ?_
            refine z_iload dX7_fitting_81 rfl ?_
            refine z_ishl dX7_fitting_83 ?_
            refine z_iadd dX7_fitting_84 ?_
            refine z_istore (lv' := [(4, .int (v4 + (1 <<< (v5 &&& 31)))), (0, .ref (a 0)), (1, .int v1), (2, .int v2), (3, .int v3), (5, .int v5), (6, .int v6), (7, .int v7)]) dX7_fitting_85 (Nat.le_of_ble_eq_true rfl) rfl ?_
            exact z_lv rfl (J28 _ (if_neg c19).symm)
        · have hp := ip_f hp c12; have hv := it_f hv c12
          refine z_aload_n dX7_fitting_30 rfl ?_
          refine z_iload_n dX7_fitting_31 rfl ?_
          refine z_iload dX7_fitting_32 rfl ?_
          refine z_aload_n dX7_fitting_34 rfl ?_
          refine z_iload_n dX7_fitting_35 rfl ?_
          refine z_iconst (v := 2) dX7_fitting_36 rfl ?_
          refine z_iload dX7_fitting_37 rfl ?_
          refine z_imul dX7_fitting_39 ?_
          obtain ⟨q21, hp⟩ := hp
          refine z_cvi (c_X7_intAt G a M v1 (2 * v7) q21) zc_X7_intAt zv_X7_intAt tw_m_RX7_233 (mrec wr_P) wr_P (zroom_of rfl) rfl (Nat.le_of_ble_eq_true rfl) dX7_fitting_40 ?_
          obtain ⟨q22, hp⟩ := hp
          refine z_caviD hw (fun sz => c_X7_slowsBy G a hw.1 sz M v3 v5 (v_X7_intAt M v1 (2 * v7)) q22) zc_X7_slowsBy zv_X7_slowsBy tw_m_RX7_252 (mrec wr_P) (zroom_of rfl) rfl (Nat.le_of_ble_eq_true rfl) dX7_fitting_43 ?_
          suffices z29 : ∀ q23 : Int32 × mT, q23 = (v_X7_slowsBy M v3 v5 (v_X7_intAt M v1 (2 * v7))) → Z k_X7_fitting G Γ (wr G A Γ.2.2.1.1.heap (mW G a q23.2)) 0 0 [(0, .ref (a 0)), (1, .int v1), (2, .int v2), (3, .int v3), (4, .int v4), (5, .int v5), (6, .int v6), (7, .int v7)] 46 [.int q23.1] from z29 _ rfl
          intro q23 hq23
          have hp := kk_pq hp hq23
          have hv := kk_vq hv hq23
          clear hq23
          refine z_aload_n dX7_fitting_46 rfl ?_
          refine z_iload_n dX7_fitting_47 rfl ?_
          refine z_iconst (v := 2) dX7_fitting_48 rfl ?_
          refine z_iload dX7_fitting_49 rfl ?_
          refine z_imul dX7_fitting_51 ?_
          refine z_iconst (v := 1) dX7_fitting_52 rfl ?_
          refine z_iadd dX7_fitting_53 ?_
          obtain ⟨q24, hp⟩ := hp
          refine z_cvi (c_X7_intAt G a q23.2 v1 ((2 * v7) + 1) q24) zc_X7_intAt zv_X7_intAt tw_m_RX7_233 (mrec wr_P) wr_P (zroom_of rfl) rfl (Nat.le_of_ble_eq_true rfl) dX7_fitting_54 ?_
          have J30 : ∀ m26 : Int32, m26 = (if q23.1 = (v_X7_intAt q23.2 v1 ((2 * v7) + 1)) then 1 else 0) → Z k_X7_fitting G Γ (wr G A Γ.2.2.1.1.heap (mW G a q23.2)) 0 0 [(0, .ref (a 0)), (1, .int v1), (2, .int v2), (3, .int v3), (4, .int v4), (5, .int v5), (6, .int v6), (7, .int v7)] 65 [.int m26] := by
            intro m26 em26
            rewrite [em26]; clear em26
            refine z_istore (lv' := [(6, .int (if q23.1 = (v_X7_intAt q23.2 v1 ((2 * v7) + 1)) then 1 else 0)), (0, .ref (a 0)), (1, .int v1), (2, .int v2), (3, .int v3), (4, .int v4), (5, .int v5), (7, .int v7)]) dX7_fitting_65 (Nat.le_of_ble_eq_true rfl) rfl ?_
            refine z_iinc (v := v7 + 1) (lv' := [(7, .int (v7 + 1)), (6, .int (if q23.1 = (v_X7_intAt q23.2 v1 ((2 * v7) + 1)) then 1 else 0)), (0, .ref (a 0)), (1, .int v1), (2, .int v2), (3, .int v3), (4, .int v4), (5, .int v5)]) dX7_fitting_67 7 rfl rfl (Nat.le_of_ble_eq_true rfl) rfl ?_
            refine z_goto (tgt := 19) dX7_fitting_70 (by decide) ?_
            exact z_lv rfl ((ih).2 q23.2 v1 v2 v3 v4 v5 (if q23.1 = (v_X7_intAt q23.2 v1 ((2 * v7) + 1)) then 1 else 0) (v7 + 1) hp hv)
          refine z_icmp_ne (tgt := 64) dX7_fitting_57 (by decide) (fun c25 => ?_) (fun c25 => ?_)
          · skip
            refine z_iconst (v := 0) dX7_fitting_64 rfl ?_
            exact z_lv rfl (J30 _ (if_neg c25).symm)
          · skip
            refine z_iconst (v := 1) dX7_fitting_60 rfl ?_
            refine z_goto (tgt := 65) dX7_fitting_61 (by decide) ?_
            exact z_lv rfl (J30 _ (if_pos c25).symm)
def v_X7_fitting (M : mT) (x1 : Int32) (x2 : Int32) (x3 : Int32) : Int32 × mT := v_X7_fitting_r 2000 0 M x1 x2 x3 0 0 0 0
def p_X7_fitting (M : mT) (x1 : Int32) (x2 : Int32) (x3 : Int32) : Prop := p_X7_fitting_r 2000 0 M x1 x2 x3 0 0 0 0
set_option maxHeartbeats 4000000 in
theorem c_X7_fitting {l : Launch} (G : zG) (a : Nat → Nat) {X : zX} (hX : XOK X) (sz : Nat) (M : mT) (x1 : Int32) (x2 : Int32) (x3 : Int32) (hp : p_X7_fitting M x1 x2 x3) : Met l yX7_fitting (.code yX7_fitting k_X7_fitting.1 k_X7_fitting.2.1 k_X7_fitting.2.2.2.1 :: TS) k_X7_fitting.2.2.2.2 (Pz G [.ref (a 0), .int x1, .int x2, .int x3] (Fw G X (mW G a M) sz)) (Qwi G (fun r w => r = (v_X7_fitting M x1 x2 x3).1 ∧ w = mW G a (v_X7_fitting M x1 x2 x3).2) (va_A (mW G a M) sz)) 0 0 (va_A (mW G a M) sz) := by
  refine zmet (by decide +kernel) rfl rfl (fun Γ hl0 hQ hN hF => ?_)
  refine z_start hX hF (fun hw => ?_)
  generalize va_A (mW G a M) sz = A at hQ hw ⊢
  obtain ⟨res, hv⟩ : ∃ res, v_X7_fitting M x1 x2 x3 = res := ⟨_, rfl⟩
  rw [hv] at hQ
  unfold v_X7_fitting at hv
  unfold p_X7_fitting at hp
  show Z k_X7_fitting G Γ _ 0 0 [(0, .ref (a 0)), (1, .int x1), (2, .int x2), (3, .int x3)] 0 []
  refine z_iconst (v := 0) dX7_fitting_0 rfl ?_
  refine z_istore (lv' := [(4, .int 0), (0, .ref (a 0)), (1, .int x1), (2, .int x2), (3, .int x3)]) dX7_fitting_1 (Nat.le_of_ble_eq_true rfl) rfl ?_
  refine z_iconst (v := 0) dX7_fitting_3 rfl ?_
  refine z_istore (lv' := [(5, .int 0), (4, .int 0), (0, .ref (a 0)), (1, .int x1), (2, .int x2), (3, .int x3)]) dX7_fitting_4 (Nat.le_of_ble_eq_true rfl) rfl ?_
  exact z_lv rfl ((w_X7_fitting hw hQ 2000).1 M x1 x2 x3 0 0 0 0 hp hv)
theorem dX7_fits_0 : decode cX7_fits 0 = .ok (.aload_n 0, 1) := by decide +kernel
theorem dX7_fits_1 : decode cX7_fits 1 = .ok (.iload_n 1, 1) := by decide +kernel
theorem dX7_fits_2 : decode cX7_fits 2 = .ok (.iload_n 2, 1) := by decide +kernel
theorem dX7_fits_3 : decode cX7_fits 3 = .ok (.iload_n 3, 1) := by decide +kernel
theorem dX7_fits_4 : decode cX7_fits 4 = .ok (.invokevirtual 255, 3) := by decide +kernel
theorem dX7_fits_7 : decode cX7_fits 7 = .ok (.istore 4, 2) := by decide +kernel
theorem dX7_fits_9 : decode cX7_fits 9 = .ok (.iload 4, 2) := by decide +kernel
theorem dX7_fits_11 : decode cX7_fits 11 = .ok (.ifCond .eq 12, 3) := by decide +kernel
theorem dX7_fits_14 : decode cX7_fits 14 = .ok (.aload_n 0, 1) := by decide +kernel
theorem dX7_fits_15 : decode cX7_fits 15 = .ok (.iload 4, 2) := by decide +kernel
theorem dX7_fits_17 : decode cX7_fits 17 = .ok (.invokevirtual 106, 3) := by decide +kernel
theorem dX7_fits_20 : decode cX7_fits 20 = .ok (.goto 10, 3) := by decide +kernel
theorem dX7_fits_23 : decode cX7_fits 23 = .ok (.aload_n 0, 1) := by decide +kernel
theorem dX7_fits_24 : decode cX7_fits 24 = .ok (.iload_n 1, 1) := by decide +kernel
theorem dX7_fits_25 : decode cX7_fits 25 = .ok (.iload_n 2, 1) := by decide +kernel
theorem dX7_fits_26 : decode cX7_fits 26 = .ok (.iload_n 3, 1) := by decide +kernel
theorem dX7_fits_27 : decode cX7_fits 27 = .ok (.invokevirtual 258, 3) := by decide +kernel
theorem dX7_fits_30 : decode cX7_fits 30 = .ok (.ireturn, 1) := by decide +kernel
abbrev k_X7_fits : zK := (cX7_fits, 5, RX7, (some .int), ({ frames := 6, cells := 0, slots := 0, locals := 145 } : Room))
theorem zc_X7_fits : zcal yX7_fits k_X7_fits.1 k_X7_fits.2.1 k_X7_fits.2.2.2.1 3 := ⟨tw_code_yX7_fits, tw_i_TollForHesitatorsModel, ⟨by decide +kernel, by decide +kernel⟩, by decide +kernel⟩
theorem zv_X7_fits : Cond.instanceMethod yX7_fits ∈ TS ∧ Cond.selects RX7 yX7_fits yX7_fits ∈ TS := ⟨tw_inst_yX7_fits, tw_s_yX7_fits⟩
def v_X7_fits (M : mT) (x1 : Int32) (x2 : Int32) (x3 : Int32) : Int32 × mT := kk (if (v_X7_barsOfTwos M x1 x2 x3) = 0 then (v_X7_fitting M x1 x2 x3).2 else (v_X7_no M (v_X7_barsOfTwos M x1 x2 x3)).2) (fun M7 : mT => ((if (v_X7_barsOfTwos M x1 x2 x3) = 0 then (v_X7_fitting M x1 x2 x3).1 else (v_X7_no M (v_X7_barsOfTwos M x1 x2 x3)).1), M7))
def p_X7_fits (M : mT) (x1 : Int32) (x2 : Int32) (x3 : Int32) : Prop := p_X7_barsOfTwos M x1 x2 x3 ∧ (if (v_X7_barsOfTwos M x1 x2 x3) = 0 then p_X7_fitting M x1 x2 x3 else p_X7_no M (v_X7_barsOfTwos M x1 x2 x3))
set_option maxHeartbeats 4000000 in
theorem c_X7_fits {l : Launch} (G : zG) (a : Nat → Nat) {X : zX} (hX : XOK X) (sz : Nat) (M : mT) (x1 : Int32) (x2 : Int32) (x3 : Int32) (hp : p_X7_fits M x1 x2 x3) : Met l yX7_fits (.code yX7_fits k_X7_fits.1 k_X7_fits.2.1 k_X7_fits.2.2.2.1 :: TS) k_X7_fits.2.2.2.2 (Pz G [.ref (a 0), .int x1, .int x2, .int x3] (Fw G X (mW G a M) sz)) (Qwi G (fun r w => r = (v_X7_fits M x1 x2 x3).1 ∧ w = mW G a (v_X7_fits M x1 x2 x3).2) (va_A (mW G a M) sz)) 0 0 (va_A (mW G a M) sz) := by
  refine zmet (by decide +kernel) rfl rfl (fun Γ hl0 hQ hN hF => ?_)
  refine z_start hX hF (fun hw => ?_)
  generalize va_A (mW G a M) sz = A at hQ hw ⊢
  obtain ⟨res, hv⟩ : ∃ res, v_X7_fits M x1 x2 x3 = res := ⟨_, rfl⟩
  rw [hv] at hQ
  unfold v_X7_fits at hv
  unfold p_X7_fits at hp
  show Z k_X7_fits G Γ _ 0 0 [(0, .ref (a 0)), (1, .int x1), (2, .int x2), (3, .int x3)] 0 []
  refine z_aload_n dX7_fits_0 rfl ?_
  refine z_iload_n dX7_fits_1 rfl ?_
  refine z_iload_n dX7_fits_2 rfl ?_
  refine z_iload_n dX7_fits_3 rfl ?_
  obtain ⟨q1, hp⟩ := hp
  refine z_cvi (c_X7_barsOfTwos G a M x1 x2 x3 q1) zc_X7_barsOfTwos zv_X7_barsOfTwos tw_m_RX7_255 (mrec wr_P) wr_P (zroom_of rfl) rfl (Nat.le_of_ble_eq_true rfl) dX7_fits_4 ?_
  refine z_istore (lv' := [(4, .int (v_X7_barsOfTwos M x1 x2 x3)), (0, .ref (a 0)), (1, .int x1), (2, .int x2), (3, .int x3)]) dX7_fits_7 (Nat.le_of_ble_eq_true rfl) rfl ?_
  refine z_iload dX7_fits_9 rfl ?_
  have hpm := hp
  have J9 : ∀ M7 : mT, M7 = (if (v_X7_barsOfTwos M x1 x2 x3) = 0 then (v_X7_fitting M x1 x2 x3).2 else (v_X7_no M (v_X7_barsOfTwos M x1 x2 x3)).2) → ∀ m8 : Int32, m8 = (if (v_X7_barsOfTwos M x1 x2 x3) = 0 then (v_X7_fitting M x1 x2 x3).1 else (v_X7_no M (v_X7_barsOfTwos M x1 x2 x3)).1) → Z k_X7_fits G Γ (wr G A Γ.2.2.1.1.heap (mW G a M7)) 0 0 [(4, .int (v_X7_barsOfTwos M x1 x2 x3)), (0, .ref (a 0)), (1, .int x1), (2, .int x2), (3, .int x3)] 30 [.int m8] := by
    intro M7 eM7 m8 em8
    have hv := kk_vq hv eM7
    clear eM7
    rewrite [em8]; clear em8
    subst hv; exact z_iret_W hQ rfl rfl rfl ⟨rfl, rfl⟩ dX7_fits_30
  refine z_if_eq (tgt := 23) dX7_fits_11 (by decide) (fun c2 => ?_) (fun c2 => ?_)
  · have hp := ip_t hpm c2
    refine z_aload_n dX7_fits_23 rfl ?_
    refine z_iload_n dX7_fits_24 rfl ?_
    refine z_iload_n dX7_fits_25 rfl ?_
    refine z_iload_n dX7_fits_26 rfl ?_
    have q3 := hp
    refine z_caviD hw (fun sz => c_X7_fitting G a hw.1 sz M x1 x2 x3 q3) zc_X7_fitting zv_X7_fitting tw_m_RX7_258 (mrec wr_P) (zroom_of rfl) rfl (Nat.le_of_ble_eq_true rfl) dX7_fits_27 ?_
    exact z_lv rfl (J9 _ (if_pos c2).symm _ (if_pos c2).symm)
  · have hp := ip_f hpm c2
    refine z_aload_n dX7_fits_14 rfl ?_
    refine z_iload dX7_fits_15 rfl ?_
    have q5 := hp
    refine z_caviD hw (fun sz => c_X7_no G a hw.1 sz M (v_X7_barsOfTwos M x1 x2 x3) q5) zc_X7_no zv_X7_no tw_m_RX7_106 (mrec wr_P) (zroom_of rfl) rfl (Nat.le_of_ble_eq_true rfl) dX7_fits_17 ?_
    refine z_goto (tgt := 30) dX7_fits_20 (by decide) ?_
    exact z_lv rfl (J9 _ (if_neg c2).symm _ (if_neg c2).symm)
theorem dX7_next_0 : decode cX7_next 0 = .ok (.aload_n 0, 1) := by decide +kernel
theorem dX7_next_1 : decode cX7_next 1 = .ok (.iload_n 1, 1) := by decide +kernel
theorem dX7_next_2 : decode cX7_next 2 = .ok (.iload_n 2, 1) := by decide +kernel
theorem dX7_next_3 : decode cX7_next 3 = .ok (.iload_n 3, 1) := by decide +kernel
theorem dX7_next_4 : decode cX7_next 4 = .ok (.invokevirtual 255, 3) := by decide +kernel
theorem dX7_next_7 : decode cX7_next 7 = .ok (.istore 4, 2) := by decide +kernel
theorem dX7_next_9 : decode cX7_next 9 = .ok (.iload 4, 2) := by decide +kernel
theorem dX7_next_11 : decode cX7_next 11 = .ok (.ifCond .eq 10, 3) := by decide +kernel
theorem dX7_next_14 : decode cX7_next 14 = .ok (.aload_n 0, 1) := by decide +kernel
theorem dX7_next_15 : decode cX7_next 15 = .ok (.iload 4, 2) := by decide +kernel
theorem dX7_next_17 : decode cX7_next 17 = .ok (.invokevirtual 211, 3) := by decide +kernel
theorem dX7_next_20 : decode cX7_next 20 = .ok (.ireturn, 1) := by decide +kernel
theorem dX7_next_21 : decode cX7_next 21 = .ok (.aload_n 0, 1) := by decide +kernel
theorem dX7_next_22 : decode cX7_next 22 = .ok (.iload_n 1, 1) := by decide +kernel
theorem dX7_next_23 : decode cX7_next 23 = .ok (.iload_n 2, 1) := by decide +kernel
theorem dX7_next_24 : decode cX7_next 24 = .ok (.iload_n 3, 1) := by decide +kernel
theorem dX7_next_25 : decode cX7_next 25 = .ok (.invokevirtual 258, 3) := by decide +kernel
theorem dX7_next_28 : decode cX7_next 28 = .ok (.istore 5, 2) := by decide +kernel
theorem dX7_next_30 : decode cX7_next 30 = .ok (.iconst 0, 1) := by decide +kernel
theorem dX7_next_31 : decode cX7_next 31 = .ok (.istore 6, 2) := by decide +kernel
theorem dX7_next_33 : decode cX7_next 33 = .ok (.iconst (-1), 1) := by decide +kernel
theorem dX7_next_34 : decode cX7_next 34 = .ok (.istore 7, 2) := by decide +kernel
theorem dX7_next_36 : decode cX7_next 36 = .ok (.iconst 0, 1) := by decide +kernel
theorem dX7_next_37 : decode cX7_next 37 = .ok (.istore 8, 2) := by decide +kernel
theorem dX7_next_39 : decode cX7_next 39 = .ok (.iconst 0, 1) := by decide +kernel
theorem dX7_next_40 : decode cX7_next 40 = .ok (.istore 9, 2) := by decide +kernel
theorem dX7_next_42 : decode cX7_next 42 = .ok (.iload 9, 2) := by decide +kernel
theorem dX7_next_44 : decode cX7_next 44 = .ok (.bipush 30, 2) := by decide +kernel
theorem dX7_next_46 : decode cX7_next 46 = .ok (.if_icmp .gt 21, 3) := by decide +kernel
theorem dX7_next_49 : decode cX7_next 49 = .ok (.iload 6, 2) := by decide +kernel
theorem dX7_next_51 : decode cX7_next 51 = .ok (.iload 5, 2) := by decide +kernel
theorem dX7_next_53 : decode cX7_next 53 = .ok (.iload 9, 2) := by decide +kernel
theorem dX7_next_55 : decode cX7_next 55 = .ok (.ishr, 1) := by decide +kernel
theorem dX7_next_56 : decode cX7_next 56 = .ok (.iconst 1, 1) := by decide +kernel
theorem dX7_next_57 : decode cX7_next 57 = .ok (.iand, 1) := by decide +kernel
theorem dX7_next_58 : decode cX7_next 58 = .ok (.iadd, 1) := by decide +kernel
theorem dX7_next_59 : decode cX7_next 59 = .ok (.istore 6, 2) := by decide +kernel
theorem dX7_next_61 : decode cX7_next 61 = .ok (.iinc 9 1, 3) := by decide +kernel
theorem dX7_next_64 : decode cX7_next 64 = .ok (.goto (-22), 3) := by decide +kernel
theorem dX7_next_67 : decode cX7_next 67 = .ok (.iload 6, 2) := by decide +kernel
theorem dX7_next_69 : decode cX7_next 69 = .ok (.iconst 2, 1) := by decide +kernel
theorem dX7_next_70 : decode cX7_next 70 = .ok (.if_icmp .ge 5, 3) := by decide +kernel
theorem dX7_next_73 : decode cX7_next 73 = .ok (.iconst (-1), 1) := by decide +kernel
theorem dX7_next_74 : decode cX7_next 74 = .ok (.ireturn, 1) := by decide +kernel
theorem dX7_next_75 : decode cX7_next 75 = .ok (.iconst 0, 1) := by decide +kernel
theorem dX7_next_76 : decode cX7_next 76 = .ok (.istore 9, 2) := by decide +kernel
theorem dX7_next_78 : decode cX7_next 78 = .ok (.iload 9, 2) := by decide +kernel
theorem dX7_next_80 : decode cX7_next 80 = .ok (.bipush 9, 2) := by decide +kernel
theorem dX7_next_82 : decode cX7_next 82 = .ok (.if_icmp .gt 99, 3) := by decide +kernel
theorem dX7_next_85 : decode cX7_next 85 = .ok (.iconst 0, 1) := by decide +kernel
theorem dX7_next_86 : decode cX7_next 86 = .ok (.istore 10, 2) := by decide +kernel
theorem dX7_next_88 : decode cX7_next 88 = .ok (.iconst 0, 1) := by decide +kernel
theorem dX7_next_89 : decode cX7_next 89 = .ok (.istore 11, 2) := by decide +kernel
theorem dX7_next_91 : decode cX7_next 91 = .ok (.iload 11, 2) := by decide +kernel
theorem dX7_next_93 : decode cX7_next 93 = .ok (.bipush 30, 2) := by decide +kernel
theorem dX7_next_95 : decode cX7_next 95 = .ok (.if_icmp .gt 34, 3) := by decide +kernel
theorem dX7_next_98 : decode cX7_next 98 = .ok (.iload 5, 2) := by decide +kernel
theorem dX7_next_100 : decode cX7_next 100 = .ok (.iload 11, 2) := by decide +kernel
theorem dX7_next_102 : decode cX7_next 102 = .ok (.ishr, 1) := by decide +kernel
theorem dX7_next_103 : decode cX7_next 103 = .ok (.iconst 1, 1) := by decide +kernel
theorem dX7_next_104 : decode cX7_next 104 = .ok (.iand, 1) := by decide +kernel
theorem dX7_next_105 : decode cX7_next 105 = .ok (.iconst 1, 1) := by decide +kernel
theorem dX7_next_106 : decode cX7_next 106 = .ok (.if_icmp .ne 17, 3) := by decide +kernel
theorem dX7_next_109 : decode cX7_next 109 = .ok (.iload 10, 2) := by decide +kernel
theorem dX7_next_111 : decode cX7_next 111 = .ok (.aload_n 0, 1) := by decide +kernel
theorem dX7_next_112 : decode cX7_next 112 = .ok (.iload_n 3, 1) := by decide +kernel
theorem dX7_next_113 : decode cX7_next 113 = .ok (.iload 11, 2) := by decide +kernel
theorem dX7_next_115 : decode cX7_next 115 = .ok (.iload 9, 2) := by decide +kernel
theorem dX7_next_117 : decode cX7_next 117 = .ok (.invokevirtual 252, 3) := by decide +kernel
theorem dX7_next_120 : decode cX7_next 120 = .ok (.iadd, 1) := by decide +kernel
theorem dX7_next_121 : decode cX7_next 121 = .ok (.istore 10, 2) := by decide +kernel
theorem dX7_next_123 : decode cX7_next 123 = .ok (.iinc 11 1, 3) := by decide +kernel
theorem dX7_next_126 : decode cX7_next 126 = .ok (.goto (-35), 3) := by decide +kernel
theorem dX7_next_129 : decode cX7_next 129 = .ok (.iload 10, 2) := by decide +kernel
theorem dX7_next_131 : decode cX7_next 131 = .ok (.iload 6, 2) := by decide +kernel
theorem dX7_next_133 : decode cX7_next 133 = .ok (.iload 10, 2) := by decide +kernel
theorem dX7_next_135 : decode cX7_next 135 = .ok (.isub, 1) := by decide +kernel
theorem dX7_next_136 : decode cX7_next 136 = .ok (.if_icmp .le 8, 3) := by decide +kernel
theorem dX7_next_139 : decode cX7_next 139 = .ok (.iload 10, 2) := by decide +kernel
theorem dX7_next_141 : decode cX7_next 141 = .ok (.goto 8, 3) := by decide +kernel
theorem dX7_next_144 : decode cX7_next 144 = .ok (.iload 6, 2) := by decide +kernel
theorem dX7_next_146 : decode cX7_next 146 = .ok (.iload 10, 2) := by decide +kernel
theorem dX7_next_148 : decode cX7_next 148 = .ok (.isub, 1) := by decide +kernel
theorem dX7_next_149 : decode cX7_next 149 = .ok (.istore 11, 2) := by decide +kernel
theorem dX7_next_151 : decode cX7_next 151 = .ok (.iload 7, 2) := by decide +kernel
theorem dX7_next_153 : decode cX7_next 153 = .ok (.iconst (-1), 1) := by decide +kernel
theorem dX7_next_154 : decode cX7_next 154 = .ok (.if_icmp .eq 13, 3) := by decide +kernel
theorem dX7_next_157 : decode cX7_next 157 = .ok (.iload 11, 2) := by decide +kernel
theorem dX7_next_159 : decode cX7_next 159 = .ok (.iload 8, 2) := by decide +kernel
theorem dX7_next_161 : decode cX7_next 161 = .ok (.if_icmp .lt 6, 3) := by decide +kernel
theorem dX7_next_164 : decode cX7_next 164 = .ok (.goto 11, 3) := by decide +kernel
theorem dX7_next_167 : decode cX7_next 167 = .ok (.iload 9, 2) := by decide +kernel
theorem dX7_next_169 : decode cX7_next 169 = .ok (.istore 7, 2) := by decide +kernel
theorem dX7_next_171 : decode cX7_next 171 = .ok (.iload 11, 2) := by decide +kernel
theorem dX7_next_173 : decode cX7_next 173 = .ok (.istore 8, 2) := by decide +kernel
theorem dX7_next_175 : decode cX7_next 175 = .ok (.iinc 9 1, 3) := by decide +kernel
theorem dX7_next_178 : decode cX7_next 178 = .ok (.goto (-100), 3) := by decide +kernel
theorem dX7_next_181 : decode cX7_next 181 = .ok (.iload 7, 2) := by decide +kernel
theorem dX7_next_183 : decode cX7_next 183 = .ok (.ireturn, 1) := by decide +kernel
abbrev k_X7_next : zK := (cX7_next, 12, RX7, (some .int), ({ frames := 6, cells := 0, slots := 0, locals := 145 } : Room))
theorem zc_X7_next : zcal yX7_next k_X7_next.1 k_X7_next.2.1 k_X7_next.2.2.2.1 3 := ⟨tw_code_yX7_next, tw_i_TollForHesitatorsModel, ⟨by decide +kernel, by decide +kernel⟩, by decide +kernel⟩
theorem zv_X7_next : Cond.instanceMethod yX7_next ∈ TS ∧ Cond.selects RX7 yX7_next yX7_next ∈ TS := ⟨tw_inst_yX7_next, tw_s_yX7_next⟩
def v_X7_next_r : Nat → Nat → mT → Int32 → Int32 → Int32 → Int32 → Int32 → Int32 → Int32 → Int32 → Int32 × mT
  | 0, _, M, _, _, _, _, _, _, _, _ => (0, M)
  | n + 1, l, M, v3, v5, v6, v7, v8, v9, v10, v11 => if l = 0 then if 30 < v9 then if 2 ≤ v6 then v_X7_next_r n 1 M v3 v5 v6 v7 v8 0 0 0 else ((-1), M) else v_X7_next_r n 0 M v3 v5 (v6 + ((v5 >>> (v9 &&& 31)) &&& 1)) v7 v8 (v9 + 1) 0 0 else if l = 1 then if 9 < v9 then (v7, M) else v_X7_next_r n 2 M v3 v5 v6 v7 v8 v9 0 0 else if 30 < v11 then kk (if v7 = (-1) then (if v10 ≤ (v6 - v10) then v6 - v10 else v10) else (if (if v10 ≤ (v6 - v10) then v6 - v10 else v10) < v8 then (if v10 ≤ (v6 - v10) then v6 - v10 else v10) else v8)) (fun m22 : Int32 => kk (if v7 = (-1) then v9 else (if (if v10 ≤ (v6 - v10) then v6 - v10 else v10) < v8 then v9 else v7)) (fun m23 : Int32 => v_X7_next_r n 1 M v3 v5 v6 m23 m22 (v9 + 1) 0 0)) else kk (if ((v5 >>> (v11 &&& 31)) &&& 1) = 1 then (v_X7_slowsBy M v3 v11 v9).2 else M) (fun M27 : mT => kk (if ((v5 >>> (v11 &&& 31)) &&& 1) = 1 then v10 + ((v_X7_slowsBy M v3 v11 v9).1) else v10) (fun m28 : Int32 => v_X7_next_r n 2 M27 v3 v5 v6 v7 v8 v9 m28 (v11 + 1)))
def p_X7_next_r : Nat → Nat → mT → Int32 → Int32 → Int32 → Int32 → Int32 → Int32 → Int32 → Int32 → Prop
  | 0, _, _, _, _, _, _, _, _, _, _ => False
  | n + 1, l, M, v3, v5, v6, v7, v8, v9, v10, v11 => if l = 0 then if 30 < v9 then if 2 ≤ v6 then p_X7_next_r n 1 M v3 v5 v6 v7 v8 0 0 0 else True else p_X7_next_r n 0 M v3 v5 (v6 + ((v5 >>> (v9 &&& 31)) &&& 1)) v7 v8 (v9 + 1) 0 0 else if l = 1 then if 9 < v9 then True else p_X7_next_r n 2 M v3 v5 v6 v7 v8 v9 0 0 else if 30 < v11 then kk (if v7 = (-1) then (if v10 ≤ (v6 - v10) then v6 - v10 else v10) else (if (if v10 ≤ (v6 - v10) then v6 - v10 else v10) < v8 then (if v10 ≤ (v6 - v10) then v6 - v10 else v10) else v8)) (fun m22 : Int32 => kk (if v7 = (-1) then v9 else (if (if v10 ≤ (v6 - v10) then v6 - v10 else v10) < v8 then v9 else v7)) (fun m23 : Int32 => p_X7_next_r n 1 M v3 v5 v6 m23 m22 (v9 + 1) 0 0)) else (if ((v5 >>> (v11 &&& 31)) &&& 1) = 1 then p_X7_slowsBy M v3 v11 v9 else True) ∧ (kk (if ((v5 >>> (v11 &&& 31)) &&& 1) = 1 then (v_X7_slowsBy M v3 v11 v9).2 else M) (fun M27 : mT => kk (if ((v5 >>> (v11 &&& 31)) &&& 1) = 1 then v10 + ((v_X7_slowsBy M v3 v11 v9).1) else v10) (fun m28 : Int32 => p_X7_next_r n 2 M27 v3 v5 v6 v7 v8 v9 m28 (v11 + 1))))
set_option maxHeartbeats 4000000 in
theorem w_X7_next {G : zG} {Γ : zT} {a : Nat → Nat} {A : Nat → Prop} {res : Int32 × mT} {X : zX} (hw : wk X A Γ.2.2.1.1.heap) (hQ : zQ Γ (Qwi G (fun r w => r = res.1 ∧ w = mW G a res.2) A) 0 0 A) : ∀ n : Nat, (∀ (M : mT) (v3 : Int32) (v5 : Int32) (v6 : Int32) (v7 : Int32) (v8 : Int32) (v9 : Int32) (v10 : Int32) (v11 : Int32), p_X7_next_r n 0 M v3 v5 v6 v7 v8 v9 v10 v11 → v_X7_next_r n 0 M v3 v5 v6 v7 v8 v9 v10 v11 = res → Z k_X7_next G Γ (wr G A Γ.2.2.1.1.heap (mW G a M)) 0 0 [(0, .ref (a 0)), (3, .int v3), (5, .int v5), (6, .int v6), (7, .int v7), (8, .int v8), (9, .int v9)] 42 []) ∧ (∀ (M : mT) (v3 : Int32) (v5 : Int32) (v6 : Int32) (v7 : Int32) (v8 : Int32) (v9 : Int32) (v10 : Int32) (v11 : Int32), p_X7_next_r n 1 M v3 v5 v6 v7 v8 v9 v10 v11 → v_X7_next_r n 1 M v3 v5 v6 v7 v8 v9 v10 v11 = res → Z k_X7_next G Γ (wr G A Γ.2.2.1.1.heap (mW G a M)) 0 0 [(0, .ref (a 0)), (3, .int v3), (5, .int v5), (6, .int v6), (7, .int v7), (8, .int v8), (9, .int v9)] 78 []) ∧ (∀ (M : mT) (v3 : Int32) (v5 : Int32) (v6 : Int32) (v7 : Int32) (v8 : Int32) (v9 : Int32) (v10 : Int32) (v11 : Int32), p_X7_next_r n 2 M v3 v5 v6 v7 v8 v9 v10 v11 → v_X7_next_r n 2 M v3 v5 v6 v7 v8 v9 v10 v11 = res → Z k_X7_next G Γ (wr G A Γ.2.2.1.1.heap (mW G a M)) 0 0 [(0, .ref (a 0)), (3, .int v3), (5, .int v5), (6, .int v6), (7, .int v7), (8, .int v8), (9, .int v9), (10, .int v10), (11, .int v11)] 91 []) := by
  intro n
  induction n with
  | zero => exact ⟨fun M v3 v5 v6 v7 v8 v9 v10 v11 hp => absurd hp (by rw [p_X7_next_r]; exact not_false), fun M v3 v5 v6 v7 v8 v9 v10 v11 hp => absurd hp (by rw [p_X7_next_r]; exact not_false), fun M v3 v5 v6 v7 v8 v9 v10 v11 hp => absurd hp (by rw [p_X7_next_r]; exact not_false)⟩
  | succ n ih =>
    refine ⟨?_, ?_, ?_⟩
    · intro M v3 v5 v6 v7 v8 v9 v10 v11 hp hv
      rw [p_X7_next_r] at hp
      rw [v_X7_next_r] at hv
      have hp := ip_t hp rfl
      have hv := it_t hv rfl
      refine z_iload dX7_next_42 rfl ?_
      refine z_bipush (v := 30) dX7_next_44 rfl ?_
      refine z_icmp_gt (tgt := 67) dX7_next_46 (by decide) (fun c7 => ?_) (fun c7 => ?_)
      · have hp := ip_t hp c7; have hv := it_t hv c7
        refine z_iload dX7_next_67 rfl ?_
        refine z_iconst (v := 2) dX7_next_69 rfl ?_
        refine z_icmp_ge (tgt := 75) dX7_next_70 (by decide) (fun c8 => ?_) (fun c8 => ?_)
        · have hp := ip_t hp c8; have hv := it_t hv c8
          refine z_iconst (v := 0) dX7_next_75 rfl ?_
          refine z_istore (lv' := [(9, .int 0), (0, .ref (a 0)), (3, .int v3), (5, .int v5), (6, .int v6), (7, .int v7), (8, .int v8)]) dX7_next_76 (Nat.le_of_ble_eq_true rfl) rfl ?_
          exact z_lv rfl ((ih).2.1 M v3 v5 v6 v7 v8 0 0 0 hp hv)
        · have hp := ip_f hp c8; have hv := it_f hv c8
          refine z_iconst (v := (-1)) dX7_next_73 rfl ?_
          subst hv; exact z_iret_W hQ rfl rfl rfl ⟨rfl, rfl⟩ dX7_next_74
      · have hp := ip_f hp c7; have hv := it_f hv c7
        refine z_iload dX7_next_49 rfl ?_
        refine z_iload dX7_next_51 rfl ?_
        refine z_iload dX7_next_53 rfl ?_
        refine z_ishr dX7_next_55 ?_
        refine z_iconst (v := 1) dX7_next_56 rfl ?_
        refine z_iand dX7_next_57 ?_
        refine z_iadd dX7_next_58 ?_
        refine z_istore (lv' := [(6, .int (v6 + ((v5 >>> (v9 &&& 31)) &&& 1))), (0, .ref (a 0)), (3, .int v3), (5, .int v5), (7, .int v7), (8, .int v8), (9, .int v9)]) dX7_next_59 (Nat.le_of_ble_eq_true rfl) rfl ?_
        refine z_iinc (v := v9 + 1) (lv' := [(9, .int (v9 + 1)), (6, .int (v6 + ((v5 >>> (v9 &&& 31)) &&& 1))), (0, .ref (a 0)), (3, .int v3), (5, .int v5), (7, .int v7), (8, .int v8)]) dX7_next_61 6 rfl rfl (Nat.le_of_ble_eq_true rfl) rfl ?_
        refine z_goto (tgt := 42) dX7_next_64 (by decide) ?_
        exact z_lv rfl ((ih).1 M v3 v5 (v6 + ((v5 >>> (v9 &&& 31)) &&& 1)) v7 v8 (v9 + 1) 0 0 hp hv)
    · intro M v3 v5 v6 v7 v8 v9 v10 v11 hp hv
      rw [p_X7_next_r] at hp
      rw [v_X7_next_r] at hv
      have hp := ip_f hp (by decide)
      have hv := it_f hv (by decide)
      have hp := ip_t hp rfl
      have hv := it_t hv rfl
      refine z_iload dX7_next_78 rfl ?_
      refine z_bipush (v := 9) dX7_next_80 rfl ?_
      refine z_icmp_gt (tgt := 181) dX7_next_82 (by decide) (fun c9 => ?_) (fun c9 => ?_)
      · have hp := ip_t hp c9; have hv := it_t hv c9
        refine z_iload dX7_next_181 rfl ?_
        subst hv; exact z_iret_W hQ rfl rfl rfl ⟨rfl, rfl⟩ dX7_next_183
      · have hp := ip_f hp c9; have hv := it_f hv c9
        refine z_iconst (v := 0) dX7_next_85 rfl ?_
        refine z_istore (lv' := [(10, .int 0), (0, .ref (a 0)), (3, .int v3), (5, .int v5), (6, .int v6), (7, .int v7), (8, .int v8), (9, .int v9)]) dX7_next_86 (Nat.le_of_ble_eq_true rfl) rfl ?_
        refine z_iconst (v := 0) dX7_next_88 rfl ?_
        refine z_istore (lv' := [(11, .int 0), (10, .int 0), (0, .ref (a 0)), (3, .int v3), (5, .int v5), (6, .int v6), (7, .int v7), (8, .int v8), (9, .int v9)]) dX7_next_89 (Nat.le_of_ble_eq_true rfl) rfl ?_
        exact z_lv rfl ((ih).2.2 M v3 v5 v6 v7 v8 v9 0 0 hp hv)
    · intro M v3 v5 v6 v7 v8 v9 v10 v11 hp hv
      rw [p_X7_next_r] at hp
      rw [v_X7_next_r] at hv
      have hp := ip_f hp (by decide)
      have hv := it_f hv (by decide)
      have hp := ip_f hp (by decide)
      have hv := it_f hv (by decide)
      refine z_iload dX7_next_91 rfl ?_
      refine z_bipush (v := 30) dX7_next_93 rfl ?_
      refine z_icmp_gt (tgt := 129) dX7_next_95 (by decide) (fun c10 => ?_) (fun c10 => ?_)
      · have hp := ip_t hp c10; have hv := it_t hv c10
        refine z_iload dX7_next_129 rfl ?_
        refine z_iload dX7_next_131 rfl ?_
        refine z_iload dX7_next_133 rfl ?_
        refine z_isub dX7_next_135 ?_
        have J29 : ∀ m17 : Int32, m17 = (if v10 ≤ (v6 - v10) then v6 - v10 else v10) → Z k_X7_next G Γ (wr G A Γ.2.2.1.1.heap (mW G a M)) 0 0 [(0, .ref (a 0)), (3, .int v3), (5, .int v5), (6, .int v6), (7, .int v7), (8, .int v8), (9, .int v9), (10, .int v10), (11, .int v11)] 149 [.int m17] := by
          intro m17 em17
          rewrite [em17]; clear em17
          refine z_istore (lv' := [(11, .int (if v10 ≤ (v6 - v10) then v6 - v10 else v10)), (0, .ref (a 0)), (3, .int v3), (5, .int v5), (6, .int v6), (7, .int v7), (8, .int v8), (9, .int v9), (10, .int v10)]) dX7_next_149 (Nat.le_of_ble_eq_true rfl) rfl ?_
          refine z_iload dX7_next_151 rfl ?_
          refine z_iconst (v := (-1)) dX7_next_153 rfl ?_
          have J30 : ∀ m22 : Int32, m22 = (if v7 = (-1) then (if v10 ≤ (v6 - v10) then v6 - v10 else v10) else (if (if v10 ≤ (v6 - v10) then v6 - v10 else v10) < v8 then (if v10 ≤ (v6 - v10) then v6 - v10 else v10) else v8)) → ∀ m23 : Int32, m23 = (if v7 = (-1) then v9 else (if (if v10 ≤ (v6 - v10) then v6 - v10 else v10) < v8 then v9 else v7)) → Z k_X7_next G Γ (wr G A Γ.2.2.1.1.heap (mW G a M)) 0 0 [(8, .int m22), (7, .int m23), (11, .int (if v10 ≤ (v6 - v10) then v6 - v10 else v10)), (0, .ref (a 0)), (3, .int v3), (5, .int v5), (6, .int v6), (9, .int v9), (10, .int v10)] 175 [] := by
            intro m22 em22 m23 em23
            have hp := kk_pq hp em22
            have hv := kk_vq hv em22
            clear em22
            have hp := kk_pq hp em23
            have hv := kk_vq hv em23
            clear em23
            refine z_iinc (v := v9 + 1) (lv' := [(9, .int (v9 + 1)), (8, .int m22), (7, .int m23), (11, .int (if v10 ≤ (v6 - v10) then v6 - v10 else v10)), (0, .ref (a 0)), (3, .int v3), (5, .int v5), (6, .int v6), (10, .int v10)]) dX7_next_175 7 rfl rfl (Nat.le_of_ble_eq_true rfl) rfl ?_
            refine z_goto (tgt := 78) dX7_next_178 (by decide) ?_
            exact z_lv rfl ((ih).2.1 M v3 v5 v6 m23 m22 (v9 + 1) 0 0 hp hv)
          refine z_icmp_eq (tgt := 167) dX7_next_154 (by decide) (fun c18 => ?_) (fun c18 => ?_)
          · skip
            refine z_iload dX7_next_167 rfl ?_
            refine z_istore (lv' := [(7, .int v9), (11, .int (if v10 ≤ (v6 - v10) then v6 - v10 else v10)), (0, .ref (a 0)), (3, .int v3), (5, .int v5), (6, .int v6), (8, .int v8), (9, .int v9), (10, .int v10)]) dX7_next_169 (Nat.le_of_ble_eq_true rfl) rfl ?_
            refine z_iload dX7_next_171 rfl ?_
            refine z_istore (lv' := [(8, .int (if v10 ≤ (v6 - v10) then v6 - v10 else v10)), (7, .int v9), (11, .int (if v10 ≤ (v6 - v10) then v6 - v10 else v10)), (0, .ref (a 0)), (3, .int v3), (5, .int v5), (6, .int v6), (9, .int v9), (10, .int v10)]) dX7_next_173 (Nat.le_of_ble_eq_true rfl) rfl ?_
            exact z_lv rfl (J30 _ (if_pos c18).symm _ (if_pos c18).symm)
          · skip
            refine z_iload dX7_next_157 rfl ?_
            refine z_iload dX7_next_159 rfl ?_
            have J31 : ∀ m20 : Int32, m20 = (if (if v10 ≤ (v6 - v10) then v6 - v10 else v10) < v8 then (if v10 ≤ (v6 - v10) then v6 - v10 else v10) else v8) → ∀ m21 : Int32, m21 = (if (if v10 ≤ (v6 - v10) then v6 - v10 else v10) < v8 then v9 else v7) → Z k_X7_next G Γ (wr G A Γ.2.2.1.1.heap (mW G a M)) 0 0 [(8, .int m20), (7, .int m21), (11, .int (if v10 ≤ (v6 - v10) then v6 - v10 else v10)), (0, .ref (a 0)), (3, .int v3), (5, .int v5), (6, .int v6), (9, .int v9), (10, .int v10)] 175 [] := by
              intro m20 em20 m21 em21
              rewrite [em20]; clear em20
              rewrite [em21]; clear em21
              exact z_lv rfl (J30 _ (if_neg c18).symm _ (if_neg c18).symm)
            refine z_icmp_lt (tgt := 167) dX7_next_161 (by decide) (fun c19 => ?_) (fun c19 => ?_)
            · skip
              refine z_iload dX7_next_167 rfl ?_
              refine z_istore (lv' := [(7, .int v9), (11, .int (if v10 ≤ (v6 - v10) then v6 - v10 else v10)), (0, .ref (a 0)), (3, .int v3), (5, .int v5), (6, .int v6), (8, .int v8), (9, .int v9), (10, .int v10)]) dX7_next_169 (Nat.le_of_ble_eq_true rfl) rfl ?_
              refine z_iload dX7_next_171 rfl ?_
              refine z_istore (lv' := [(8, .int (if v10 ≤ (v6 - v10) then v6 - v10 else v10)), (7, .int v9), (11, .int (if v10 ≤ (v6 - v10) then v6 - v10 else v10)), (0, .ref (a 0)), (3, .int v3), (5, .int v5), (6, .int v6), (9, .int v9), (10, .int v10)]) dX7_next_173 (Nat.le_of_ble_eq_true rfl) rfl ?_
              exact z_lv rfl (J31 _ (if_pos c19).symm _ (if_pos c19).symm)
            · skip
              refine z_goto (tgt := 175) dX7_next_164 (by decide) ?_
              exact z_lv rfl (J31 _ (if_neg c19).symm _ (if_neg c19).symm)
        refine z_icmp_le (tgt := 144) dX7_next_136 (by decide) (fun c16 => ?_) (fun c16 => ?_)
        · skip
          refine z_iload dX7_next_144 rfl ?_
          refine z_iload dX7_next_146 rfl ?_
          refine z_isub dX7_next_148 ?_
          exact z_lv rfl (J29 _ (if_pos c16).symm)
        · skip
          refine z_iload dX7_next_139 rfl ?_
          refine z_goto (tgt := 149) dX7_next_141 (by decide) ?_
          exact z_lv rfl (J29 _ (if_neg c16).symm)
      · have hp := ip_f hp c10; have hv := it_f hv c10
        refine z_iload dX7_next_98 rfl ?_
        refine z_iload dX7_next_100 rfl ?_
        refine z_ishr dX7_next_102 ?_
        refine z_iconst (v := 1) dX7_next_103 rfl ?_
        refine z_iand dX7_next_104 ?_
        refine z_iconst (v := 1) dX7_next_105 rfl ?_
        obtain ⟨hpm, hp⟩ := hp
        have J32 : ∀ M27 : mT, M27 = (if ((v5 >>> (v11 &&& 31)) &&& 1) = 1 then (v_X7_slowsBy M v3 v11 v9).2 else M) → ∀ m28 : Int32, m28 = (if ((v5 >>> (v11 &&& 31)) &&& 1) = 1 then v10 + ((v_X7_slowsBy M v3 v11 v9).1) else v10) → Z k_X7_next G Γ (wr G A Γ.2.2.1.1.heap (mW G a M27)) 0 0 [(10, .int m28), (0, .ref (a 0)), (3, .int v3), (5, .int v5), (6, .int v6), (7, .int v7), (8, .int v8), (9, .int v9), (11, .int v11)] 123 [] := by
          intro M27 eM27 m28 em28
          have hp := kk_pq hp eM27
          have hv := kk_vq hv eM27
          clear eM27
          have hp := kk_pq hp em28
          have hv := kk_vq hv em28
          clear em28
          refine z_iinc (v := v11 + 1) (lv' := [(11, .int (v11 + 1)), (10, .int m28), (0, .ref (a 0)), (3, .int v3), (5, .int v5), (6, .int v6), (7, .int v7), (8, .int v8), (9, .int v9)]) dX7_next_123 8 rfl rfl (Nat.le_of_ble_eq_true rfl) rfl ?_
          refine z_goto (tgt := 91) dX7_next_126 (by decide) ?_
          exact z_lv rfl ((ih).2.2 M27 v3 v5 v6 v7 v8 v9 m28 (v11 + 1) hp hv)
        refine z_icmp_ne (tgt := 123) dX7_next_106 (by decide) (fun c24 => ?_) (fun c24 => ?_)
        · have hp := ip_f hpm c24
          exact z_lv rfl (J32 _ (if_neg c24).symm _ (if_neg c24).symm)
        · have hp := ip_t hpm c24
          refine z_iload dX7_next_109 rfl ?_
          refine z_aload_n dX7_next_111 rfl ?_
          refine z_iload_n dX7_next_112 rfl ?_
          refine z_iload dX7_next_113 rfl ?_
          refine z_iload dX7_next_115 rfl ?_
          have q25 := hp
          refine z_caviD hw (fun sz => c_X7_slowsBy G a hw.1 sz M v3 v11 v9 q25) zc_X7_slowsBy zv_X7_slowsBy tw_m_RX7_252 (mrec wr_P) (zroom_of rfl) rfl (Nat.le_of_ble_eq_true rfl) dX7_next_117 ?_
          refine z_iadd dX7_next_120 ?_
          refine z_istore (lv' := [(10, .int (v10 + ((v_X7_slowsBy M v3 v11 v9).1))), (0, .ref (a 0)), (3, .int v3), (5, .int v5), (6, .int v6), (7, .int v7), (8, .int v8), (9, .int v9), (11, .int v11)]) dX7_next_121 (Nat.le_of_ble_eq_true rfl) rfl ?_
          exact z_lv rfl (J32 _ (if_pos c24).symm _ (if_pos c24).symm)
def v_X7_next (M : mT) (x1 : Int32) (x2 : Int32) (x3 : Int32) : Int32 × mT := if (v_X7_barsOfTwos M x1 x2 x3) = 0 then kk (v_X7_fitting M x1 x2 x3) (fun q4 : Int32 × mT => v_X7_next_r 500 0 q4.2 x3 q4.1 0 (-1) 0 0 0 0) else kk (v_X7_noTen M (v_X7_barsOfTwos M x1 x2 x3)) (fun q6 : Int32 × mT => (q6.1, q6.2))
def p_X7_next (M : mT) (x1 : Int32) (x2 : Int32) (x3 : Int32) : Prop := p_X7_barsOfTwos M x1 x2 x3 ∧ (if (v_X7_barsOfTwos M x1 x2 x3) = 0 then p_X7_fitting M x1 x2 x3 ∧ (kk (v_X7_fitting M x1 x2 x3) (fun q4 : Int32 × mT => p_X7_next_r 500 0 q4.2 x3 q4.1 0 (-1) 0 0 0 0)) else p_X7_noTen M (v_X7_barsOfTwos M x1 x2 x3))
set_option maxHeartbeats 4000000 in
theorem c_X7_next {l : Launch} (G : zG) (a : Nat → Nat) {X : zX} (hX : XOK X) (sz : Nat) (M : mT) (x1 : Int32) (x2 : Int32) (x3 : Int32) (hp : p_X7_next M x1 x2 x3) : Met l yX7_next (.code yX7_next k_X7_next.1 k_X7_next.2.1 k_X7_next.2.2.2.1 :: TS) k_X7_next.2.2.2.2 (Pz G [.ref (a 0), .int x1, .int x2, .int x3] (Fw G X (mW G a M) sz)) (Qwi G (fun r w => r = (v_X7_next M x1 x2 x3).1 ∧ w = mW G a (v_X7_next M x1 x2 x3).2) (va_A (mW G a M) sz)) 0 0 (va_A (mW G a M) sz) := by
  refine zmet (by decide +kernel) rfl rfl (fun Γ hl0 hQ hN hF => ?_)
  refine z_start hX hF (fun hw => ?_)
  generalize va_A (mW G a M) sz = A at hQ hw ⊢
  obtain ⟨res, hv⟩ : ∃ res, v_X7_next M x1 x2 x3 = res := ⟨_, rfl⟩
  rw [hv] at hQ
  unfold v_X7_next at hv
  unfold p_X7_next at hp
  show Z k_X7_next G Γ _ 0 0 [(0, .ref (a 0)), (1, .int x1), (2, .int x2), (3, .int x3)] 0 []
  refine z_aload_n dX7_next_0 rfl ?_
  refine z_iload_n dX7_next_1 rfl ?_
  refine z_iload_n dX7_next_2 rfl ?_
  refine z_iload_n dX7_next_3 rfl ?_
  obtain ⟨q1, hp⟩ := hp
  refine z_cvi (c_X7_barsOfTwos G a M x1 x2 x3 q1) zc_X7_barsOfTwos zv_X7_barsOfTwos tw_m_RX7_255 (mrec wr_P) wr_P (zroom_of rfl) rfl (Nat.le_of_ble_eq_true rfl) dX7_next_4 ?_
  refine z_istore (lv' := [(4, .int (v_X7_barsOfTwos M x1 x2 x3)), (0, .ref (a 0)), (1, .int x1), (2, .int x2), (3, .int x3)]) dX7_next_7 (Nat.le_of_ble_eq_true rfl) rfl ?_
  refine z_iload dX7_next_9 rfl ?_
  refine z_if_eq (tgt := 21) dX7_next_11 (by decide) (fun c2 => ?_) (fun c2 => ?_)
  · have hp := ip_t hp c2; have hv := it_t hv c2
    refine z_aload_n dX7_next_21 rfl ?_
    refine z_iload_n dX7_next_22 rfl ?_
    refine z_iload_n dX7_next_23 rfl ?_
    refine z_iload_n dX7_next_24 rfl ?_
    obtain ⟨q3, hp⟩ := hp
    refine z_caviD hw (fun sz => c_X7_fitting G a hw.1 sz M x1 x2 x3 q3) zc_X7_fitting zv_X7_fitting tw_m_RX7_258 (mrec wr_P) (zroom_of rfl) rfl (Nat.le_of_ble_eq_true rfl) dX7_next_25 ?_
    suffices z33 : ∀ q4 : Int32 × mT, q4 = (v_X7_fitting M x1 x2 x3) → Z k_X7_next G Γ (wr G A Γ.2.2.1.1.heap (mW G a q4.2)) 0 0 [(4, .int (v_X7_barsOfTwos M x1 x2 x3)), (0, .ref (a 0)), (1, .int x1), (2, .int x2), (3, .int x3)] 28 [.int q4.1] from z33 _ rfl
    intro q4 hq4
    have hp := kk_pq hp hq4
    have hv := kk_vq hv hq4
    clear hq4
    refine z_istore (lv' := [(5, .int q4.1), (4, .int (v_X7_barsOfTwos M x1 x2 x3)), (0, .ref (a 0)), (1, .int x1), (2, .int x2), (3, .int x3)]) dX7_next_28 (Nat.le_of_ble_eq_true rfl) rfl ?_
    refine z_iconst (v := 0) dX7_next_30 rfl ?_
    refine z_istore (lv' := [(6, .int 0), (5, .int q4.1), (4, .int (v_X7_barsOfTwos M x1 x2 x3)), (0, .ref (a 0)), (1, .int x1), (2, .int x2), (3, .int x3)]) dX7_next_31 (Nat.le_of_ble_eq_true rfl) rfl ?_
    refine z_iconst (v := (-1)) dX7_next_33 rfl ?_
    refine z_istore (lv' := [(7, .int (-1)), (6, .int 0), (5, .int q4.1), (4, .int (v_X7_barsOfTwos M x1 x2 x3)), (0, .ref (a 0)), (1, .int x1), (2, .int x2), (3, .int x3)]) dX7_next_34 (Nat.le_of_ble_eq_true rfl) rfl ?_
    refine z_iconst (v := 0) dX7_next_36 rfl ?_
    refine z_istore (lv' := [(8, .int 0), (7, .int (-1)), (6, .int 0), (5, .int q4.1), (4, .int (v_X7_barsOfTwos M x1 x2 x3)), (0, .ref (a 0)), (1, .int x1), (2, .int x2), (3, .int x3)]) dX7_next_37 (Nat.le_of_ble_eq_true rfl) rfl ?_
    refine z_iconst (v := 0) dX7_next_39 rfl ?_
    refine z_istore (lv' := [(9, .int 0), (8, .int 0), (7, .int (-1)), (6, .int 0), (5, .int q4.1), (4, .int (v_X7_barsOfTwos M x1 x2 x3)), (0, .ref (a 0)), (1, .int x1), (2, .int x2), (3, .int x3)]) dX7_next_40 (Nat.le_of_ble_eq_true rfl) rfl ?_
    exact z_lv rfl ((w_X7_next hw hQ 500).1 q4.2 x3 q4.1 0 (-1) 0 0 0 0 hp hv)
  · have hp := ip_f hp c2; have hv := it_f hv c2
    refine z_aload_n dX7_next_14 rfl ?_
    refine z_iload dX7_next_15 rfl ?_
    have q5 := hp
    refine z_caviD hw (fun sz => c_X7_noTen G a hw.1 sz M (v_X7_barsOfTwos M x1 x2 x3) q5) zc_X7_noTen zv_X7_noTen tw_m_RX7_211 (mrec wr_P) (zroom_of rfl) rfl (Nat.le_of_ble_eq_true rfl) dX7_next_17 ?_
    suffices z34 : ∀ q6 : Int32 × mT, q6 = (v_X7_noTen M (v_X7_barsOfTwos M x1 x2 x3)) → Z k_X7_next G Γ (wr G A Γ.2.2.1.1.heap (mW G a q6.2)) 0 0 [(4, .int (v_X7_barsOfTwos M x1 x2 x3)), (0, .ref (a 0)), (1, .int x1), (2, .int x2), (3, .int x3)] 20 [.int q6.1] from z34 _ rfl
    intro q6 hq6
    have hv := kk_vq hv hq6
    clear hq6
    subst hv; exact z_iret_W hQ rfl rfl rfl ⟨rfl, rfl⟩ dX7_next_20
theorem dX7_leader_0 : decode cX7_leader 0 = .ok (.aload_n 0, 1) := by decide +kernel
theorem dX7_leader_1 : decode cX7_leader 1 = .ok (.iload_n 1, 1) := by decide +kernel
theorem dX7_leader_2 : decode cX7_leader 2 = .ok (.invokevirtual 110, 3) := by decide +kernel
theorem dX7_leader_5 : decode cX7_leader 5 = .ok (.ifCond .ne 9, 3) := by decide +kernel
theorem dX7_leader_8 : decode cX7_leader 8 = .ok (.aload_n 0, 1) := by decide +kernel
theorem dX7_leader_9 : decode cX7_leader 9 = .ok (.iconst (-1), 1) := by decide +kernel
theorem dX7_leader_10 : decode cX7_leader 10 = .ok (.invokevirtual 211, 3) := by decide +kernel
theorem dX7_leader_13 : decode cX7_leader 13 = .ok (.ireturn, 1) := by decide +kernel
theorem dX7_leader_14 : decode cX7_leader 14 = .ok (.iconst (-1), 1) := by decide +kernel
theorem dX7_leader_15 : decode cX7_leader 15 = .ok (.istore_n 2, 1) := by decide +kernel
theorem dX7_leader_16 : decode cX7_leader 16 = .ok (.iconst 0, 1) := by decide +kernel
theorem dX7_leader_17 : decode cX7_leader 17 = .ok (.istore_n 3, 1) := by decide +kernel
theorem dX7_leader_18 : decode cX7_leader 18 = .ok (.iconst 0, 1) := by decide +kernel
theorem dX7_leader_19 : decode cX7_leader 19 = .ok (.istore 4, 2) := by decide +kernel
theorem dX7_leader_21 : decode cX7_leader 21 = .ok (.iload 4, 2) := by decide +kernel
theorem dX7_leader_23 : decode cX7_leader 23 = .ok (.aload_n 0, 1) := by decide +kernel
theorem dX7_leader_24 : decode cX7_leader 24 = .ok (.getfield 99, 3) := by decide +kernel
theorem dX7_leader_27 : decode cX7_leader 27 = .ok (.if_icmp .ge 84, 3) := by decide +kernel
theorem dX7_leader_30 : decode cX7_leader 30 = .ok (.iload 4, 2) := by decide +kernel
theorem dX7_leader_32 : decode cX7_leader 32 = .ok (.iload_n 1, 1) := by decide +kernel
theorem dX7_leader_33 : decode cX7_leader 33 = .ok (.if_icmp .ne 6, 3) := by decide +kernel
theorem dX7_leader_36 : decode cX7_leader 36 = .ok (.goto 69, 3) := by decide +kernel
theorem dX7_leader_39 : decode cX7_leader 39 = .ok (.aload_n 0, 1) := by decide +kernel
theorem dX7_leader_40 : decode cX7_leader 40 = .ok (.iload 4, 2) := by decide +kernel
theorem dX7_leader_42 : decode cX7_leader 42 = .ok (.iconst (-1), 1) := by decide +kernel
theorem dX7_leader_43 : decode cX7_leader 43 = .ok (.iload_n 1, 1) := by decide +kernel
theorem dX7_leader_44 : decode cX7_leader 44 = .ok (.iconst 0, 1) := by decide +kernel
theorem dX7_leader_45 : decode cX7_leader 45 = .ok (.invokevirtual 229, 3) := by decide +kernel
theorem dX7_leader_48 : decode cX7_leader 48 = .ok (.iconst 1, 1) := by decide +kernel
theorem dX7_leader_49 : decode cX7_leader 49 = .ok (.if_icmp .ne 7, 3) := by decide +kernel
theorem dX7_leader_52 : decode cX7_leader 52 = .ok (.iconst 1, 1) := by decide +kernel
theorem dX7_leader_53 : decode cX7_leader 53 = .ok (.goto 4, 3) := by decide +kernel
theorem dX7_leader_56 : decode cX7_leader 56 = .ok (.iconst 0, 1) := by decide +kernel
theorem dX7_leader_57 : decode cX7_leader 57 = .ok (.istore 5, 2) := by decide +kernel
theorem dX7_leader_59 : decode cX7_leader 59 = .ok (.aload_n 0, 1) := by decide +kernel
theorem dX7_leader_60 : decode cX7_leader 60 = .ok (.iload_n 1, 1) := by decide +kernel
theorem dX7_leader_61 : decode cX7_leader 61 = .ok (.iload 4, 2) := by decide +kernel
theorem dX7_leader_63 : decode cX7_leader 63 = .ok (.iconst (-1), 1) := by decide +kernel
theorem dX7_leader_64 : decode cX7_leader 64 = .ok (.iload 5, 2) := by decide +kernel
theorem dX7_leader_66 : decode cX7_leader 66 = .ok (.aload_n 0, 1) := by decide +kernel
theorem dX7_leader_67 : decode cX7_leader 67 = .ok (.getfield 124, 3) := by decide +kernel
theorem dX7_leader_70 : decode cX7_leader 70 = .ok (.invokevirtual 204, 3) := by decide +kernel
theorem dX7_leader_73 : decode cX7_leader 73 = .ok (.istore 6, 2) := by decide +kernel
theorem dX7_leader_75 : decode cX7_leader 75 = .ok (.iload 6, 2) := by decide +kernel
theorem dX7_leader_77 : decode cX7_leader 77 = .ok (.iconst (-1), 1) := by decide +kernel
theorem dX7_leader_78 : decode cX7_leader 78 = .ok (.if_icmp .ne 7, 3) := by decide +kernel
theorem dX7_leader_81 : decode cX7_leader 81 = .ok (.bipush 99, 2) := by decide +kernel
theorem dX7_leader_83 : decode cX7_leader 83 = .ok (.istore 6, 2) := by decide +kernel
theorem dX7_leader_85 : decode cX7_leader 85 = .ok (.iload_n 2, 1) := by decide +kernel
theorem dX7_leader_86 : decode cX7_leader 86 = .ok (.iconst (-1), 1) := by decide +kernel
theorem dX7_leader_87 : decode cX7_leader 87 = .ok (.if_icmp .eq 12, 3) := by decide +kernel
theorem dX7_leader_90 : decode cX7_leader 90 = .ok (.iload 6, 2) := by decide +kernel
theorem dX7_leader_92 : decode cX7_leader 92 = .ok (.iload_n 3, 1) := by decide +kernel
theorem dX7_leader_93 : decode cX7_leader 93 = .ok (.if_icmp .gt 6, 3) := by decide +kernel
theorem dX7_leader_96 : decode cX7_leader 96 = .ok (.goto 9, 3) := by decide +kernel
theorem dX7_leader_99 : decode cX7_leader 99 = .ok (.iload 4, 2) := by decide +kernel
theorem dX7_leader_101 : decode cX7_leader 101 = .ok (.istore_n 2, 1) := by decide +kernel
theorem dX7_leader_102 : decode cX7_leader 102 = .ok (.iload 6, 2) := by decide +kernel
theorem dX7_leader_104 : decode cX7_leader 104 = .ok (.istore_n 3, 1) := by decide +kernel
theorem dX7_leader_105 : decode cX7_leader 105 = .ok (.iinc 4 1, 3) := by decide +kernel
theorem dX7_leader_108 : decode cX7_leader 108 = .ok (.goto (-87), 3) := by decide +kernel
theorem dX7_leader_111 : decode cX7_leader 111 = .ok (.iload_n 2, 1) := by decide +kernel
theorem dX7_leader_112 : decode cX7_leader 112 = .ok (.ireturn, 1) := by decide +kernel
abbrev k_X7_leader : zK := (cX7_leader, 7, RX7, (some .int), ({ frames := 4, cells := 0, slots := 0, locals := 95 } : Room))
theorem zc_X7_leader : zcal yX7_leader k_X7_leader.1 k_X7_leader.2.1 k_X7_leader.2.2.2.1 1 := ⟨tw_code_yX7_leader, tw_i_TollForHesitatorsModel, ⟨by decide +kernel, by decide +kernel⟩, by decide +kernel⟩
theorem zv_X7_leader : Cond.instanceMethod yX7_leader ∈ TS ∧ Cond.selects RX7 yX7_leader yX7_leader ∈ TS := ⟨tw_inst_yX7_leader, tw_s_yX7_leader⟩
def v_X7_leader_r : Nat → mT → Int32 → Int32 → Int32 → Int32 → Int32 × mT
  | 0, M, _, _, _, _ => (0, M)
  | n + 1, M, v1, v2, v3, v4 => if (M.1 0) ≤ v4 then (v2, M) else kk (if v4 = v1 then v2 else (if v2 = (-1) then v4 else (if v3 < (if (v_X7_slowsAt M v1 v4 (-1) (if (v_X7_goes M v4 (-1) v1 0) = 1 then 1 else 0) (M.1 2)) = (-1) then 99 else (v_X7_slowsAt M v1 v4 (-1) (if (v_X7_goes M v4 (-1) v1 0) = 1 then 1 else 0) (M.1 2))) then v4 else v2))) (fun m33 : Int32 => kk (if v4 = v1 then v3 else (if v2 = (-1) then (if (v_X7_slowsAt M v1 v4 (-1) (if (v_X7_goes M v4 (-1) v1 0) = 1 then 1 else 0) (M.1 2)) = (-1) then 99 else (v_X7_slowsAt M v1 v4 (-1) (if (v_X7_goes M v4 (-1) v1 0) = 1 then 1 else 0) (M.1 2))) else (if v3 < (if (v_X7_slowsAt M v1 v4 (-1) (if (v_X7_goes M v4 (-1) v1 0) = 1 then 1 else 0) (M.1 2)) = (-1) then 99 else (v_X7_slowsAt M v1 v4 (-1) (if (v_X7_goes M v4 (-1) v1 0) = 1 then 1 else 0) (M.1 2))) then (if (v_X7_slowsAt M v1 v4 (-1) (if (v_X7_goes M v4 (-1) v1 0) = 1 then 1 else 0) (M.1 2)) = (-1) then 99 else (v_X7_slowsAt M v1 v4 (-1) (if (v_X7_goes M v4 (-1) v1 0) = 1 then 1 else 0) (M.1 2))) else v3))) (fun m34 : Int32 => v_X7_leader_r n M v1 m33 m34 (v4 + 1)))
def p_X7_leader_r : Nat → mT → Int32 → Int32 → Int32 → Int32 → Prop
  | 0, _, _, _, _, _ => False
  | n + 1, M, v1, v2, v3, v4 => if (M.1 0) ≤ v4 then True else (if v4 = v1 then True else (p_X7_goes M v4 (-1) v1 0) ∧ (p_X7_slowsAt M v1 v4 (-1) (if (v_X7_goes M v4 (-1) v1 0) = 1 then 1 else 0) (M.1 2))) ∧ (kk (if v4 = v1 then v2 else (if v2 = (-1) then v4 else (if v3 < (if (v_X7_slowsAt M v1 v4 (-1) (if (v_X7_goes M v4 (-1) v1 0) = 1 then 1 else 0) (M.1 2)) = (-1) then 99 else (v_X7_slowsAt M v1 v4 (-1) (if (v_X7_goes M v4 (-1) v1 0) = 1 then 1 else 0) (M.1 2))) then v4 else v2))) (fun m33 : Int32 => kk (if v4 = v1 then v3 else (if v2 = (-1) then (if (v_X7_slowsAt M v1 v4 (-1) (if (v_X7_goes M v4 (-1) v1 0) = 1 then 1 else 0) (M.1 2)) = (-1) then 99 else (v_X7_slowsAt M v1 v4 (-1) (if (v_X7_goes M v4 (-1) v1 0) = 1 then 1 else 0) (M.1 2))) else (if v3 < (if (v_X7_slowsAt M v1 v4 (-1) (if (v_X7_goes M v4 (-1) v1 0) = 1 then 1 else 0) (M.1 2)) = (-1) then 99 else (v_X7_slowsAt M v1 v4 (-1) (if (v_X7_goes M v4 (-1) v1 0) = 1 then 1 else 0) (M.1 2))) then (if (v_X7_slowsAt M v1 v4 (-1) (if (v_X7_goes M v4 (-1) v1 0) = 1 then 1 else 0) (M.1 2)) = (-1) then 99 else (v_X7_slowsAt M v1 v4 (-1) (if (v_X7_goes M v4 (-1) v1 0) = 1 then 1 else 0) (M.1 2))) else v3))) (fun m34 : Int32 => p_X7_leader_r n M v1 m33 m34 (v4 + 1))))
set_option maxHeartbeats 4000000 in
theorem w_X7_leader {G : zG} {Γ : zT} {a : Nat → Nat} {A : Nat → Prop} {res : Int32 × mT} {X : zX} (hw : wk X A Γ.2.2.1.1.heap) (hQ : zQ Γ (Qwi G (fun r w => r = res.1 ∧ w = mW G a res.2) A) 0 0 A) : ∀ n : Nat, (∀ (M : mT) (v1 : Int32) (v2 : Int32) (v3 : Int32) (v4 : Int32), p_X7_leader_r n M v1 v2 v3 v4 → v_X7_leader_r n M v1 v2 v3 v4 = res → Z k_X7_leader G Γ (wr G A Γ.2.2.1.1.heap (mW G a M)) 0 0 [(0, .ref (a 0)), (1, .int v1), (2, .int v2), (3, .int v3), (4, .int v4)] 21 []) := by
  intro n
  induction n with
  | zero => exact fun M v1 v2 v3 v4 hp => absurd hp (by rw [p_X7_leader_r]; exact not_false)
  | succ n ih =>
    intro M v1 v2 v3 v4 hp hv
    rw [p_X7_leader_r] at hp
    rw [v_X7_leader_r] at hv
    refine z_iload dX7_leader_21 rfl ?_
    refine z_aload_n dX7_leader_23 rfl ?_
    refine mg_0 (v := M.1 0) wr_P rfl rfl dX7_leader_24 ?_
    refine z_icmp_ge (tgt := 111) dX7_leader_27 (by decide) (fun c4 => ?_) (fun c4 => ?_)
    · have hp := ip_t hp c4; have hv := it_t hv c4
      refine z_iload_n dX7_leader_111 rfl ?_
      subst hv; exact z_iret_W hQ rfl rfl rfl ⟨rfl, rfl⟩ dX7_leader_112
    · have hp := ip_f hp c4; have hv := it_f hv c4
      refine z_iload dX7_leader_30 rfl ?_
      refine z_iload_n dX7_leader_32 rfl ?_
      obtain ⟨hpm, hp⟩ := hp
      have J35 : ∀ m33 : Int32, m33 = (if v4 = v1 then v2 else (if v2 = (-1) then v4 else (if v3 < (if (v_X7_slowsAt M v1 v4 (-1) (if (v_X7_goes M v4 (-1) v1 0) = 1 then 1 else 0) (M.1 2)) = (-1) then 99 else (v_X7_slowsAt M v1 v4 (-1) (if (v_X7_goes M v4 (-1) v1 0) = 1 then 1 else 0) (M.1 2))) then v4 else v2))) → ∀ m34 : Int32, m34 = (if v4 = v1 then v3 else (if v2 = (-1) then (if (v_X7_slowsAt M v1 v4 (-1) (if (v_X7_goes M v4 (-1) v1 0) = 1 then 1 else 0) (M.1 2)) = (-1) then 99 else (v_X7_slowsAt M v1 v4 (-1) (if (v_X7_goes M v4 (-1) v1 0) = 1 then 1 else 0) (M.1 2))) else (if v3 < (if (v_X7_slowsAt M v1 v4 (-1) (if (v_X7_goes M v4 (-1) v1 0) = 1 then 1 else 0) (M.1 2)) = (-1) then 99 else (v_X7_slowsAt M v1 v4 (-1) (if (v_X7_goes M v4 (-1) v1 0) = 1 then 1 else 0) (M.1 2))) then (if (v_X7_slowsAt M v1 v4 (-1) (if (v_X7_goes M v4 (-1) v1 0) = 1 then 1 else 0) (M.1 2)) = (-1) then 99 else (v_X7_slowsAt M v1 v4 (-1) (if (v_X7_goes M v4 (-1) v1 0) = 1 then 1 else 0) (M.1 2))) else v3))) → Z k_X7_leader G Γ (wr G A Γ.2.2.1.1.heap (mW G a M)) 0 0 [(0, .ref (a 0)), (1, .int v1), (2, .int m33), (3, .int m34), (4, .int v4)] 105 [] := by
        intro m33 em33 m34 em34
        have hp := kk_pq hp em33
        have hv := kk_vq hv em33
        clear em33
        have hp := kk_pq hp em34
        have hv := kk_vq hv em34
        clear em34
        refine z_iinc (v := v4 + 1) (lv' := [(4, .int (v4 + 1)), (0, .ref (a 0)), (1, .int v1), (2, .int m33), (3, .int m34)]) dX7_leader_105 4 rfl rfl (Nat.le_of_ble_eq_true rfl) rfl ?_
        refine z_goto (tgt := 21) dX7_leader_108 (by decide) ?_
        exact z_lv rfl ((ih) M v1 m33 m34 (v4 + 1) hp hv)
      refine z_icmp_ne (tgt := 39) dX7_leader_33 (by decide) (fun c20 => ?_) (fun c20 => ?_)
      · have hp := ip_f hpm c20
        refine z_aload_n dX7_leader_39 rfl ?_
        refine z_iload dX7_leader_40 rfl ?_
        refine z_iconst (v := (-1)) dX7_leader_42 rfl ?_
        refine z_iload_n dX7_leader_43 rfl ?_
        refine z_iconst (v := 0) dX7_leader_44 rfl ?_
        obtain ⟨q21, hp⟩ := hp
        refine z_cvi (c_X7_goes G a M v4 (-1) v1 0 q21) zc_X7_goes zv_X7_goes tw_m_RX7_229 (mrec wr_P) wr_P (zroom_of rfl) rfl (Nat.le_of_ble_eq_true rfl) dX7_leader_45 ?_
        refine z_iconst (v := 1) dX7_leader_48 rfl ?_
        have J36 : ∀ m23 : Int32, m23 = (if (v_X7_goes M v4 (-1) v1 0) = 1 then 1 else 0) → Z k_X7_leader G Γ (wr G A Γ.2.2.1.1.heap (mW G a M)) 0 0 [(0, .ref (a 0)), (1, .int v1), (2, .int v2), (3, .int v3), (4, .int v4)] 57 [.int m23] := by
          intro m23 em23
          rewrite [em23]; clear em23
          refine z_istore (lv' := [(5, .int (if (v_X7_goes M v4 (-1) v1 0) = 1 then 1 else 0)), (0, .ref (a 0)), (1, .int v1), (2, .int v2), (3, .int v3), (4, .int v4)]) dX7_leader_57 (Nat.le_of_ble_eq_true rfl) rfl ?_
          refine z_aload_n dX7_leader_59 rfl ?_
          refine z_iload_n dX7_leader_60 rfl ?_
          refine z_iload dX7_leader_61 rfl ?_
          refine z_iconst (v := (-1)) dX7_leader_63 rfl ?_
          refine z_iload dX7_leader_64 rfl ?_
          refine z_aload_n dX7_leader_66 rfl ?_
          refine mg_2 (v := M.1 2) wr_P rfl rfl dX7_leader_67 ?_
          have q24 := hp
          refine z_cvi (c_X7_slowsAt G a M v1 v4 (-1) (if (v_X7_goes M v4 (-1) v1 0) = 1 then 1 else 0) (M.1 2) q24) zc_X7_slowsAt zv_X7_slowsAt tw_m_RX7_204 (mrec wr_P) wr_P (zroom_of rfl) rfl (Nat.le_of_ble_eq_true rfl) dX7_leader_70 ?_
          refine z_istore (lv' := [(6, .int (v_X7_slowsAt M v1 v4 (-1) (if (v_X7_goes M v4 (-1) v1 0) = 1 then 1 else 0) (M.1 2))), (5, .int (if (v_X7_goes M v4 (-1) v1 0) = 1 then 1 else 0)), (0, .ref (a 0)), (1, .int v1), (2, .int v2), (3, .int v3), (4, .int v4)]) dX7_leader_73 (Nat.le_of_ble_eq_true rfl) rfl ?_
          refine z_iload dX7_leader_75 rfl ?_
          refine z_iconst (v := (-1)) dX7_leader_77 rfl ?_
          have J37 : ∀ m26 : Int32, m26 = (if (v_X7_slowsAt M v1 v4 (-1) (if (v_X7_goes M v4 (-1) v1 0) = 1 then 1 else 0) (M.1 2)) = (-1) then 99 else (v_X7_slowsAt M v1 v4 (-1) (if (v_X7_goes M v4 (-1) v1 0) = 1 then 1 else 0) (M.1 2))) → Z k_X7_leader G Γ (wr G A Γ.2.2.1.1.heap (mW G a M)) 0 0 [(6, .int m26), (5, .int (if (v_X7_goes M v4 (-1) v1 0) = 1 then 1 else 0)), (0, .ref (a 0)), (1, .int v1), (2, .int v2), (3, .int v3), (4, .int v4)] 85 [] := by
            intro m26 em26
            rewrite [em26]; clear em26
            refine z_iload_n dX7_leader_85 rfl ?_
            refine z_iconst (v := (-1)) dX7_leader_86 rfl ?_
            have J38 : ∀ m31 : Int32, m31 = (if v2 = (-1) then (if (v_X7_slowsAt M v1 v4 (-1) (if (v_X7_goes M v4 (-1) v1 0) = 1 then 1 else 0) (M.1 2)) = (-1) then 99 else (v_X7_slowsAt M v1 v4 (-1) (if (v_X7_goes M v4 (-1) v1 0) = 1 then 1 else 0) (M.1 2))) else (if v3 < (if (v_X7_slowsAt M v1 v4 (-1) (if (v_X7_goes M v4 (-1) v1 0) = 1 then 1 else 0) (M.1 2)) = (-1) then 99 else (v_X7_slowsAt M v1 v4 (-1) (if (v_X7_goes M v4 (-1) v1 0) = 1 then 1 else 0) (M.1 2))) then (if (v_X7_slowsAt M v1 v4 (-1) (if (v_X7_goes M v4 (-1) v1 0) = 1 then 1 else 0) (M.1 2)) = (-1) then 99 else (v_X7_slowsAt M v1 v4 (-1) (if (v_X7_goes M v4 (-1) v1 0) = 1 then 1 else 0) (M.1 2))) else v3)) → ∀ m32 : Int32, m32 = (if v2 = (-1) then v4 else (if v3 < (if (v_X7_slowsAt M v1 v4 (-1) (if (v_X7_goes M v4 (-1) v1 0) = 1 then 1 else 0) (M.1 2)) = (-1) then 99 else (v_X7_slowsAt M v1 v4 (-1) (if (v_X7_goes M v4 (-1) v1 0) = 1 then 1 else 0) (M.1 2))) then v4 else v2)) → Z k_X7_leader G Γ (wr G A Γ.2.2.1.1.heap (mW G a M)) 0 0 [(3, .int m31), (2, .int m32), (6, .int (if (v_X7_slowsAt M v1 v4 (-1) (if (v_X7_goes M v4 (-1) v1 0) = 1 then 1 else 0) (M.1 2)) = (-1) then 99 else (v_X7_slowsAt M v1 v4 (-1) (if (v_X7_goes M v4 (-1) v1 0) = 1 then 1 else 0) (M.1 2)))), (5, .int (if (v_X7_goes M v4 (-1) v1 0) = 1 then 1 else 0)), (0, .ref (a 0)), (1, .int v1), (4, .int v4)] 105 [] := by
              intro m31 em31 m32 em32
              rewrite [em31]; clear em31
              rewrite [em32]; clear em32
              exact z_lv rfl (J35 _ (if_neg c20).symm _ (if_neg c20).symm)
            refine z_icmp_eq (tgt := 99) dX7_leader_87 (by decide) (fun c27 => ?_) (fun c27 => ?_)
            · skip
              refine z_iload dX7_leader_99 rfl ?_
              refine z_istore_n (lv' := [(2, .int v4), (6, .int (if (v_X7_slowsAt M v1 v4 (-1) (if (v_X7_goes M v4 (-1) v1 0) = 1 then 1 else 0) (M.1 2)) = (-1) then 99 else (v_X7_slowsAt M v1 v4 (-1) (if (v_X7_goes M v4 (-1) v1 0) = 1 then 1 else 0) (M.1 2)))), (5, .int (if (v_X7_goes M v4 (-1) v1 0) = 1 then 1 else 0)), (0, .ref (a 0)), (1, .int v1), (3, .int v3), (4, .int v4)]) dX7_leader_101 (Nat.le_of_ble_eq_true rfl) rfl ?_
              refine z_iload dX7_leader_102 rfl ?_
              refine z_istore_n (lv' := [(3, .int (if (v_X7_slowsAt M v1 v4 (-1) (if (v_X7_goes M v4 (-1) v1 0) = 1 then 1 else 0) (M.1 2)) = (-1) then 99 else (v_X7_slowsAt M v1 v4 (-1) (if (v_X7_goes M v4 (-1) v1 0) = 1 then 1 else 0) (M.1 2)))), (2, .int v4), (6, .int (if (v_X7_slowsAt M v1 v4 (-1) (if (v_X7_goes M v4 (-1) v1 0) = 1 then 1 else 0) (M.1 2)) = (-1) then 99 else (v_X7_slowsAt M v1 v4 (-1) (if (v_X7_goes M v4 (-1) v1 0) = 1 then 1 else 0) (M.1 2)))), (5, .int (if (v_X7_goes M v4 (-1) v1 0) = 1 then 1 else 0)), (0, .ref (a 0)), (1, .int v1), (4, .int v4)]) dX7_leader_104 (Nat.le_of_ble_eq_true rfl) rfl ?_
              exact z_lv rfl (J38 _ (if_pos c27).symm _ (if_pos c27).symm)
            · skip
              refine z_iload dX7_leader_90 rfl ?_
              refine z_iload_n dX7_leader_92 rfl ?_
              have J39 : ∀ m29 : Int32, m29 = (if v3 < (if (v_X7_slowsAt M v1 v4 (-1) (if (v_X7_goes M v4 (-1) v1 0) = 1 then 1 else 0) (M.1 2)) = (-1) then 99 else (v_X7_slowsAt M v1 v4 (-1) (if (v_X7_goes M v4 (-1) v1 0) = 1 then 1 else 0) (M.1 2))) then (if (v_X7_slowsAt M v1 v4 (-1) (if (v_X7_goes M v4 (-1) v1 0) = 1 then 1 else 0) (M.1 2)) = (-1) then 99 else (v_X7_slowsAt M v1 v4 (-1) (if (v_X7_goes M v4 (-1) v1 0) = 1 then 1 else 0) (M.1 2))) else v3) → ∀ m30 : Int32, m30 = (if v3 < (if (v_X7_slowsAt M v1 v4 (-1) (if (v_X7_goes M v4 (-1) v1 0) = 1 then 1 else 0) (M.1 2)) = (-1) then 99 else (v_X7_slowsAt M v1 v4 (-1) (if (v_X7_goes M v4 (-1) v1 0) = 1 then 1 else 0) (M.1 2))) then v4 else v2) → Z k_X7_leader G Γ (wr G A Γ.2.2.1.1.heap (mW G a M)) 0 0 [(3, .int m29), (2, .int m30), (6, .int (if (v_X7_slowsAt M v1 v4 (-1) (if (v_X7_goes M v4 (-1) v1 0) = 1 then 1 else 0) (M.1 2)) = (-1) then 99 else (v_X7_slowsAt M v1 v4 (-1) (if (v_X7_goes M v4 (-1) v1 0) = 1 then 1 else 0) (M.1 2)))), (5, .int (if (v_X7_goes M v4 (-1) v1 0) = 1 then 1 else 0)), (0, .ref (a 0)), (1, .int v1), (4, .int v4)] 105 [] := by
                intro m29 em29 m30 em30
                rewrite [em29]; clear em29
                rewrite [em30]; clear em30
                exact z_lv rfl (J38 _ (if_neg c27).symm _ (if_neg c27).symm)
              refine z_icmp_gt (tgt := 99) dX7_leader_93 (by decide) (fun c28 => ?_) (fun c28 => ?_)
              · skip
                refine z_iload dX7_leader_99 rfl ?_
                refine z_istore_n (lv' := [(2, .int v4), (6, .int (if (v_X7_slowsAt M v1 v4 (-1) (if (v_X7_goes M v4 (-1) v1 0) = 1 then 1 else 0) (M.1 2)) = (-1) then 99 else (v_X7_slowsAt M v1 v4 (-1) (if (v_X7_goes M v4 (-1) v1 0) = 1 then 1 else 0) (M.1 2)))), (5, .int (if (v_X7_goes M v4 (-1) v1 0) = 1 then 1 else 0)), (0, .ref (a 0)), (1, .int v1), (3, .int v3), (4, .int v4)]) dX7_leader_101 (Nat.le_of_ble_eq_true rfl) rfl ?_
                refine z_iload dX7_leader_102 rfl ?_
                refine z_istore_n (lv' := [(3, .int (if (v_X7_slowsAt M v1 v4 (-1) (if (v_X7_goes M v4 (-1) v1 0) = 1 then 1 else 0) (M.1 2)) = (-1) then 99 else (v_X7_slowsAt M v1 v4 (-1) (if (v_X7_goes M v4 (-1) v1 0) = 1 then 1 else 0) (M.1 2)))), (2, .int v4), (6, .int (if (v_X7_slowsAt M v1 v4 (-1) (if (v_X7_goes M v4 (-1) v1 0) = 1 then 1 else 0) (M.1 2)) = (-1) then 99 else (v_X7_slowsAt M v1 v4 (-1) (if (v_X7_goes M v4 (-1) v1 0) = 1 then 1 else 0) (M.1 2)))), (5, .int (if (v_X7_goes M v4 (-1) v1 0) = 1 then 1 else 0)), (0, .ref (a 0)), (1, .int v1), (4, .int v4)]) dX7_leader_104 (Nat.le_of_ble_eq_true rfl) rfl ?_
                exact z_lv rfl (J39 _ (if_pos c28).symm _ (if_pos c28).symm)
              · skip
                refine z_goto (tgt := 105) dX7_leader_96 (by decide) ?_
                exact z_lv rfl (J39 _ (if_neg c28).symm _ (if_neg c28).symm)
          refine z_icmp_ne (tgt := 85) dX7_leader_78 (by decide) (fun c25 => ?_) (fun c25 => ?_)
          · skip
            exact z_lv rfl (J37 _ (if_neg c25).symm)
          · skip
            refine z_bipush (v := 99) dX7_leader_81 rfl ?_
            refine z_istore (lv' := [(6, .int 99), (5, .int (if (v_X7_goes M v4 (-1) v1 0) = 1 then 1 else 0)), (0, .ref (a 0)), (1, .int v1), (2, .int v2), (3, .int v3), (4, .int v4)]) dX7_leader_83 (Nat.le_of_ble_eq_true rfl) rfl ?_
            exact z_lv rfl (J37 _ (if_pos c25).symm)
        refine z_icmp_ne (tgt := 56) dX7_leader_49 (by decide) (fun c22 => ?_) (fun c22 => ?_)
        · skip
          refine z_iconst (v := 0) dX7_leader_56 rfl ?_
          exact z_lv rfl (J36 _ (if_neg c22).symm)
        · skip
          refine z_iconst (v := 1) dX7_leader_52 rfl ?_
          refine z_goto (tgt := 57) dX7_leader_53 (by decide) ?_
          exact z_lv rfl (J36 _ (if_pos c22).symm)
      · have hp := ip_t hpm c20
        refine z_goto (tgt := 105) dX7_leader_36 (by decide) ?_
        exact z_lv rfl (J35 _ (if_pos c20).symm _ (if_pos c20).symm)
def v_X7_leader (M : mT) (x1 : Int32) : Int32 × mT := if (v_X7_isComer M x1) = 0 then kk (v_X7_noTen M (-1)) (fun q3 : Int32 × mT => (q3.1, q3.2)) else v_X7_leader_r 200 M x1 (-1) 0 0
def p_X7_leader (M : mT) (x1 : Int32) : Prop := if (v_X7_isComer M x1) = 0 then p_X7_noTen M (-1) else p_X7_leader_r 200 M x1 (-1) 0 0
set_option maxHeartbeats 4000000 in
theorem c_X7_leader {l : Launch} (G : zG) (a : Nat → Nat) {X : zX} (hX : XOK X) (sz : Nat) (M : mT) (x1 : Int32) (hp : p_X7_leader M x1) : Met l yX7_leader (.code yX7_leader k_X7_leader.1 k_X7_leader.2.1 k_X7_leader.2.2.2.1 :: TS) k_X7_leader.2.2.2.2 (Pz G [.ref (a 0), .int x1] (Fw G X (mW G a M) sz)) (Qwi G (fun r w => r = (v_X7_leader M x1).1 ∧ w = mW G a (v_X7_leader M x1).2) (va_A (mW G a M) sz)) 0 0 (va_A (mW G a M) sz) := by
  refine zmet (by decide +kernel) rfl rfl (fun Γ hl0 hQ hN hF => ?_)
  refine z_start hX hF (fun hw => ?_)
  generalize va_A (mW G a M) sz = A at hQ hw ⊢
  obtain ⟨res, hv⟩ : ∃ res, v_X7_leader M x1 = res := ⟨_, rfl⟩
  rw [hv] at hQ
  unfold v_X7_leader at hv
  unfold p_X7_leader at hp
  show Z k_X7_leader G Γ _ 0 0 [(0, .ref (a 0)), (1, .int x1)] 0 []
  refine z_aload_n dX7_leader_0 rfl ?_
  refine z_iload_n dX7_leader_1 rfl ?_
  refine z_cvi (c_X7_isComer G a M x1 ) zc_X7_isComer zv_X7_isComer tw_m_RX7_110 (mrec wr_P) wr_P (zroom_of rfl) rfl (Nat.le_of_ble_eq_true rfl) dX7_leader_2 ?_
  refine z_if_ne (tgt := 14) dX7_leader_5 (by decide) (fun c1 => ?_) (fun c1 => ?_)
  · have hp := ip_f hp c1; have hv := it_f hv c1
    refine z_iconst (v := (-1)) dX7_leader_14 rfl ?_
    refine z_istore_n (lv' := [(2, .int (-1)), (0, .ref (a 0)), (1, .int x1)]) dX7_leader_15 (Nat.le_of_ble_eq_true rfl) rfl ?_
    refine z_iconst (v := 0) dX7_leader_16 rfl ?_
    refine z_istore_n (lv' := [(3, .int 0), (2, .int (-1)), (0, .ref (a 0)), (1, .int x1)]) dX7_leader_17 (Nat.le_of_ble_eq_true rfl) rfl ?_
    refine z_iconst (v := 0) dX7_leader_18 rfl ?_
    refine z_istore (lv' := [(4, .int 0), (3, .int 0), (2, .int (-1)), (0, .ref (a 0)), (1, .int x1)]) dX7_leader_19 (Nat.le_of_ble_eq_true rfl) rfl ?_
    exact z_lv rfl ((w_X7_leader hw hQ 200) M x1 (-1) 0 0 hp hv)
  · have hp := ip_t hp c1; have hv := it_t hv c1
    refine z_aload_n dX7_leader_8 rfl ?_
    refine z_iconst (v := (-1)) dX7_leader_9 rfl ?_
    have q2 := hp
    refine z_caviD hw (fun sz => c_X7_noTen G a hw.1 sz M (-1) q2) zc_X7_noTen zv_X7_noTen tw_m_RX7_211 (mrec wr_P) (zroom_of rfl) rfl (Nat.le_of_ble_eq_true rfl) dX7_leader_10 ?_
    suffices z40 : ∀ q3 : Int32 × mT, q3 = (v_X7_noTen M (-1)) → Z k_X7_leader G Γ (wr G A Γ.2.2.1.1.heap (mW G a q3.2)) 0 0 [(0, .ref (a 0)), (1, .int x1)] 13 [.int q3.1] from z40 _ rfl
    intro q3 hq3
    have hv := kk_vq hv hq3
    clear hq3
    subst hv; exact z_iret_W hQ rfl rfl rfl ⟨rfl, rfl⟩ dX7_leader_13
theorem dX7_rest_0 : decode cX7_rest 0 = .ok (.aload_n 0, 1) := by decide +kernel
theorem dX7_rest_1 : decode cX7_rest 1 = .ok (.iload_n 1, 1) := by decide +kernel
theorem dX7_rest_2 : decode cX7_rest 2 = .ok (.iconst 2, 1) := by decide +kernel
theorem dX7_rest_3 : decode cX7_rest 3 = .ok (.sipush 999, 3) := by decide +kernel
theorem dX7_rest_6 : decode cX7_rest 6 = .ok (.invokevirtual 116, 3) := by decide +kernel
theorem dX7_rest_9 : decode cX7_rest 9 = .ok (.ifCond .ne 10, 3) := by decide +kernel
theorem dX7_rest_12 : decode cX7_rest 12 = .ok (.aload_n 0, 1) := by decide +kernel
theorem dX7_rest_13 : decode cX7_rest 13 = .ok (.bipush (-6), 2) := by decide +kernel
theorem dX7_rest_15 : decode cX7_rest 15 = .ok (.invokevirtual 106, 3) := by decide +kernel
theorem dX7_rest_18 : decode cX7_rest 18 = .ok (.ireturn, 1) := by decide +kernel
theorem dX7_rest_19 : decode cX7_rest 19 = .ok (.iload_n 1, 1) := by decide +kernel
theorem dX7_rest_20 : decode cX7_rest 20 = .ok (.aload_n 0, 1) := by decide +kernel
theorem dX7_rest_21 : decode cX7_rest 21 = .ok (.getfield 13, 3) := by decide +kernel
theorem dX7_rest_24 : decode cX7_rest 24 = .ok (.if_icmp .gt 9, 3) := by decide +kernel
theorem dX7_rest_27 : decode cX7_rest 27 = .ok (.sipush 1000, 3) := by decide +kernel
theorem dX7_rest_30 : decode cX7_rest 30 = .ok (.goto 13, 3) := by decide +kernel
theorem dX7_rest_33 : decode cX7_rest 33 = .ok (.sipush 1000, 3) := by decide +kernel
theorem dX7_rest_36 : decode cX7_rest 36 = .ok (.aload_n 0, 1) := by decide +kernel
theorem dX7_rest_37 : decode cX7_rest 37 = .ok (.getfield 13, 3) := by decide +kernel
theorem dX7_rest_40 : decode cX7_rest 40 = .ok (.imul, 1) := by decide +kernel
theorem dX7_rest_41 : decode cX7_rest 41 = .ok (.iload_n 1, 1) := by decide +kernel
theorem dX7_rest_42 : decode cX7_rest 42 = .ok (.idiv, 1) := by decide +kernel
theorem dX7_rest_43 : decode cX7_rest 43 = .ok (.ireturn, 1) := by decide +kernel
abbrev k_X7_rest : zK := (cX7_rest, 2, RX7, (some .int), ({ frames := 1, cells := 0, slots := 0, locals := 23 } : Room))
theorem zc_X7_rest : zcal yX7_rest k_X7_rest.1 k_X7_rest.2.1 k_X7_rest.2.2.2.1 1 := ⟨tw_code_yX7_rest, tw_i_TollForHesitatorsModel, ⟨by decide +kernel, by decide +kernel⟩, by decide +kernel⟩
theorem zv_X7_rest : Cond.instanceMethod yX7_rest ∈ TS ∧ Cond.selects RX7 yX7_rest yX7_rest ∈ TS := ⟨tw_inst_yX7_rest, tw_s_yX7_rest⟩
def v_X7_rest (M : mT) (x1 : Int32) : Int32 × mT := if (v_X7_isFrom M x1 2 999) = 0 then kk (v_X7_no M (-6)) (fun q6 : Int32 × mT => (q6.1, q6.2)) else ((if (M.1 3) < x1 then (1000 * (M.1 3)) / x1 else 1000), M)
def p_X7_rest (M : mT) (x1 : Int32) : Prop := if (v_X7_isFrom M x1 2 999) = 0 then p_X7_no M (-6) else if (M.1 3) < x1 then ¬ x1 = 0 else True
set_option maxHeartbeats 4000000 in
theorem c_X7_rest {l : Launch} (G : zG) (a : Nat → Nat) {X : zX} (hX : XOK X) (sz : Nat) (M : mT) (x1 : Int32) (hp : p_X7_rest M x1) : Met l yX7_rest (.code yX7_rest k_X7_rest.1 k_X7_rest.2.1 k_X7_rest.2.2.2.1 :: TS) k_X7_rest.2.2.2.2 (Pz G [.ref (a 0), .int x1] (Fw G X (mW G a M) sz)) (Qwi G (fun r w => r = (v_X7_rest M x1).1 ∧ w = mW G a (v_X7_rest M x1).2) (va_A (mW G a M) sz)) 0 0 (va_A (mW G a M) sz) := by
  refine zmet (by decide +kernel) rfl rfl (fun Γ hl0 hQ hN hF => ?_)
  refine z_start hX hF (fun hw => ?_)
  generalize va_A (mW G a M) sz = A at hQ hw ⊢
  obtain ⟨res, hv⟩ : ∃ res, v_X7_rest M x1 = res := ⟨_, rfl⟩
  rw [hv] at hQ
  unfold v_X7_rest at hv
  unfold p_X7_rest at hp
  show Z k_X7_rest G Γ _ 0 0 [(0, .ref (a 0)), (1, .int x1)] 0 []
  refine z_aload_n dX7_rest_0 rfl ?_
  refine z_iload_n dX7_rest_1 rfl ?_
  refine z_iconst (v := 2) dX7_rest_2 rfl ?_
  refine z_sipush (v := 999) dX7_rest_3 rfl ?_
  refine z_cvi (c_X7_isFrom G a M x1 2 999 ) zc_X7_isFrom zv_X7_isFrom tw_m_RX7_116 (mrec wr_P) wr_P (zroom_of rfl) rfl (Nat.le_of_ble_eq_true rfl) dX7_rest_6 ?_
  refine z_if_ne (tgt := 19) dX7_rest_9 (by decide) (fun c1 => ?_) (fun c1 => ?_)
  · have hp := ip_f hp c1; have hv := it_f hv c1
    refine z_iload_n dX7_rest_19 rfl ?_
    refine z_aload_n dX7_rest_20 rfl ?_
    refine mg_3 (v := M.1 3) wr_P rfl rfl dX7_rest_21 ?_
    have hpm := hp
    have J7 : ∀ m4 : Int32, m4 = (if (M.1 3) < x1 then (1000 * (M.1 3)) / x1 else 1000) → Z k_X7_rest G Γ (wr G A Γ.2.2.1.1.heap (mW G a M)) 0 0 [(0, .ref (a 0)), (1, .int x1)] 43 [.int m4] := by
      intro m4 em4
      rewrite [em4]; clear em4
      subst hv; exact z_iret_W hQ rfl rfl rfl ⟨rfl, rfl⟩ dX7_rest_43
    refine z_icmp_gt (tgt := 33) dX7_rest_24 (by decide) (fun c2 => ?_) (fun c2 => ?_)
    · have hp := ip_t hpm c2
      refine z_sipush (v := 1000) dX7_rest_33 rfl ?_
      refine z_aload_n dX7_rest_36 rfl ?_
      refine mg_3 (v := M.1 3) wr_P rfl rfl dX7_rest_37 ?_
      refine z_imul dX7_rest_40 ?_
      refine z_iload_n dX7_rest_41 rfl ?_
      have q3 := hp
      refine z_idiv dX7_rest_42 q3 ?_
      exact z_lv rfl (J7 _ (if_pos c2).symm)
    · have hp := ip_f hpm c2
      refine z_sipush (v := 1000) dX7_rest_27 rfl ?_
      refine z_goto (tgt := 43) dX7_rest_30 (by decide) ?_
      exact z_lv rfl (J7 _ (if_neg c2).symm)
  · have hp := ip_t hp c1; have hv := it_t hv c1
    refine z_aload_n dX7_rest_12 rfl ?_
    refine z_bipush (v := (-6)) dX7_rest_13 rfl ?_
    have q5 := hp
    refine z_caviD hw (fun sz => c_X7_no G a hw.1 sz M (-6) q5) zc_X7_no zv_X7_no tw_m_RX7_106 (mrec wr_P) (zroom_of rfl) rfl (Nat.le_of_ble_eq_true rfl) dX7_rest_15 ?_
    suffices z8 : ∀ q6 : Int32 × mT, q6 = (v_X7_no M (-6)) → Z k_X7_rest G Γ (wr G A Γ.2.2.1.1.heap (mW G a q6.2)) 0 0 [(0, .ref (a 0)), (1, .int x1)] 18 [.int q6.1] from z8 _ rfl
    intro q6 hq6
    have hv := kk_vq hv hq6
    clear hq6
    subst hv; exact z_iret_W hQ rfl rfl rfl ⟨rfl, rfl⟩ dX7_rest_18
theorem dX7_painted_0 : decode cX7_painted 0 = .ok (.aload_n 0, 1) := by decide +kernel
theorem dX7_painted_1 : decode cX7_painted 1 = .ok (.iload_n 1, 1) := by decide +kernel
theorem dX7_painted_2 : decode cX7_painted 2 = .ok (.iconst 0, 1) := by decide +kernel
theorem dX7_painted_3 : decode cX7_painted 3 = .ok (.sipush 1000, 3) := by decide +kernel
theorem dX7_painted_6 : decode cX7_painted 6 = .ok (.invokevirtual 116, 3) := by decide +kernel
theorem dX7_painted_9 : decode cX7_painted 9 = .ok (.ifCond .eq 26, 3) := by decide +kernel
theorem dX7_painted_12 : decode cX7_painted 12 = .ok (.aload_n 0, 1) := by decide +kernel
theorem dX7_painted_13 : decode cX7_painted 13 = .ok (.iload_n 2, 1) := by decide +kernel
theorem dX7_painted_14 : decode cX7_painted 14 = .ok (.iconst 0, 1) := by decide +kernel
theorem dX7_painted_15 : decode cX7_painted 15 = .ok (.bipush 20, 2) := by decide +kernel
theorem dX7_painted_17 : decode cX7_painted 17 = .ok (.invokevirtual 116, 3) := by decide +kernel
theorem dX7_painted_20 : decode cX7_painted 20 = .ok (.ifCond .eq 15, 3) := by decide +kernel
theorem dX7_painted_23 : decode cX7_painted 23 = .ok (.aload_n 0, 1) := by decide +kernel
theorem dX7_painted_24 : decode cX7_painted 24 = .ok (.iload_n 3, 1) := by decide +kernel
theorem dX7_painted_25 : decode cX7_painted 25 = .ok (.iconst 0, 1) := by decide +kernel
theorem dX7_painted_26 : decode cX7_painted 26 = .ok (.sipush 1000, 3) := by decide +kernel
theorem dX7_painted_29 : decode cX7_painted 29 = .ok (.invokevirtual 116, 3) := by decide +kernel
theorem dX7_painted_32 : decode cX7_painted 32 = .ok (.ifCond .ne 10, 3) := by decide +kernel
theorem dX7_painted_35 : decode cX7_painted 35 = .ok (.aload_n 0, 1) := by decide +kernel
theorem dX7_painted_36 : decode cX7_painted 36 = .ok (.bipush (-6), 2) := by decide +kernel
theorem dX7_painted_38 : decode cX7_painted 38 = .ok (.invokevirtual 106, 3) := by decide +kernel
theorem dX7_painted_41 : decode cX7_painted 41 = .ok (.ireturn, 1) := by decide +kernel
theorem dX7_painted_42 : decode cX7_painted 42 = .ok (.sipush 1000, 3) := by decide +kernel
theorem dX7_painted_45 : decode cX7_painted 45 = .ok (.iload_n 1, 1) := by decide +kernel
theorem dX7_painted_46 : decode cX7_painted 46 = .ok (.imul, 1) := by decide +kernel
theorem dX7_painted_47 : decode cX7_painted 47 = .ok (.istore 4, 2) := by decide +kernel
theorem dX7_painted_49 : decode cX7_painted 49 = .ok (.sipush 1000, 3) := by decide +kernel
theorem dX7_painted_52 : decode cX7_painted 52 = .ok (.sipush 1000, 3) := by decide +kernel
theorem dX7_painted_55 : decode cX7_painted 55 = .ok (.iload_n 1, 1) := by decide +kernel
theorem dX7_painted_56 : decode cX7_painted 56 = .ok (.isub, 1) := by decide +kernel
theorem dX7_painted_57 : decode cX7_painted 57 = .ok (.imul, 1) := by decide +kernel
theorem dX7_painted_58 : decode cX7_painted 58 = .ok (.istore 5, 2) := by decide +kernel
theorem dX7_painted_60 : decode cX7_painted 60 = .ok (.iconst 0, 1) := by decide +kernel
theorem dX7_painted_61 : decode cX7_painted 61 = .ok (.istore 6, 2) := by decide +kernel
theorem dX7_painted_63 : decode cX7_painted 63 = .ok (.iload 6, 2) := by decide +kernel
theorem dX7_painted_65 : decode cX7_painted 65 = .ok (.iload_n 2, 1) := by decide +kernel
theorem dX7_painted_66 : decode cX7_painted 66 = .ok (.if_icmp .ge 22, 3) := by decide +kernel
theorem dX7_painted_69 : decode cX7_painted 69 = .ok (.iload 5, 2) := by decide +kernel
theorem dX7_painted_71 : decode cX7_painted 71 = .ok (.i2l, 1) := by decide +kernel
theorem dX7_painted_72 : decode cX7_painted 72 = .ok (.iload_n 3, 1) := by decide +kernel
theorem dX7_painted_73 : decode cX7_painted 73 = .ok (.i2l, 1) := by decide +kernel
theorem dX7_painted_74 : decode cX7_painted 74 = .ok (.lmul, 1) := by decide +kernel
theorem dX7_painted_75 : decode cX7_painted 75 = .ok (.ldc2_w 261, 3) := by decide +kernel
theorem dX7_painted_78 : decode cX7_painted 78 = .ok (.ldiv, 1) := by decide +kernel
theorem dX7_painted_79 : decode cX7_painted 79 = .ok (.l2i, 1) := by decide +kernel
theorem dX7_painted_80 : decode cX7_painted 80 = .ok (.istore 5, 2) := by decide +kernel
theorem dX7_painted_82 : decode cX7_painted 82 = .ok (.iinc 6 1, 3) := by decide +kernel
theorem dX7_painted_85 : decode cX7_painted 85 = .ok (.goto (-22), 3) := by decide +kernel
theorem dX7_painted_88 : decode cX7_painted 88 = .ok (.iload 4, 2) := by decide +kernel
theorem dX7_painted_90 : decode cX7_painted 90 = .ok (.iload 5, 2) := by decide +kernel
theorem dX7_painted_92 : decode cX7_painted 92 = .ok (.iadd, 1) := by decide +kernel
theorem dX7_painted_93 : decode cX7_painted 93 = .ok (.ifCond .ne 7, 3) := by decide +kernel
theorem dX7_painted_96 : decode cX7_painted 96 = .ok (.iconst 0, 1) := by decide +kernel
theorem dX7_painted_97 : decode cX7_painted 97 = .ok (.goto 18, 3) := by decide +kernel
theorem dX7_painted_100 : decode cX7_painted 100 = .ok (.ldc2_w 261, 3) := by decide +kernel
theorem dX7_painted_103 : decode cX7_painted 103 = .ok (.iload 4, 2) := by decide +kernel
theorem dX7_painted_105 : decode cX7_painted 105 = .ok (.i2l, 1) := by decide +kernel
theorem dX7_painted_106 : decode cX7_painted 106 = .ok (.lmul, 1) := by decide +kernel
theorem dX7_painted_107 : decode cX7_painted 107 = .ok (.iload 4, 2) := by decide +kernel
theorem dX7_painted_109 : decode cX7_painted 109 = .ok (.iload 5, 2) := by decide +kernel
theorem dX7_painted_111 : decode cX7_painted 111 = .ok (.iadd, 1) := by decide +kernel
theorem dX7_painted_112 : decode cX7_painted 112 = .ok (.i2l, 1) := by decide +kernel
theorem dX7_painted_113 : decode cX7_painted 113 = .ok (.ldiv, 1) := by decide +kernel
theorem dX7_painted_114 : decode cX7_painted 114 = .ok (.l2i, 1) := by decide +kernel
theorem dX7_painted_115 : decode cX7_painted 115 = .ok (.ireturn, 1) := by decide +kernel
abbrev k_X7_painted : zK := (cX7_painted, 7, RX7, (some .int), ({ frames := 1, cells := 0, slots := 0, locals := 23 } : Room))
theorem zc_X7_painted : zcal yX7_painted k_X7_painted.1 k_X7_painted.2.1 k_X7_painted.2.2.2.1 3 := ⟨tw_code_yX7_painted, tw_i_TollForHesitatorsModel, ⟨by decide +kernel, by decide +kernel⟩, by decide +kernel⟩
theorem zv_X7_painted : Cond.instanceMethod yX7_painted ∈ TS ∧ Cond.selects RX7 yX7_painted yX7_painted ∈ TS := ⟨tw_inst_yX7_painted, tw_s_yX7_painted⟩
def v_X7_painted_r : Nat → mT → Int32 → Int32 → Int32 → Int32 → Int32 → Int32 × mT
  | 0, M, _, _, _, _, _ => (0, M)
  | n + 1, M, v2, v3, v4, v5, v6 => if v2 ≤ v6 then ((if (v4 + v5) = 0 then 0 else ((1000 * v4.toInt64) / ((v4 + v5).toInt64)).toInt32), M) else v_X7_painted_r n M v2 v3 v4 (((v5.toInt64 * v3.toInt64) / 1000).toInt32) (v6 + 1)
def p_X7_painted_r : Nat → mT → Int32 → Int32 → Int32 → Int32 → Int32 → Prop
  | 0, _, _, _, _, _, _ => False
  | n + 1, M, v2, v3, v4, v5, v6 => if v2 ≤ v6 then if (v4 + v5) = 0 then True else ¬ ((v4 + v5).toInt64) = 0 else p_X7_painted_r n M v2 v3 v4 (((v5.toInt64 * v3.toInt64) / 1000).toInt32) (v6 + 1)
set_option maxHeartbeats 4000000 in
theorem w_X7_painted {G : zG} {Γ : zT} {a : Nat → Nat} {A : Nat → Prop} {res : Int32 × mT} {X : zX} (hw : wk X A Γ.2.2.1.1.heap) (hQ : zQ Γ (Qwi G (fun r w => r = res.1 ∧ w = mW G a res.2) A) 0 0 A) : ∀ n : Nat, (∀ (M : mT) (v2 : Int32) (v3 : Int32) (v4 : Int32) (v5 : Int32) (v6 : Int32), p_X7_painted_r n M v2 v3 v4 v5 v6 → v_X7_painted_r n M v2 v3 v4 v5 v6 = res → Z k_X7_painted G Γ (wr G A Γ.2.2.1.1.heap (mW G a M)) 0 0 [(0, .ref (a 0)), (2, .int v2), (3, .int v3), (4, .int v4), (5, .int v5), (6, .int v6)] 63 []) := by
  intro n
  induction n with
  | zero => exact fun M v2 v3 v4 v5 v6 hp => absurd hp (by rw [p_X7_painted_r]; exact not_false)
  | succ n ih =>
    intro M v2 v3 v4 v5 v6 hp hv
    rw [p_X7_painted_r] at hp
    rw [v_X7_painted_r] at hv
    refine z_iload dX7_painted_63 rfl ?_
    refine z_iload_n dX7_painted_65 rfl ?_
    refine z_icmp_ge (tgt := 88) dX7_painted_66 (by decide) (fun c10 => ?_) (fun c10 => ?_)
    · have hp := ip_t hp c10; have hv := it_t hv c10
      refine z_iload dX7_painted_88 rfl ?_
      refine z_iload dX7_painted_90 rfl ?_
      refine z_iadd dX7_painted_92 ?_
      have hpm := hp
      have J14 : ∀ m13 : Int32, m13 = (if (v4 + v5) = 0 then 0 else ((1000 * v4.toInt64) / ((v4 + v5).toInt64)).toInt32) → Z k_X7_painted G Γ (wr G A Γ.2.2.1.1.heap (mW G a M)) 0 0 [(0, .ref (a 0)), (2, .int v2), (3, .int v3), (4, .int v4), (5, .int v5), (6, .int v6)] 115 [.int m13] := by
        intro m13 em13
        rewrite [em13]; clear em13
        subst hv; exact z_iret_W hQ rfl rfl rfl ⟨rfl, rfl⟩ dX7_painted_115
      refine z_if_ne (tgt := 100) dX7_painted_93 (by decide) (fun c11 => ?_) (fun c11 => ?_)
      · have hp := ip_f hpm c11
        refine z_ldc2 tw_l_RX7_261 dX7_painted_100 ?_
        refine z_iload dX7_painted_103 rfl ?_
        refine z_i2l dX7_painted_105 ?_
        refine z_lmul dX7_painted_106 ?_
        refine z_iload dX7_painted_107 rfl ?_
        refine z_iload dX7_painted_109 rfl ?_
        refine z_iadd dX7_painted_111 ?_
        refine z_i2l dX7_painted_112 ?_
        have q12 := hp
        refine z_ldiv dX7_painted_113 q12 ?_
        refine z_l2i dX7_painted_114 ?_
        exact z_lv rfl (J14 _ (if_neg c11).symm)
      · have hp := ip_t hpm c11
        refine z_iconst (v := 0) dX7_painted_96 rfl ?_
        refine z_goto (tgt := 115) dX7_painted_97 (by decide) ?_
        exact z_lv rfl (J14 _ (if_pos c11).symm)
    · have hp := ip_f hp c10; have hv := it_f hv c10
      refine z_iload dX7_painted_69 rfl ?_
      refine z_i2l dX7_painted_71 ?_
      refine z_iload_n dX7_painted_72 rfl ?_
      refine z_i2l dX7_painted_73 ?_
      refine z_lmul dX7_painted_74 ?_
      refine z_ldc2 tw_l_RX7_261 dX7_painted_75 ?_
      refine z_ldiv dX7_painted_78 (by decide) ?_
      refine z_l2i dX7_painted_79 ?_
      refine z_istore (lv' := [(5, .int (((v5.toInt64 * v3.toInt64) / 1000).toInt32)), (0, .ref (a 0)), (2, .int v2), (3, .int v3), (4, .int v4), (6, .int v6)]) dX7_painted_80 (Nat.le_of_ble_eq_true rfl) rfl ?_
      refine z_iinc (v := v6 + 1) (lv' := [(6, .int (v6 + 1)), (5, .int (((v5.toInt64 * v3.toInt64) / 1000).toInt32)), (0, .ref (a 0)), (2, .int v2), (3, .int v3), (4, .int v4)]) dX7_painted_82 5 rfl rfl (Nat.le_of_ble_eq_true rfl) rfl ?_
      refine z_goto (tgt := 63) dX7_painted_85 (by decide) ?_
      exact z_lv rfl ((ih) M v2 v3 v4 (((v5.toInt64 * v3.toInt64) / 1000).toInt32) (v6 + 1) hp hv)
def v_X7_painted (M : mT) (x1 : Int32) (x2 : Int32) (x3 : Int32) : Int32 × mT := if (v_X7_isFrom M x1 0 1000) = 0 then kk (v_X7_no M (-6)) (fun q3 : Int32 × mT => (q3.1, q3.2)) else if (v_X7_isFrom M x2 0 20) = 0 then kk (v_X7_no M (-6)) (fun q6 : Int32 × mT => (q6.1, q6.2)) else if (v_X7_isFrom M x3 0 1000) = 0 then kk (v_X7_no M (-6)) (fun q9 : Int32 × mT => (q9.1, q9.2)) else v_X7_painted_r 200 M x2 x3 (1000 * x1) (1000 * (1000 - x1)) 0
def p_X7_painted (M : mT) (x1 : Int32) (x2 : Int32) (x3 : Int32) : Prop := if (v_X7_isFrom M x1 0 1000) = 0 then p_X7_no M (-6) else if (v_X7_isFrom M x2 0 20) = 0 then p_X7_no M (-6) else if (v_X7_isFrom M x3 0 1000) = 0 then p_X7_no M (-6) else p_X7_painted_r 200 M x2 x3 (1000 * x1) (1000 * (1000 - x1)) 0
set_option maxHeartbeats 4000000 in
theorem c_X7_painted {l : Launch} (G : zG) (a : Nat → Nat) {X : zX} (hX : XOK X) (sz : Nat) (M : mT) (x1 : Int32) (x2 : Int32) (x3 : Int32) (hp : p_X7_painted M x1 x2 x3) : Met l yX7_painted (.code yX7_painted k_X7_painted.1 k_X7_painted.2.1 k_X7_painted.2.2.2.1 :: TS) k_X7_painted.2.2.2.2 (Pz G [.ref (a 0), .int x1, .int x2, .int x3] (Fw G X (mW G a M) sz)) (Qwi G (fun r w => r = (v_X7_painted M x1 x2 x3).1 ∧ w = mW G a (v_X7_painted M x1 x2 x3).2) (va_A (mW G a M) sz)) 0 0 (va_A (mW G a M) sz) := by
  refine zmet (by decide +kernel) rfl rfl (fun Γ hl0 hQ hN hF => ?_)
  refine z_start hX hF (fun hw => ?_)
  generalize va_A (mW G a M) sz = A at hQ hw ⊢
  obtain ⟨res, hv⟩ : ∃ res, v_X7_painted M x1 x2 x3 = res := ⟨_, rfl⟩
  rw [hv] at hQ
  unfold v_X7_painted at hv
  unfold p_X7_painted at hp
  show Z k_X7_painted G Γ _ 0 0 [(0, .ref (a 0)), (1, .int x1), (2, .int x2), (3, .int x3)] 0 []
  refine z_aload_n dX7_painted_0 rfl ?_
  refine z_iload_n dX7_painted_1 rfl ?_
  refine z_iconst (v := 0) dX7_painted_2 rfl ?_
  refine z_sipush (v := 1000) dX7_painted_3 rfl ?_
  refine z_cvi (c_X7_isFrom G a M x1 0 1000 ) zc_X7_isFrom zv_X7_isFrom tw_m_RX7_116 (mrec wr_P) wr_P (zroom_of rfl) rfl (Nat.le_of_ble_eq_true rfl) dX7_painted_6 ?_
  refine z_if_eq (tgt := 35) dX7_painted_9 (by decide) (fun c1 => ?_) (fun c1 => ?_)
  · have hp := ip_t hp c1; have hv := it_t hv c1
    refine z_aload_n dX7_painted_35 rfl ?_
    refine z_bipush (v := (-6)) dX7_painted_36 rfl ?_
    have q2 := hp
    refine z_caviD hw (fun sz => c_X7_no G a hw.1 sz M (-6) q2) zc_X7_no zv_X7_no tw_m_RX7_106 (mrec wr_P) (zroom_of rfl) rfl (Nat.le_of_ble_eq_true rfl) dX7_painted_38 ?_
    suffices z15 : ∀ q3 : Int32 × mT, q3 = (v_X7_no M (-6)) → Z k_X7_painted G Γ (wr G A Γ.2.2.1.1.heap (mW G a q3.2)) 0 0 [(0, .ref (a 0)), (1, .int x1), (2, .int x2), (3, .int x3)] 41 [.int q3.1] from z15 _ rfl
    intro q3 hq3
    have hv := kk_vq hv hq3
    clear hq3
    subst hv; exact z_iret_W hQ rfl rfl rfl ⟨rfl, rfl⟩ dX7_painted_41
  · have hp := ip_f hp c1; have hv := it_f hv c1
    refine z_aload_n dX7_painted_12 rfl ?_
    refine z_iload_n dX7_painted_13 rfl ?_
    refine z_iconst (v := 0) dX7_painted_14 rfl ?_
    refine z_bipush (v := 20) dX7_painted_15 rfl ?_
    refine z_cvi (c_X7_isFrom G a M x2 0 20 ) zc_X7_isFrom zv_X7_isFrom tw_m_RX7_116 (mrec wr_P) wr_P (zroom_of rfl) rfl (Nat.le_of_ble_eq_true rfl) dX7_painted_17 ?_
    refine z_if_eq (tgt := 35) dX7_painted_20 (by decide) (fun c4 => ?_) (fun c4 => ?_)
    · have hp := ip_t hp c4; have hv := it_t hv c4
      refine z_aload_n dX7_painted_35 rfl ?_
      refine z_bipush (v := (-6)) dX7_painted_36 rfl ?_
      have q5 := hp
      refine z_caviD hw (fun sz => c_X7_no G a hw.1 sz M (-6) q5) zc_X7_no zv_X7_no tw_m_RX7_106 (mrec wr_P) (zroom_of rfl) rfl (Nat.le_of_ble_eq_true rfl) dX7_painted_38 ?_
      suffices z16 : ∀ q6 : Int32 × mT, q6 = (v_X7_no M (-6)) → Z k_X7_painted G Γ (wr G A Γ.2.2.1.1.heap (mW G a q6.2)) 0 0 [(0, .ref (a 0)), (1, .int x1), (2, .int x2), (3, .int x3)] 41 [.int q6.1] from z16 _ rfl
      intro q6 hq6
      have hv := kk_vq hv hq6
      clear hq6
      subst hv; exact z_iret_W hQ rfl rfl rfl ⟨rfl, rfl⟩ dX7_painted_41
    · have hp := ip_f hp c4; have hv := it_f hv c4
      refine z_aload_n dX7_painted_23 rfl ?_
      refine z_iload_n dX7_painted_24 rfl ?_
      refine z_iconst (v := 0) dX7_painted_25 rfl ?_
      refine z_sipush (v := 1000) dX7_painted_26 rfl ?_
      refine z_cvi (c_X7_isFrom G a M x3 0 1000 ) zc_X7_isFrom zv_X7_isFrom tw_m_RX7_116 (mrec wr_P) wr_P (zroom_of rfl) rfl (Nat.le_of_ble_eq_true rfl) dX7_painted_29 ?_
      refine z_if_ne (tgt := 42) dX7_painted_32 (by decide) (fun c7 => ?_) (fun c7 => ?_)
      · have hp := ip_f hp c7; have hv := it_f hv c7
        refine z_sipush (v := 1000) dX7_painted_42 rfl ?_
        refine z_iload_n dX7_painted_45 rfl ?_
        refine z_imul dX7_painted_46 ?_
        refine z_istore (lv' := [(4, .int (1000 * x1)), (0, .ref (a 0)), (1, .int x1), (2, .int x2), (3, .int x3)]) dX7_painted_47 (Nat.le_of_ble_eq_true rfl) rfl ?_
        refine z_sipush (v := 1000) dX7_painted_49 rfl ?_
        refine z_sipush (v := 1000) dX7_painted_52 rfl ?_
        refine z_iload_n dX7_painted_55 rfl ?_
        refine z_isub dX7_painted_56 ?_
        refine z_imul dX7_painted_57 ?_
        refine z_istore (lv' := [(5, .int (1000 * (1000 - x1))), (4, .int (1000 * x1)), (0, .ref (a 0)), (1, .int x1), (2, .int x2), (3, .int x3)]) dX7_painted_58 (Nat.le_of_ble_eq_true rfl) rfl ?_
        refine z_iconst (v := 0) dX7_painted_60 rfl ?_
        refine z_istore (lv' := [(6, .int 0), (5, .int (1000 * (1000 - x1))), (4, .int (1000 * x1)), (0, .ref (a 0)), (1, .int x1), (2, .int x2), (3, .int x3)]) dX7_painted_61 (Nat.le_of_ble_eq_true rfl) rfl ?_
        exact z_lv rfl ((w_X7_painted hw hQ 200) M x2 x3 (1000 * x1) (1000 * (1000 - x1)) 0 hp hv)
      · have hp := ip_t hp c7; have hv := it_t hv c7
        refine z_aload_n dX7_painted_35 rfl ?_
        refine z_bipush (v := (-6)) dX7_painted_36 rfl ?_
        have q8 := hp
        refine z_caviD hw (fun sz => c_X7_no G a hw.1 sz M (-6) q8) zc_X7_no zv_X7_no tw_m_RX7_106 (mrec wr_P) (zroom_of rfl) rfl (Nat.le_of_ble_eq_true rfl) dX7_painted_38 ?_
        suffices z17 : ∀ q9 : Int32 × mT, q9 = (v_X7_no M (-6)) → Z k_X7_painted G Γ (wr G A Γ.2.2.1.1.heap (mW G a q9.2)) 0 0 [(0, .ref (a 0)), (1, .int x1), (2, .int x2), (3, .int x3)] 41 [.int q9.1] from z17 _ rfl
        intro q9 hq9
        have hv := kk_vq hv hq9
        clear hq9
        subst hv; exact z_iret_W hQ rfl rfl rfl ⟨rfl, rfl⟩ dX7_painted_41
