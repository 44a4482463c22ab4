theorem dX7_walking_0 : decode cX7_walking 0 = .ok (.aload_n 0, 1) := by decide +kernel
theorem dX7_walking_1 : decode cX7_walking 1 = .ok (.getfield 29, 3) := by decide +kernel
theorem dX7_walking_4 : decode cX7_walking 4 = .ok (.iload_n 1, 1) := by decide +kernel
theorem dX7_walking_5 : decode cX7_walking 5 = .ok (.iaload, 1) := by decide +kernel
theorem dX7_walking_6 : decode cX7_walking 6 = .ok (.istore_n 3, 1) := by decide +kernel
theorem dX7_walking_7 : decode cX7_walking 7 = .ok (.iload_n 2, 1) := by decide +kernel
theorem dX7_walking_8 : decode cX7_walking 8 = .ok (.istore 4, 2) := by decide +kernel
theorem dX7_walking_10 : decode cX7_walking 10 = .ok (.iload_n 3, 1) := by decide +kernel
theorem dX7_walking_11 : decode cX7_walking 11 = .ok (.iconst 3, 1) := by decide +kernel
theorem dX7_walking_12 : decode cX7_walking 12 = .ok (.if_icmp .ne 14, 3) := by decide +kernel
theorem dX7_walking_15 : decode cX7_walking 15 = .ok (.aload_n 0, 1) := by decide +kernel
theorem dX7_walking_16 : decode cX7_walking 16 = .ok (.bipush 40, 2) := by decide +kernel
theorem dX7_walking_18 : decode cX7_walking 18 = .ok (.invokevirtual 282, 3) := by decide +kernel
theorem dX7_walking_21 : decode cX7_walking 21 = .ok (.iload_n 2, 1) := by decide +kernel
theorem dX7_walking_22 : decode cX7_walking 22 = .ok (.iconst 1, 1) := by decide +kernel
theorem dX7_walking_23 : decode cX7_walking 23 = .ok (.iadd, 1) := by decide +kernel
theorem dX7_walking_24 : decode cX7_walking 24 = .ok (.istore 4, 2) := by decide +kernel
theorem dX7_walking_26 : decode cX7_walking 26 = .ok (.iload_n 3, 1) := by decide +kernel
theorem dX7_walking_27 : decode cX7_walking 27 = .ok (.iconst 2, 1) := by decide +kernel
theorem dX7_walking_28 : decode cX7_walking 28 = .ok (.if_icmp .eq 8, 3) := by decide +kernel
theorem dX7_walking_31 : decode cX7_walking 31 = .ok (.iload_n 3, 1) := by decide +kernel
theorem dX7_walking_32 : decode cX7_walking 32 = .ok (.iconst 3, 1) := by decide +kernel
theorem dX7_walking_33 : decode cX7_walking 33 = .ok (.if_icmp .ne 9, 3) := by decide +kernel
theorem dX7_walking_36 : decode cX7_walking 36 = .ok (.aload_n 0, 1) := by decide +kernel
theorem dX7_walking_37 : decode cX7_walking 37 = .ok (.bipush 30, 2) := by decide +kernel
theorem dX7_walking_39 : decode cX7_walking 39 = .ok (.invokevirtual 282, 3) := by decide +kernel
theorem dX7_walking_42 : decode cX7_walking 42 = .ok (.iload_n 3, 1) := by decide +kernel
theorem dX7_walking_43 : decode cX7_walking 43 = .ok (.iconst 4, 1) := by decide +kernel
theorem dX7_walking_44 : decode cX7_walking 44 = .ok (.if_icmp .eq 8, 3) := by decide +kernel
theorem dX7_walking_47 : decode cX7_walking 47 = .ok (.iload_n 3, 1) := by decide +kernel
theorem dX7_walking_48 : decode cX7_walking 48 = .ok (.iconst 5, 1) := by decide +kernel
theorem dX7_walking_49 : decode cX7_walking 49 = .ok (.if_icmp .ne 9, 3) := by decide +kernel
theorem dX7_walking_52 : decode cX7_walking 52 = .ok (.aload_n 0, 1) := by decide +kernel
theorem dX7_walking_53 : decode cX7_walking 53 = .ok (.bipush 51, 2) := by decide +kernel
theorem dX7_walking_55 : decode cX7_walking 55 = .ok (.invokevirtual 282, 3) := by decide +kernel
theorem dX7_walking_58 : decode cX7_walking 58 = .ok (.iload_n 3, 1) := by decide +kernel
theorem dX7_walking_59 : decode cX7_walking 59 = .ok (.bipush 6, 2) := by decide +kernel
theorem dX7_walking_61 : decode cX7_walking 61 = .ok (.if_icmp .ne 9, 3) := by decide +kernel
theorem dX7_walking_64 : decode cX7_walking 64 = .ok (.aload_n 0, 1) := by decide +kernel
theorem dX7_walking_65 : decode cX7_walking 65 = .ok (.bipush 70, 2) := by decide +kernel
theorem dX7_walking_67 : decode cX7_walking 67 = .ok (.invokevirtual 282, 3) := by decide +kernel
theorem dX7_walking_70 : decode cX7_walking 70 = .ok (.aload_n 0, 1) := by decide +kernel
theorem dX7_walking_71 : decode cX7_walking 71 = .ok (.bipush 10, 2) := by decide +kernel
theorem dX7_walking_73 : decode cX7_walking 73 = .ok (.invokevirtual 282, 3) := by decide +kernel
theorem dX7_walking_76 : decode cX7_walking 76 = .ok (.iload 4, 2) := by decide +kernel
theorem dX7_walking_78 : decode cX7_walking 78 = .ok (.iload_n 1, 1) := by decide +kernel
theorem dX7_walking_79 : decode cX7_walking 79 = .ok (.iadd, 1) := by decide +kernel
theorem dX7_walking_80 : decode cX7_walking 80 = .ok (.istore 5, 2) := by decide +kernel
theorem dX7_walking_82 : decode cX7_walking 82 = .ok (.iload_n 3, 1) := by decide +kernel
theorem dX7_walking_83 : decode cX7_walking 83 = .ok (.iconst 2, 1) := by decide +kernel
theorem dX7_walking_84 : decode cX7_walking 84 = .ok (.if_icmp .eq 8, 3) := by decide +kernel
theorem dX7_walking_87 : decode cX7_walking 87 = .ok (.iload_n 3, 1) := by decide +kernel
theorem dX7_walking_88 : decode cX7_walking 88 = .ok (.iconst 3, 1) := by decide +kernel
theorem dX7_walking_89 : decode cX7_walking 89 = .ok (.if_icmp .ne 8, 3) := by decide +kernel
theorem dX7_walking_92 : decode cX7_walking 92 = .ok (.iload 5, 2) := by decide +kernel
theorem dX7_walking_94 : decode cX7_walking 94 = .ok (.iconst 3, 1) := by decide +kernel
theorem dX7_walking_95 : decode cX7_walking 95 = .ok (.imul, 1) := by decide +kernel
theorem dX7_walking_96 : decode cX7_walking 96 = .ok (.ireturn, 1) := by decide +kernel
theorem dX7_walking_97 : decode cX7_walking 97 = .ok (.iload_n 3, 1) := by decide +kernel
theorem dX7_walking_98 : decode cX7_walking 98 = .ok (.iconst 4, 1) := by decide +kernel
theorem dX7_walking_99 : decode cX7_walking 99 = .ok (.if_icmp .eq 8, 3) := by decide +kernel
theorem dX7_walking_102 : decode cX7_walking 102 = .ok (.iload_n 3, 1) := by decide +kernel
theorem dX7_walking_103 : decode cX7_walking 103 = .ok (.iconst 5, 1) := by decide +kernel
theorem dX7_walking_104 : decode cX7_walking 104 = .ok (.if_icmp .ne 8, 3) := by decide +kernel
theorem dX7_walking_107 : decode cX7_walking 107 = .ok (.iload 5, 2) := by decide +kernel
theorem dX7_walking_109 : decode cX7_walking 109 = .ok (.iload_n 1, 1) := by decide +kernel
theorem dX7_walking_110 : decode cX7_walking 110 = .ok (.isub, 1) := by decide +kernel
theorem dX7_walking_111 : decode cX7_walking 111 = .ok (.ireturn, 1) := by decide +kernel
theorem dX7_walking_112 : decode cX7_walking 112 = .ok (.iload_n 3, 1) := by decide +kernel
theorem dX7_walking_113 : decode cX7_walking 113 = .ok (.bipush 6, 2) := by decide +kernel
theorem dX7_walking_115 : decode cX7_walking 115 = .ok (.if_icmp .ne 10, 3) := by decide +kernel
theorem dX7_walking_118 : decode cX7_walking 118 = .ok (.iload 5, 2) := by decide +kernel
theorem dX7_walking_120 : decode cX7_walking 120 = .ok (.iconst 2, 1) := by decide +kernel
theorem dX7_walking_121 : decode cX7_walking 121 = .ok (.imul, 1) := by decide +kernel
theorem dX7_walking_122 : decode cX7_walking 122 = .ok (.goto 5, 3) := by decide +kernel
theorem dX7_walking_125 : decode cX7_walking 125 = .ok (.iload 5, 2) := by decide +kernel
theorem dX7_walking_127 : decode cX7_walking 127 = .ok (.ireturn, 1) := by decide +kernel
abbrev k_X7_walking : zK := (cX7_walking, 6, RX7, (some .int), ({ frames := 1, cells := 0, slots := 0, locals := 21 } : Room))
theorem zc_X7_walking : zcal yX7_walking k_X7_walking.1 k_X7_walking.2.1 k_X7_walking.2.2.2.1 2 := ⟨tw_code_yX7_walking, tw_i_TollForHesitatorsModel, ⟨by decide +kernel, by decide +kernel⟩, by decide +kernel⟩
theorem zv_X7_walking : Cond.instanceMethod yX7_walking ∈ TS ∧ Cond.selects RX7 yX7_walking yX7_walking ∈ TS := ⟨tw_inst_yX7_walking, tw_s_yX7_walking⟩
def v_X7_walking (M : mT) (x1 : Int32) (x2 : Int32) : Int32 × mT := kk (if ((M.2.1 9) x1.toNatClampNeg) = 3 then v_X7_body M 40 else M) (fun M5 : mT => kk (if ((M.2.1 9) x1.toNatClampNeg) = 2 then v_X7_body M5 30 else (if ((M.2.1 9) x1.toNatClampNeg) = 3 then v_X7_body M5 30 else M5)) (fun M14 : mT => kk (if ((M.2.1 9) x1.toNatClampNeg) = 4 then v_X7_body M14 51 else (if ((M.2.1 9) x1.toNatClampNeg) = 5 then v_X7_body M14 51 else M14)) (fun M22 : mT => kk (if ((M.2.1 9) x1.toNatClampNeg) = 6 then v_X7_body M22 70 else M22) (fun M26 : mT => kk (v_X7_body M26 10) (fun q28 : mT => if ((M.2.1 9) x1.toNatClampNeg) = 2 then (((if ((M.2.1 9) x1.toNatClampNeg) = 3 then x2 + 1 else x2) + x1) * 3, q28) else if ((M.2.1 9) x1.toNatClampNeg) = 3 then (((if ((M.2.1 9) x1.toNatClampNeg) = 3 then x2 + 1 else x2) + x1) * 3, q28) else if ((M.2.1 9) x1.toNatClampNeg) = 4 then (((if ((M.2.1 9) x1.toNatClampNeg) = 3 then x2 + 1 else x2) + x1) - x1, q28) else if ((M.2.1 9) x1.toNatClampNeg) = 5 then (((if ((M.2.1 9) x1.toNatClampNeg) = 3 then x2 + 1 else x2) + x1) - x1, q28) else ((if ((M.2.1 9) x1.toNatClampNeg) = 6 then ((if ((M.2.1 9) x1.toNatClampNeg) = 3 then x2 + 1 else x2) + x1) * 2 else (if ((M.2.1 9) x1.toNatClampNeg) = 3 then x2 + 1 else x2) + x1), q28))))))
def p_X7_walking (M : mT) (x1 : Int32) (x2 : Int32) : Prop := vp_in x1 7 ∧ ((if ((M.2.1 9) x1.toNatClampNeg) = 3 then p_X7_body M 40 else True) ∧ (kk (if ((M.2.1 9) x1.toNatClampNeg) = 3 then v_X7_body M 40 else M) (fun M5 : mT => (if ((M.2.1 9) x1.toNatClampNeg) = 2 then p_X7_body M5 30 else if ((M.2.1 9) x1.toNatClampNeg) = 3 then p_X7_body M5 30 else True) ∧ (kk (if ((M.2.1 9) x1.toNatClampNeg) = 2 then v_X7_body M5 30 else (if ((M.2.1 9) x1.toNatClampNeg) = 3 then v_X7_body M5 30 else M5)) (fun M14 : mT => (if ((M.2.1 9) x1.toNatClampNeg) = 4 then p_X7_body M14 51 else if ((M.2.1 9) x1.toNatClampNeg) = 5 then p_X7_body M14 51 else True) ∧ (kk (if ((M.2.1 9) x1.toNatClampNeg) = 4 then v_X7_body M14 51 else (if ((M.2.1 9) x1.toNatClampNeg) = 5 then v_X7_body M14 51 else M14)) (fun M22 : mT => (if ((M.2.1 9) x1.toNatClampNeg) = 6 then p_X7_body M22 70 else True) ∧ (kk (if ((M.2.1 9) x1.toNatClampNeg) = 6 then v_X7_body M22 70 else M22) (fun M26 : mT => p_X7_body M26 10)))))))))
set_option maxHeartbeats 4000000 in
theorem c_X7_walking {l : Launch} (G : zG) (a : Nat → Nat) {X : zX} (hX : XOK X) (sz : Nat) (M : mT) (x1 : Int32) (x2 : Int32) (hp : p_X7_walking M x1 x2) : Met l yX7_walking (.code yX7_walking k_X7_walking.1 k_X7_walking.2.1 k_X7_walking.2.2.2.1 :: TS) k_X7_walking.2.2.2.2 (Pz G [.ref (a 0), .int x1, .int x2] (Fw G X (mW G a M) sz)) (Qwi G (fun r w => r = (v_X7_walking M x1 x2).1 ∧ w = mW G a (v_X7_walking M x1 x2).2) (va_A (mW G a M) sz)) 0 0 (va_A (mW G a M) sz) := by
  refine zmet (by decide +kernel) rfl rfl (fun Γ hl0 hQ hN hF => ?_)
  refine z_start hX hF (fun hw => ?_)
  generalize va_A (mW G a M) sz = A at hQ hw ⊢
  obtain ⟨res, hv⟩ : ∃ res, v_X7_walking M x1 x2 = res := ⟨_, rfl⟩
  rw [hv] at hQ
  unfold v_X7_walking at hv
  unfold p_X7_walking at hp
  show Z k_X7_walking G Γ _ 0 0 [(0, .ref (a 0)), (1, .int x1), (2, .int x2)] 0 []
  refine z_aload_n dX7_walking_0 rfl ?_
  refine mg_9 wr_P rfl dX7_walking_1 ?_
  refine z_iload_n dX7_walking_4 rfl ?_
  obtain ⟨q1, hp⟩ := hp
  refine ml_9 (x := (M.2.1 9) x1.toNatClampNeg) wr_P q1 rfl dX7_walking_5 ?_
  refine z_istore_n (lv' := [(3, .int ((M.2.1 9) x1.toNatClampNeg)), (0, .ref (a 0)), (1, .int x1), (2, .int x2)]) dX7_walking_6 (Nat.le_of_ble_eq_true rfl) rfl ?_
  refine z_iload_n dX7_walking_7 rfl ?_
  refine z_istore (lv' := [(4, .int x2), (3, .int ((M.2.1 9) x1.toNatClampNeg)), (0, .ref (a 0)), (1, .int x1), (2, .int x2)]) dX7_walking_8 (Nat.le_of_ble_eq_true rfl) rfl ?_
  refine z_iload_n dX7_walking_10 rfl ?_
  refine z_iconst (v := 3) dX7_walking_11 rfl ?_
  obtain ⟨hpm, hp⟩ := hp
  have J35 : ∀ M5 : mT, M5 = (if ((M.2.1 9) x1.toNatClampNeg) = 3 then v_X7_body M 40 else M) → ∀ m6 : Int32, m6 = (if ((M.2.1 9) x1.toNatClampNeg) = 3 then x2 + 1 else x2) → Z k_X7_walking G Γ (wr G A Γ.2.2.1.1.heap (mW G a M5)) 0 0 [(4, .int m6), (3, .int ((M.2.1 9) x1.toNatClampNeg)), (0, .ref (a 0)), (1, .int x1), (2, .int x2)] 26 [] := by
    intro M5 eM5 m6 em6
    have hp := kk_pq hp eM5
    have hv := kk_vq hv eM5
    clear eM5
    rewrite [em6]; clear em6
    refine z_iload_n dX7_walking_26 rfl ?_
    refine z_iconst (v := 2) dX7_walking_27 rfl ?_
    obtain ⟨hpm, hp⟩ := hp
    have J36 : ∀ M14 : mT, M14 = (if ((M.2.1 9) x1.toNatClampNeg) = 2 then v_X7_body M5 30 else (if ((M.2.1 9) x1.toNatClampNeg) = 3 then v_X7_body M5 30 else M5)) → Z k_X7_walking G Γ (wr G A Γ.2.2.1.1.heap (mW G a M14)) 0 0 [(4, .int (if ((M.2.1 9) x1.toNatClampNeg) = 3 then x2 + 1 else x2)), (3, .int ((M.2.1 9) x1.toNatClampNeg)), (0, .ref (a 0)), (1, .int x1), (2, .int x2)] 42 [] := by
      intro M14 eM14
      have hp := kk_pq hp eM14
      have hv := kk_vq hv eM14
      clear eM14
      refine z_iload_n dX7_walking_42 rfl ?_
      refine z_iconst (v := 4) dX7_walking_43 rfl ?_
      obtain ⟨hpm, hp⟩ := hp
      have J37 : ∀ M22 : mT, M22 = (if ((M.2.1 9) x1.toNatClampNeg) = 4 then v_X7_body M14 51 else (if ((M.2.1 9) x1.toNatClampNeg) = 5 then v_X7_body M14 51 else M14)) → Z k_X7_walking G Γ (wr G A Γ.2.2.1.1.heap (mW G a M22)) 0 0 [(4, .int (if ((M.2.1 9) x1.toNatClampNeg) = 3 then x2 + 1 else x2)), (3, .int ((M.2.1 9) x1.toNatClampNeg)), (0, .ref (a 0)), (1, .int x1), (2, .int x2)] 58 [] := by
        intro M22 eM22
        have hp := kk_pq hp eM22
        have hv := kk_vq hv eM22
        clear eM22
        refine z_iload_n dX7_walking_58 rfl ?_
        refine z_bipush (v := 6) dX7_walking_59 rfl ?_
        obtain ⟨hpm, hp⟩ := hp
        have J38 : ∀ M26 : mT, M26 = (if ((M.2.1 9) x1.toNatClampNeg) = 6 then v_X7_body M22 70 else M22) → Z k_X7_walking G Γ (wr G A Γ.2.2.1.1.heap (mW G a M26)) 0 0 [(4, .int (if ((M.2.1 9) x1.toNatClampNeg) = 3 then x2 + 1 else x2)), (3, .int ((M.2.1 9) x1.toNatClampNeg)), (0, .ref (a 0)), (1, .int x1), (2, .int x2)] 70 [] := by
          intro M26 eM26
          have hp := kk_pq hp eM26
          have hv := kk_vq hv eM26
          clear eM26
          refine z_aload_n dX7_walking_70 rfl ?_
          refine z_bipush (v := 10) dX7_walking_71 rfl ?_
          have q27 := hp
          refine z_cavvD hw (fun sz => c_X7_body G a hw.1 sz M26 10 q27) zc_X7_body zv_X7_body tw_m_RX7_282 (mrec wr_P) (zroom_of rfl) rfl (Nat.le_of_ble_eq_true rfl) dX7_walking_73 ?_
          suffices z39 : ∀ q28 : mT, q28 = (v_X7_body M26 10) → Z k_X7_walking G Γ (wr G A Γ.2.2.1.1.heap (mW G a q28)) 0 0 [(4, .int (if ((M.2.1 9) x1.toNatClampNeg) = 3 then x2 + 1 else x2)), (3, .int ((M.2.1 9) x1.toNatClampNeg)), (0, .ref (a 0)), (1, .int x1), (2, .int x2)] 76 [] from z39 _ rfl
          intro q28 hq28
          have hv := kk_vq hv hq28
          clear hq28
          refine z_iload dX7_walking_76 rfl ?_
          refine z_iload_n dX7_walking_78 rfl ?_
          refine z_iadd dX7_walking_79 ?_
          refine z_istore (lv' := [(5, .int ((if ((M.2.1 9) x1.toNatClampNeg) = 3 then x2 + 1 else x2) + x1)), (4, .int (if ((M.2.1 9) x1.toNatClampNeg) = 3 then x2 + 1 else x2)), (3, .int ((M.2.1 9) x1.toNatClampNeg)), (0, .ref (a 0)), (1, .int x1), (2, .int x2)]) dX7_walking_80 (Nat.le_of_ble_eq_true rfl) rfl ?_
          refine z_iload_n dX7_walking_82 rfl ?_
          refine z_iconst (v := 2) dX7_walking_83 rfl ?_
          refine z_icmp_eq (tgt := 92) dX7_walking_84 (by decide) (fun c29 => ?_) (fun c29 => ?_)
          · have hv := it_t hv c29
            refine z_iload dX7_walking_92 rfl ?_
            refine z_iconst (v := 3) dX7_walking_94 rfl ?_
            refine z_imul dX7_walking_95 ?_
            subst hv; exact z_iret_W hQ rfl rfl rfl ⟨rfl, rfl⟩ dX7_walking_96
          · have hv := it_f hv c29
            refine z_iload_n dX7_walking_87 rfl ?_
            refine z_iconst (v := 3) dX7_walking_88 rfl ?_
            refine z_icmp_ne (tgt := 97) dX7_walking_89 (by decide) (fun c30 => ?_) (fun c30 => ?_)
            · have hv := it_f hv c30
              refine z_iload_n dX7_walking_97 rfl ?_
              refine z_iconst (v := 4) dX7_walking_98 rfl ?_
              refine z_icmp_eq (tgt := 107) dX7_walking_99 (by decide) (fun c31 => ?_) (fun c31 => ?_)
              · have hv := it_t hv c31
                refine z_iload dX7_walking_107 rfl ?_
                refine z_iload_n dX7_walking_109 rfl ?_
                refine z_isub dX7_walking_110 ?_
                subst hv; exact z_iret_W hQ rfl rfl rfl ⟨rfl, rfl⟩ dX7_walking_111
              · have hv := it_f hv c31
                refine z_iload_n dX7_walking_102 rfl ?_
                refine z_iconst (v := 5) dX7_walking_103 rfl ?_
                refine z_icmp_ne (tgt := 112) dX7_walking_104 (by decide) (fun c32 => ?_) (fun c32 => ?_)
                · have hv := it_f hv c32
                  refine z_iload_n dX7_walking_112 rfl ?_
                  refine z_bipush (v := 6) dX7_walking_113 rfl ?_
                  have J40 : ∀ m34 : Int32, m34 = (if ((M.2.1 9) x1.toNatClampNeg) = 6 then ((if ((M.2.1 9) x1.toNatClampNeg) = 3 then x2 + 1 else x2) + x1) * 2 else (if ((M.2.1 9) x1.toNatClampNeg) = 3 then x2 + 1 else x2) + x1) → Z k_X7_walking G Γ (wr G A Γ.2.2.1.1.heap (mW G a q28)) 0 0 [(5, .int ((if ((M.2.1 9) x1.toNatClampNeg) = 3 then x2 + 1 else x2) + x1)), (4, .int (if ((M.2.1 9) x1.toNatClampNeg) = 3 then x2 + 1 else x2)), (3, .int ((M.2.1 9) x1.toNatClampNeg)), (0, .ref (a 0)), (1, .int x1), (2, .int x2)] 127 [.int m34] := by
                    intro m34 em34
                    rewrite [em34]; clear em34
                    subst hv; exact z_iret_W hQ rfl rfl rfl ⟨rfl, rfl⟩ dX7_walking_127
                  refine z_icmp_ne (tgt := 125) dX7_walking_115 (by decide) (fun c33 => ?_) (fun c33 => ?_)
                  · skip
                    refine z_iload dX7_walking_125 rfl ?_
                    exact z_lv rfl (J40 _ (if_neg c33).symm)
                  · skip
                    refine z_iload dX7_walking_118 rfl ?_
                    refine z_iconst (v := 2) dX7_walking_120 rfl ?_
                    refine z_imul dX7_walking_121 ?_
                    refine z_goto (tgt := 127) dX7_walking_122 (by decide) ?_
                    exact z_lv rfl (J40 _ (if_pos c33).symm)
                · have hv := it_t hv c32
                  refine z_iload dX7_walking_107 rfl ?_
                  refine z_iload_n dX7_walking_109 rfl ?_
                  refine z_isub dX7_walking_110 ?_
                  subst hv; exact z_iret_W hQ rfl rfl rfl ⟨rfl, rfl⟩ dX7_walking_111
            · have hv := it_t hv c30
              refine z_iload dX7_walking_92 rfl ?_
              refine z_iconst (v := 3) dX7_walking_94 rfl ?_
              refine z_imul dX7_walking_95 ?_
              subst hv; exact z_iret_W hQ rfl rfl rfl ⟨rfl, rfl⟩ dX7_walking_96
        refine z_icmp_ne (tgt := 70) dX7_walking_61 (by decide) (fun c23 => ?_) (fun c23 => ?_)
        · have hp := ip_f hpm c23
          exact z_lv rfl (J38 _ (if_neg c23).symm)
        · have hp := ip_t hpm c23
          refine z_aload_n dX7_walking_64 rfl ?_
          refine z_bipush (v := 70) dX7_walking_65 rfl ?_
          have q24 := hp
          refine z_cavvD hw (fun sz => c_X7_body G a hw.1 sz M22 70 q24) zc_X7_body zv_X7_body tw_m_RX7_282 (mrec wr_P) (zroom_of rfl) rfl (Nat.le_of_ble_eq_true rfl) dX7_walking_67 ?_
          exact z_lv rfl (J38 _ (if_pos c23).symm)
      refine z_icmp_eq (tgt := 52) dX7_walking_44 (by decide) (fun c15 => ?_) (fun c15 => ?_)
      · have hp := ip_t hpm c15
        refine z_aload_n dX7_walking_52 rfl ?_
        refine z_bipush (v := 51) dX7_walking_53 rfl ?_
        have q16 := hp
        refine z_cavvD hw (fun sz => c_X7_body G a hw.1 sz M14 51 q16) zc_X7_body zv_X7_body tw_m_RX7_282 (mrec wr_P) (zroom_of rfl) rfl (Nat.le_of_ble_eq_true rfl) dX7_walking_55 ?_
        exact z_lv rfl (J37 _ (if_pos c15).symm)
      · have hp := ip_f hpm c15
        refine z_iload_n dX7_walking_47 rfl ?_
        refine z_iconst (v := 5) dX7_walking_48 rfl ?_
        have hpm := hp
        have J41 : ∀ M21 : mT, M21 = (if ((M.2.1 9) x1.toNatClampNeg) = 5 then v_X7_body M14 51 else M14) → Z k_X7_walking G Γ (wr G A Γ.2.2.1.1.heap (mW G a M21)) 0 0 [(4, .int (if ((M.2.1 9) x1.toNatClampNeg) = 3 then x2 + 1 else x2)), (3, .int ((M.2.1 9) x1.toNatClampNeg)), (0, .ref (a 0)), (1, .int x1), (2, .int x2)] 58 [] := by
          intro M21 eM21
          rewrite [eM21]; clear eM21
          exact z_lv rfl (J37 _ (if_neg c15).symm)
        refine z_icmp_ne (tgt := 58) dX7_walking_49 (by decide) (fun c18 => ?_) (fun c18 => ?_)
        · have hp := ip_f hpm c18
          exact z_lv rfl (J41 _ (if_neg c18).symm)
        · have hp := ip_t hpm c18
          refine z_aload_n dX7_walking_52 rfl ?_
          refine z_bipush (v := 51) dX7_walking_53 rfl ?_
          have q19 := hp
          refine z_cavvD hw (fun sz => c_X7_body G a hw.1 sz M14 51 q19) zc_X7_body zv_X7_body tw_m_RX7_282 (mrec wr_P) (zroom_of rfl) rfl (Nat.le_of_ble_eq_true rfl) dX7_walking_55 ?_
          exact z_lv rfl (J41 _ (if_pos c18).symm)
    refine z_icmp_eq (tgt := 36) dX7_walking_28 (by decide) (fun c7 => ?_) (fun c7 => ?_)
    · have hp := ip_t hpm c7
      refine z_aload_n dX7_walking_36 rfl ?_
      refine z_bipush (v := 30) dX7_walking_37 rfl ?_
      have q8 := hp
      refine z_cavvD hw (fun sz => c_X7_body G a hw.1 sz M5 30 q8) zc_X7_body zv_X7_body tw_m_RX7_282 (mrec wr_P) (zroom_of rfl) rfl (Nat.le_of_ble_eq_true rfl) dX7_walking_39 ?_
      exact z_lv rfl (J36 _ (if_pos c7).symm)
    · have hp := ip_f hpm c7
      refine z_iload_n dX7_walking_31 rfl ?_
      refine z_iconst (v := 3) dX7_walking_32 rfl ?_
      have hpm := hp
      have J42 : ∀ M13 : mT, M13 = (if ((M.2.1 9) x1.toNatClampNeg) = 3 then v_X7_body M5 30 else M5) → Z k_X7_walking G Γ (wr G A Γ.2.2.1.1.heap (mW G a M13)) 0 0 [(4, .int (if ((M.2.1 9) x1.toNatClampNeg) = 3 then x2 + 1 else x2)), (3, .int ((M.2.1 9) x1.toNatClampNeg)), (0, .ref (a 0)), (1, .int x1), (2, .int x2)] 42 [] := by
        intro M13 eM13
        rewrite [eM13]; clear eM13
        exact z_lv rfl (J36 _ (if_neg c7).symm)
      refine z_icmp_ne (tgt := 42) dX7_walking_33 (by decide) (fun c10 => ?_) (fun c10 => ?_)
      · have hp := ip_f hpm c10
        exact z_lv rfl (J42 _ (if_neg c10).symm)
      · have hp := ip_t hpm c10
        refine z_aload_n dX7_walking_36 rfl ?_
        refine z_bipush (v := 30) dX7_walking_37 rfl ?_
        have q11 := hp
        refine z_cavvD hw (fun sz => c_X7_body G a hw.1 sz M5 30 q11) zc_X7_body zv_X7_body tw_m_RX7_282 (mrec wr_P) (zroom_of rfl) rfl (Nat.le_of_ble_eq_true rfl) dX7_walking_39 ?_
        exact z_lv rfl (J42 _ (if_pos c10).symm)
  refine z_icmp_ne (tgt := 26) dX7_walking_12 (by decide) (fun c2 => ?_) (fun c2 => ?_)
  · have hp := ip_f hpm c2
    exact z_lv rfl (J35 _ (if_neg c2).symm _ (if_neg c2).symm)
  · have hp := ip_t hpm c2
    refine z_aload_n dX7_walking_15 rfl ?_
    refine z_bipush (v := 40) dX7_walking_16 rfl ?_
    have q3 := hp
    refine z_cavvD hw (fun sz => c_X7_body G a hw.1 sz M 40 q3) zc_X7_body zv_X7_body tw_m_RX7_282 (mrec wr_P) (zroom_of rfl) rfl (Nat.le_of_ble_eq_true rfl) dX7_walking_18 ?_
    refine z_iload_n dX7_walking_21 rfl ?_
    refine z_iconst (v := 1) dX7_walking_22 rfl ?_
    refine z_iadd dX7_walking_23 ?_
    refine z_istore (lv' := [(4, .int (x2 + 1)), (3, .int ((M.2.1 9) x1.toNatClampNeg)), (0, .ref (a 0)), (1, .int x1), (2, .int x2)]) dX7_walking_24 (Nat.le_of_ble_eq_true rfl) rfl ?_
    exact z_lv rfl (J35 _ (if_pos c2).symm _ (if_pos c2).symm)
theorem dX7_looking_0 : decode cX7_looking 0 = .ok (.iload_n 2, 1) := by decide +kernel
theorem dX7_looking_1 : decode cX7_looking 1 = .ok (.istore_n 3, 1) := by decide +kernel
theorem dX7_looking_2 : decode cX7_looking 2 = .ok (.aload_n 0, 1) := by decide +kernel
theorem dX7_looking_3 : decode cX7_looking 3 = .ok (.getfield 29, 3) := by decide +kernel
theorem dX7_looking_6 : decode cX7_looking 6 = .ok (.iload_n 1, 1) := by decide +kernel
theorem dX7_looking_7 : decode cX7_looking 7 = .ok (.iaload, 1) := by decide +kernel
theorem dX7_looking_8 : decode cX7_looking 8 = .ok (.bipush 6, 2) := by decide +kernel
theorem dX7_looking_10 : decode cX7_looking 10 = .ok (.if_icmp .ne 18, 3) := by decide +kernel
theorem dX7_looking_13 : decode cX7_looking 13 = .ok (.aload_n 0, 1) := by decide +kernel
theorem dX7_looking_14 : decode cX7_looking 14 = .ok (.bipush 71, 2) := by decide +kernel
theorem dX7_looking_16 : decode cX7_looking 16 = .ok (.invokevirtual 282, 3) := by decide +kernel
theorem dX7_looking_19 : decode cX7_looking 19 = .ok (.iload_n 2, 1) := by decide +kernel
theorem dX7_looking_20 : decode cX7_looking 20 = .ok (.aload_n 0, 1) := by decide +kernel
theorem dX7_looking_21 : decode cX7_looking 21 = .ok (.getfield 32, 3) := by decide +kernel
theorem dX7_looking_24 : decode cX7_looking 24 = .ok (.iload_n 1, 1) := by decide +kernel
theorem dX7_looking_25 : decode cX7_looking 25 = .ok (.iaload, 1) := by decide +kernel
theorem dX7_looking_26 : decode cX7_looking 26 = .ok (.isub, 1) := by decide +kernel
theorem dX7_looking_27 : decode cX7_looking 27 = .ok (.istore_n 3, 1) := by decide +kernel
theorem dX7_looking_28 : decode cX7_looking 28 = .ok (.aload_n 0, 1) := by decide +kernel
theorem dX7_looking_29 : decode cX7_looking 29 = .ok (.iload_n 1, 1) := by decide +kernel
theorem dX7_looking_30 : decode cX7_looking 30 = .ok (.invokevirtual 190, 3) := by decide +kernel
theorem dX7_looking_33 : decode cX7_looking 33 = .ok (.ifCond .eq 9, 3) := by decide +kernel
theorem dX7_looking_36 : decode cX7_looking 36 = .ok (.aload_n 0, 1) := by decide +kernel
theorem dX7_looking_37 : decode cX7_looking 37 = .ok (.bipush 20, 2) := by decide +kernel
theorem dX7_looking_39 : decode cX7_looking 39 = .ok (.invokevirtual 282, 3) := by decide +kernel
theorem dX7_looking_42 : decode cX7_looking 42 = .ok (.aload_n 0, 1) := by decide +kernel
theorem dX7_looking_43 : decode cX7_looking 43 = .ok (.bipush 11, 2) := by decide +kernel
theorem dX7_looking_45 : decode cX7_looking 45 = .ok (.invokevirtual 282, 3) := by decide +kernel
theorem dX7_looking_48 : decode cX7_looking 48 = .ok (.aload_n 0, 1) := by decide +kernel
theorem dX7_looking_49 : decode cX7_looking 49 = .ok (.iload_n 1, 1) := by decide +kernel
theorem dX7_looking_50 : decode cX7_looking 50 = .ok (.iload_n 3, 1) := by decide +kernel
theorem dX7_looking_51 : decode cX7_looking 51 = .ok (.invokevirtual 285, 3) := by decide +kernel
theorem dX7_looking_54 : decode cX7_looking 54 = .ok (.iconst 2, 1) := by decide +kernel
theorem dX7_looking_55 : decode cX7_looking 55 = .ok (.imul, 1) := by decide +kernel
theorem dX7_looking_56 : decode cX7_looking 56 = .ok (.istore 4, 2) := by decide +kernel
theorem dX7_looking_58 : decode cX7_looking 58 = .ok (.aload_n 0, 1) := by decide +kernel
theorem dX7_looking_59 : decode cX7_looking 59 = .ok (.iload_n 1, 1) := by decide +kernel
theorem dX7_looking_60 : decode cX7_looking 60 = .ok (.invokevirtual 190, 3) := by decide +kernel
theorem dX7_looking_63 : decode cX7_looking 63 = .ok (.ifCond .eq 15, 3) := by decide +kernel
theorem dX7_looking_66 : decode cX7_looking 66 = .ok (.iload 4, 2) := by decide +kernel
theorem dX7_looking_68 : decode cX7_looking 68 = .ok (.aload_n 0, 1) := by decide +kernel
theorem dX7_looking_69 : decode cX7_looking 69 = .ok (.getfield 32, 3) := by decide +kernel
theorem dX7_looking_72 : decode cX7_looking 72 = .ok (.iload_n 1, 1) := by decide +kernel
theorem dX7_looking_73 : decode cX7_looking 73 = .ok (.iaload, 1) := by decide +kernel
theorem dX7_looking_74 : decode cX7_looking 74 = .ok (.iadd, 1) := by decide +kernel
theorem dX7_looking_75 : decode cX7_looking 75 = .ok (.goto 5, 3) := by decide +kernel
theorem dX7_looking_78 : decode cX7_looking 78 = .ok (.iload 4, 2) := by decide +kernel
theorem dX7_looking_80 : decode cX7_looking 80 = .ok (.ireturn, 1) := by decide +kernel
abbrev k_X7_looking : zK := (cX7_looking, 5, RX7, (some .int), ({ frames := 2, cells := 0, slots := 0, locals := 46 } : Room))
theorem zc_X7_looking : zcal yX7_looking k_X7_looking.1 k_X7_looking.2.1 k_X7_looking.2.2.2.1 2 := ⟨tw_code_yX7_looking, tw_i_TollForHesitatorsModel, ⟨by decide +kernel, by decide +kernel⟩, by decide +kernel⟩
theorem zv_X7_looking : Cond.instanceMethod yX7_looking ∈ TS ∧ Cond.selects RX7 yX7_looking yX7_looking ∈ TS := ⟨tw_inst_yX7_looking, tw_s_yX7_looking⟩
def v_X7_looking (M : mT) (x1 : Int32) (x2 : Int32) : Int32 × mT := kk (if ((M.2.1 9) x1.toNatClampNeg) = 6 then v_X7_body M 71 else M) (fun M6 : mT => kk (if ((M.2.1 9) x1.toNatClampNeg) = 6 then x2 - (((v_X7_body M 71).2.1 10) x1.toNatClampNeg) else x2) (fun m7 : Int32 => kk (if (v_X7_isBlind M6 x1) = 0 then M6 else v_X7_body M6 20) (fun M12 : mT => kk (v_X7_body M12 11) (fun q14 : mT => kk (v_X7_walking q14 x1 m7) (fun q16 : Int32 × mT => ((if (v_X7_isBlind q16.2 x1) = 0 then q16.1 * 2 else (q16.1 * 2) + ((q16.2.2.1 10) x1.toNatClampNeg)), q16.2))))))
def p_X7_looking (M : mT) (x1 : Int32) (x2 : Int32) : Prop := vp_in x1 7 ∧ ((if ((M.2.1 9) x1.toNatClampNeg) = 6 then p_X7_body M 71 ∧ vp_in x1 7 else True) ∧ (kk (if ((M.2.1 9) x1.toNatClampNeg) = 6 then v_X7_body M 71 else M) (fun M6 : mT => kk (if ((M.2.1 9) x1.toNatClampNeg) = 6 then x2 - (((v_X7_body M 71).2.1 10) x1.toNatClampNeg) else x2) (fun m7 : Int32 => p_X7_isBlind M6 x1 ∧ ((if (v_X7_isBlind M6 x1) = 0 then True else p_X7_body M6 20) ∧ (kk (if (v_X7_isBlind M6 x1) = 0 then M6 else v_X7_body M6 20) (fun M12 : mT => p_X7_body M12 11 ∧ (kk (v_X7_body M12 11) (fun q14 : mT => p_X7_walking q14 x1 m7 ∧ (kk (v_X7_walking q14 x1 m7) (fun q16 : Int32 × mT => p_X7_isBlind q16.2 x1 ∧ (if (v_X7_isBlind q16.2 x1) = 0 then True else vp_in x1 7))))))))))))
set_option maxHeartbeats 4000000 in
theorem c_X7_looking {l : Launch} (G : zG) (a : Nat → Nat) {X : zX} (hX : XOK X) (sz : Nat) (M : mT) (x1 : Int32) (x2 : Int32) (hp : p_X7_looking M x1 x2) : Met l yX7_looking (.code yX7_looking k_X7_looking.1 k_X7_looking.2.1 k_X7_looking.2.2.2.1 :: TS) k_X7_looking.2.2.2.2 (Pz G [.ref (a 0), .int x1, .int x2] (Fw G X (mW G a M) sz)) (Qwi G (fun r w => r = (v_X7_looking M x1 x2).1 ∧ w = mW G a (v_X7_looking M x1 x2).2) (va_A (mW G a M) sz)) 0 0 (va_A (mW G a M) sz) := by
  refine zmet (by decide +kernel) rfl rfl (fun Γ hl0 hQ hN hF => ?_)
  refine z_start hX hF (fun hw => ?_)
  generalize va_A (mW G a M) sz = A at hQ hw ⊢
  obtain ⟨res, hv⟩ : ∃ res, v_X7_looking M x1 x2 = res := ⟨_, rfl⟩
  rw [hv] at hQ
  unfold v_X7_looking at hv
  unfold p_X7_looking at hp
  show Z k_X7_looking G Γ _ 0 0 [(0, .ref (a 0)), (1, .int x1), (2, .int x2)] 0 []
  refine z_iload_n dX7_looking_0 rfl ?_
  refine z_istore_n (lv' := [(3, .int x2), (0, .ref (a 0)), (1, .int x1), (2, .int x2)]) dX7_looking_1 (Nat.le_of_ble_eq_true rfl) rfl ?_
  refine z_aload_n dX7_looking_2 rfl ?_
  refine mg_9 wr_P rfl dX7_looking_3 ?_
  refine z_iload_n dX7_looking_6 rfl ?_
  obtain ⟨q1, hp⟩ := hp
  refine ml_9 (x := (M.2.1 9) x1.toNatClampNeg) wr_P q1 rfl dX7_looking_7 ?_
  refine z_bipush (v := 6) dX7_looking_8 rfl ?_
  obtain ⟨hpm, hp⟩ := hp
  have J21 : ∀ M6 : mT, M6 = (if ((M.2.1 9) x1.toNatClampNeg) = 6 then v_X7_body M 71 else M) → ∀ m7 : Int32, m7 = (if ((M.2.1 9) x1.toNatClampNeg) = 6 then x2 - (((v_X7_body M 71).2.1 10) x1.toNatClampNeg) else x2) → Z k_X7_looking G Γ (wr G A Γ.2.2.1.1.heap (mW G a M6)) 0 0 [(3, .int m7), (0, .ref (a 0)), (1, .int x1), (2, .int x2)] 28 [] := by
    intro M6 eM6 m7 em7
    have hp := kk_pq hp eM6
    have hv := kk_vq hv eM6
    clear eM6
    have hp := kk_pq hp em7
    have hv := kk_vq hv em7
    clear em7
    refine z_aload_n dX7_looking_28 rfl ?_
    refine z_iload_n dX7_looking_29 rfl ?_
    obtain ⟨q8, hp⟩ := hp
    refine z_cvi (c_X7_isBlind G a M6 x1 q8) zc_X7_isBlind zv_X7_isBlind tw_m_RX7_190 (mrec wr_P) wr_P (zroom_of rfl) rfl (Nat.le_of_ble_eq_true rfl) dX7_looking_30 ?_
    obtain ⟨hpm, hp⟩ := hp
    have J22 : ∀ M12 : mT, M12 = (if (v_X7_isBlind M6 x1) = 0 then M6 else v_X7_body M6 20) → Z k_X7_looking G Γ (wr G A Γ.2.2.1.1.heap (mW G a M12)) 0 0 [(3, .int m7), (0, .ref (a 0)), (1, .int x1), (2, .int x2)] 42 [] := by
      intro M12 eM12
      have hp := kk_pq hp eM12
      have hv := kk_vq hv eM12
      clear eM12
      refine z_aload_n dX7_looking_42 rfl ?_
      refine z_bipush (v := 11) dX7_looking_43 rfl ?_
      obtain ⟨q13, hp⟩ := hp
      refine z_cavvD hw (fun sz => c_X7_body G a hw.1 sz M12 11 q13) zc_X7_body zv_X7_body tw_m_RX7_282 (mrec wr_P) (zroom_of rfl) rfl (Nat.le_of_ble_eq_true rfl) dX7_looking_45 ?_
      suffices z23 : ∀ q14 : mT, q14 = (v_X7_body M12 11) → Z k_X7_looking G Γ (wr G A Γ.2.2.1.1.heap (mW G a q14)) 0 0 [(3, .int m7), (0, .ref (a 0)), (1, .int x1), (2, .int x2)] 48 [] from z23 _ rfl
      intro q14 hq14
      have hp := kk_pq hp hq14
      have hv := kk_vq hv hq14
      clear hq14
      refine z_aload_n dX7_looking_48 rfl ?_
      refine z_iload_n dX7_looking_49 rfl ?_
      refine z_iload_n dX7_looking_50 rfl ?_
      obtain ⟨q15, hp⟩ := hp
      refine z_caviD hw (fun sz => c_X7_walking G a hw.1 sz q14 x1 m7 q15) zc_X7_walking zv_X7_walking tw_m_RX7_285 (mrec wr_P) (zroom_of rfl) rfl (Nat.le_of_ble_eq_true rfl) dX7_looking_51 ?_
      suffices z24 : ∀ q16 : Int32 × mT, q16 = (v_X7_walking q14 x1 m7) → Z k_X7_looking G Γ (wr G A Γ.2.2.1.1.heap (mW G a q16.2)) 0 0 [(3, .int m7), (0, .ref (a 0)), (1, .int x1), (2, .int x2)] 54 [.int q16.1] from z24 _ rfl
      intro q16 hq16
      have hp := kk_pq hp hq16
      have hv := kk_vq hv hq16
      clear hq16
      refine z_iconst (v := 2) dX7_looking_54 rfl ?_
      refine z_imul dX7_looking_55 ?_
      refine z_istore (lv' := [(4, .int (q16.1 * 2)), (3, .int m7), (0, .ref (a 0)), (1, .int x1), (2, .int x2)]) dX7_looking_56 (Nat.le_of_ble_eq_true rfl) rfl ?_
      refine z_aload_n dX7_looking_58 rfl ?_
      refine z_iload_n dX7_looking_59 rfl ?_
      obtain ⟨q17, hp⟩ := hp
      refine z_cvi (c_X7_isBlind G a q16.2 x1 q17) zc_X7_isBlind zv_X7_isBlind tw_m_RX7_190 (mrec wr_P) wr_P (zroom_of rfl) rfl (Nat.le_of_ble_eq_true rfl) dX7_looking_60 ?_
      have hpm := hp
      have J25 : ∀ m20 : Int32, m20 = (if (v_X7_isBlind q16.2 x1) = 0 then q16.1 * 2 else (q16.1 * 2) + ((q16.2.2.1 10) x1.toNatClampNeg)) → Z k_X7_looking G Γ (wr G A Γ.2.2.1.1.heap (mW G a q16.2)) 0 0 [(4, .int (q16.1 * 2)), (3, .int m7), (0, .ref (a 0)), (1, .int x1), (2, .int x2)] 80 [.int m20] := by
        intro m20 em20
        rewrite [em20]; clear em20
        subst hv; exact z_iret_W hQ rfl rfl rfl ⟨rfl, rfl⟩ dX7_looking_80
      refine z_if_eq (tgt := 78) dX7_looking_63 (by decide) (fun c18 => ?_) (fun c18 => ?_)
      · have hp := ip_t hpm c18
        refine z_iload dX7_looking_78 rfl ?_
        exact z_lv rfl (J25 _ (if_pos c18).symm)
      · have hp := ip_f hpm c18
        refine z_iload dX7_looking_66 rfl ?_
        refine z_aload_n dX7_looking_68 rfl ?_
        refine mg_10 wr_P rfl dX7_looking_69 ?_
        refine z_iload_n dX7_looking_72 rfl ?_
        have q19 := hp
        refine ml_10 (x := (q16.2.2.1 10) x1.toNatClampNeg) wr_P q19 rfl dX7_looking_73 ?_
        refine z_iadd dX7_looking_74 ?_
        refine z_goto (tgt := 80) dX7_looking_75 (by decide) ?_
        exact z_lv rfl (J25 _ (if_neg c18).symm)
    refine z_if_eq (tgt := 42) dX7_looking_33 (by decide) (fun c9 => ?_) (fun c9 => ?_)
    · have hp := ip_t hpm c9
      exact z_lv rfl (J22 _ (if_pos c9).symm)
    · have hp := ip_f hpm c9
      refine z_aload_n dX7_looking_36 rfl ?_
      refine z_bipush (v := 20) dX7_looking_37 rfl ?_
      have q10 := hp
      refine z_cavvD hw (fun sz => c_X7_body G a hw.1 sz M6 20 q10) zc_X7_body zv_X7_body tw_m_RX7_282 (mrec wr_P) (zroom_of rfl) rfl (Nat.le_of_ble_eq_true rfl) dX7_looking_39 ?_
      exact z_lv rfl (J22 _ (if_neg c9).symm)
  refine z_icmp_ne (tgt := 28) dX7_looking_10 (by decide) (fun c2 => ?_) (fun c2 => ?_)
  · have hp := ip_f hpm c2
    exact z_lv rfl (J21 _ (if_neg c2).symm _ (if_neg c2).symm)
  · have hp := ip_t hpm c2
    refine z_aload_n dX7_looking_13 rfl ?_
    refine z_bipush (v := 71) dX7_looking_14 rfl ?_
    obtain ⟨q3, hp⟩ := hp
    refine z_cavvD hw (fun sz => c_X7_body G a hw.1 sz M 71 q3) zc_X7_body zv_X7_body tw_m_RX7_282 (mrec wr_P) (zroom_of rfl) rfl (Nat.le_of_ble_eq_true rfl) dX7_looking_16 ?_
    refine z_iload_n dX7_looking_19 rfl ?_
    refine z_aload_n dX7_looking_20 rfl ?_
    refine mg_10 wr_P rfl dX7_looking_21 ?_
    refine z_iload_n dX7_looking_24 rfl ?_
    have q5 := hp
    refine ml_10 (x := ((v_X7_body M 71).2.1 10) x1.toNatClampNeg) wr_P q5 rfl dX7_looking_25 ?_
    refine z_isub dX7_looking_26 ?_
    refine z_istore_n (lv' := [(3, .int (x2 - (((v_X7_body M 71).2.1 10) x1.toNatClampNeg))), (0, .ref (a 0)), (1, .int x1), (2, .int x2)]) dX7_looking_27 (Nat.le_of_ble_eq_true rfl) rfl ?_
    exact z_lv rfl (J21 _ (if_pos c2).symm _ (if_pos c2).symm)
theorem dX7_stopping_0 : decode cX7_stopping 0 = .ok (.aload_n 0, 1) := by decide +kernel
theorem dX7_stopping_1 : decode cX7_stopping 1 = .ok (.getfield 29, 3) := by decide +kernel
theorem dX7_stopping_4 : decode cX7_stopping 4 = .ok (.iload_n 1, 1) := by decide +kernel
theorem dX7_stopping_5 : decode cX7_stopping 5 = .ok (.iaload, 1) := by decide +kernel
theorem dX7_stopping_6 : decode cX7_stopping 6 = .ok (.istore_n 3, 1) := by decide +kernel
theorem dX7_stopping_7 : decode cX7_stopping 7 = .ok (.iload_n 3, 1) := by decide +kernel
theorem dX7_stopping_8 : decode cX7_stopping 8 = .ok (.iconst 5, 1) := by decide +kernel
theorem dX7_stopping_9 : decode cX7_stopping 9 = .ok (.if_icmp .ne 9, 3) := by decide +kernel
theorem dX7_stopping_12 : decode cX7_stopping 12 = .ok (.aload_n 0, 1) := by decide +kernel
theorem dX7_stopping_13 : decode cX7_stopping 13 = .ok (.bipush 60, 2) := by decide +kernel
theorem dX7_stopping_15 : decode cX7_stopping 15 = .ok (.invokevirtual 282, 3) := by decide +kernel
theorem dX7_stopping_18 : decode cX7_stopping 18 = .ok (.iload_n 3, 1) := by decide +kernel
theorem dX7_stopping_19 : decode cX7_stopping 19 = .ok (.iconst 4, 1) := by decide +kernel
theorem dX7_stopping_20 : decode cX7_stopping 20 = .ok (.if_icmp .eq 8, 3) := by decide +kernel
theorem dX7_stopping_23 : decode cX7_stopping 23 = .ok (.iload_n 3, 1) := by decide +kernel
theorem dX7_stopping_24 : decode cX7_stopping 24 = .ok (.iconst 5, 1) := by decide +kernel
theorem dX7_stopping_25 : decode cX7_stopping 25 = .ok (.if_icmp .ne 9, 3) := by decide +kernel
theorem dX7_stopping_28 : decode cX7_stopping 28 = .ok (.aload_n 0, 1) := by decide +kernel
theorem dX7_stopping_29 : decode cX7_stopping 29 = .ok (.bipush 50, 2) := by decide +kernel
theorem dX7_stopping_31 : decode cX7_stopping 31 = .ok (.invokevirtual 282, 3) := by decide +kernel
theorem dX7_stopping_34 : decode cX7_stopping 34 = .ok (.aload_n 0, 1) := by decide +kernel
theorem dX7_stopping_35 : decode cX7_stopping 35 = .ok (.bipush 12, 2) := by decide +kernel
theorem dX7_stopping_37 : decode cX7_stopping 37 = .ok (.invokevirtual 282, 3) := by decide +kernel
theorem dX7_stopping_40 : decode cX7_stopping 40 = .ok (.aload_n 0, 1) := by decide +kernel
theorem dX7_stopping_41 : decode cX7_stopping 41 = .ok (.iload_n 1, 1) := by decide +kernel
theorem dX7_stopping_42 : decode cX7_stopping 42 = .ok (.iload_n 2, 1) := by decide +kernel
theorem dX7_stopping_43 : decode cX7_stopping 43 = .ok (.invokevirtual 288, 3) := by decide +kernel
theorem dX7_stopping_46 : decode cX7_stopping 46 = .ok (.istore 4, 2) := by decide +kernel
theorem dX7_stopping_48 : decode cX7_stopping 48 = .ok (.iload 4, 2) := by decide +kernel
theorem dX7_stopping_50 : decode cX7_stopping 50 = .ok (.aload_n 0, 1) := by decide +kernel
theorem dX7_stopping_51 : decode cX7_stopping 51 = .ok (.iload_n 1, 1) := by decide +kernel
theorem dX7_stopping_52 : decode cX7_stopping 52 = .ok (.iload_n 2, 1) := by decide +kernel
theorem dX7_stopping_53 : decode cX7_stopping 53 = .ok (.aload_n 0, 1) := by decide +kernel
theorem dX7_stopping_54 : decode cX7_stopping 54 = .ok (.getfield 32, 3) := by decide +kernel
theorem dX7_stopping_57 : decode cX7_stopping 57 = .ok (.iload_n 1, 1) := by decide +kernel
theorem dX7_stopping_58 : decode cX7_stopping 58 = .ok (.iaload, 1) := by decide +kernel
theorem dX7_stopping_59 : decode cX7_stopping 59 = .ok (.isub, 1) := by decide +kernel
theorem dX7_stopping_60 : decode cX7_stopping 60 = .ok (.invokevirtual 285, 3) := by decide +kernel
theorem dX7_stopping_63 : decode cX7_stopping 63 = .ok (.ixor, 1) := by decide +kernel
theorem dX7_stopping_64 : decode cX7_stopping 64 = .ok (.istore 4, 2) := by decide +kernel
theorem dX7_stopping_66 : decode cX7_stopping 66 = .ok (.iload_n 3, 1) := by decide +kernel
theorem dX7_stopping_67 : decode cX7_stopping 67 = .ok (.iconst 4, 1) := by decide +kernel
theorem dX7_stopping_68 : decode cX7_stopping 68 = .ok (.if_icmp .eq 8, 3) := by decide +kernel
theorem dX7_stopping_71 : decode cX7_stopping 71 = .ok (.iload_n 3, 1) := by decide +kernel
theorem dX7_stopping_72 : decode cX7_stopping 72 = .ok (.iconst 5, 1) := by decide +kernel
theorem dX7_stopping_73 : decode cX7_stopping 73 = .ok (.if_icmp .ne 8, 3) := by decide +kernel
theorem dX7_stopping_76 : decode cX7_stopping 76 = .ok (.iload 4, 2) := by decide +kernel
theorem dX7_stopping_78 : decode cX7_stopping 78 = .ok (.ineg, 1) := by decide +kernel
theorem dX7_stopping_79 : decode cX7_stopping 79 = .ok (.istore 4, 2) := by decide +kernel
theorem dX7_stopping_81 : decode cX7_stopping 81 = .ok (.iload_n 3, 1) := by decide +kernel
theorem dX7_stopping_82 : decode cX7_stopping 82 = .ok (.iconst 5, 1) := by decide +kernel
theorem dX7_stopping_83 : decode cX7_stopping 83 = .ok (.if_icmp .ne 10, 3) := by decide +kernel
theorem dX7_stopping_86 : decode cX7_stopping 86 = .ok (.iload 4, 2) := by decide +kernel
theorem dX7_stopping_88 : decode cX7_stopping 88 = .ok (.iconst 5, 1) := by decide +kernel
theorem dX7_stopping_89 : decode cX7_stopping 89 = .ok (.ixor, 1) := by decide +kernel
theorem dX7_stopping_90 : decode cX7_stopping 90 = .ok (.goto 5, 3) := by decide +kernel
theorem dX7_stopping_93 : decode cX7_stopping 93 = .ok (.iload 4, 2) := by decide +kernel
theorem dX7_stopping_95 : decode cX7_stopping 95 = .ok (.ireturn, 1) := by decide +kernel
abbrev k_X7_stopping : zK := (cX7_stopping, 5, RX7, (some .int), ({ frames := 3, cells := 0, slots := 0, locals := 70 } : Room))
theorem zc_X7_stopping : zcal yX7_stopping k_X7_stopping.1 k_X7_stopping.2.1 k_X7_stopping.2.2.2.1 2 := ⟨tw_code_yX7_stopping, tw_i_TollForHesitatorsModel, ⟨by decide +kernel, by decide +kernel⟩, by decide +kernel⟩
theorem zv_X7_stopping : Cond.instanceMethod yX7_stopping ∈ TS ∧ Cond.selects RX7 yX7_stopping yX7_stopping ∈ TS := ⟨tw_inst_yX7_stopping, tw_s_yX7_stopping⟩
def v_X7_stopping (M : mT) (x1 : Int32) (x2 : Int32) : Int32 × mT := kk (if ((M.2.1 9) x1.toNatClampNeg) = 5 then v_X7_body M 60 else M) (fun M5 : mT => kk (if ((M.2.1 9) x1.toNatClampNeg) = 4 then v_X7_body M5 50 else (if ((M.2.1 9) x1.toNatClampNeg) = 5 then v_X7_body M5 50 else M5)) (fun M13 : mT => kk (v_X7_body M13 12) (fun q15 : mT => kk (v_X7_looking q15 x1 x2) (fun q17 : Int32 × mT => kk (v_X7_walking q17.2 x1 (x2 - ((q17.2.2.1 10) x1.toNatClampNeg))) (fun q20 : Int32 × mT => kk (if ((M.2.1 9) x1.toNatClampNeg) = 4 then -(q17.1 ^^^ q20.1) else (if ((M.2.1 9) x1.toNatClampNeg) = 5 then -(q17.1 ^^^ q20.1) else q17.1 ^^^ q20.1)) (fun m24 : Int32 => ((if ((M.2.1 9) x1.toNatClampNeg) = 5 then m24 ^^^ 5 else m24), q20.2)))))))
def p_X7_stopping (M : mT) (x1 : Int32) (x2 : Int32) : Prop := vp_in x1 7 ∧ ((if ((M.2.1 9) x1.toNatClampNeg) = 5 then p_X7_body M 60 else True) ∧ (kk (if ((M.2.1 9) x1.toNatClampNeg) = 5 then v_X7_body M 60 else M) (fun M5 : mT => (if ((M.2.1 9) x1.toNatClampNeg) = 4 then p_X7_body M5 50 else if ((M.2.1 9) x1.toNatClampNeg) = 5 then p_X7_body M5 50 else True) ∧ (kk (if ((M.2.1 9) x1.toNatClampNeg) = 4 then v_X7_body M5 50 else (if ((M.2.1 9) x1.toNatClampNeg) = 5 then v_X7_body M5 50 else M5)) (fun M13 : mT => p_X7_body M13 12 ∧ (kk (v_X7_body M13 12) (fun q15 : mT => p_X7_looking q15 x1 x2 ∧ (kk (v_X7_looking q15 x1 x2) (fun q17 : Int32 × mT => vp_in x1 7 ∧ (p_X7_walking q17.2 x1 (x2 - ((q17.2.2.1 10) x1.toNatClampNeg))))))))))))
set_option maxHeartbeats 4000000 in
theorem c_X7_stopping {l : Launch} (G : zG) (a : Nat → Nat) {X : zX} (hX : XOK X) (sz : Nat) (M : mT) (x1 : Int32) (x2 : Int32) (hp : p_X7_stopping M x1 x2) : Met l yX7_stopping (.code yX7_stopping k_X7_stopping.1 k_X7_stopping.2.1 k_X7_stopping.2.2.2.1 :: TS) k_X7_stopping.2.2.2.2 (Pz G [.ref (a 0), .int x1, .int x2] (Fw G X (mW G a M) sz)) (Qwi G (fun r w => r = (v_X7_stopping M x1 x2).1 ∧ w = mW G a (v_X7_stopping M x1 x2).2) (va_A (mW G a M) sz)) 0 0 (va_A (mW G a M) sz) := by
  refine zmet (by decide +kernel) rfl rfl (fun Γ hl0 hQ hN hF => ?_)
  refine z_start hX hF (fun hw => ?_)
  generalize va_A (mW G a M) sz = A at hQ hw ⊢
  obtain ⟨res, hv⟩ : ∃ res, v_X7_stopping M x1 x2 = res := ⟨_, rfl⟩
  rw [hv] at hQ
  unfold v_X7_stopping at hv
  unfold p_X7_stopping at hp
  show Z k_X7_stopping G Γ _ 0 0 [(0, .ref (a 0)), (1, .int x1), (2, .int x2)] 0 []
  refine z_aload_n dX7_stopping_0 rfl ?_
  refine mg_9 wr_P rfl dX7_stopping_1 ?_
  refine z_iload_n dX7_stopping_4 rfl ?_
  obtain ⟨q1, hp⟩ := hp
  refine ml_9 (x := (M.2.1 9) x1.toNatClampNeg) wr_P q1 rfl dX7_stopping_5 ?_
  refine z_istore_n (lv' := [(3, .int ((M.2.1 9) x1.toNatClampNeg)), (0, .ref (a 0)), (1, .int x1), (2, .int x2)]) dX7_stopping_6 (Nat.le_of_ble_eq_true rfl) rfl ?_
  refine z_iload_n dX7_stopping_7 rfl ?_
  refine z_iconst (v := 5) dX7_stopping_8 rfl ?_
  obtain ⟨hpm, hp⟩ := hp
  have J27 : ∀ M5 : mT, M5 = (if ((M.2.1 9) x1.toNatClampNeg) = 5 then v_X7_body M 60 else M) → Z k_X7_stopping G Γ (wr G A Γ.2.2.1.1.heap (mW G a M5)) 0 0 [(3, .int ((M.2.1 9) x1.toNatClampNeg)), (0, .ref (a 0)), (1, .int x1), (2, .int x2)] 18 [] := by
    intro M5 eM5
    have hp := kk_pq hp eM5
    have hv := kk_vq hv eM5
    clear eM5
    refine z_iload_n dX7_stopping_18 rfl ?_
    refine z_iconst (v := 4) dX7_stopping_19 rfl ?_
    obtain ⟨hpm, hp⟩ := hp
    have J28 : ∀ M13 : mT, M13 = (if ((M.2.1 9) x1.toNatClampNeg) = 4 then v_X7_body M5 50 else (if ((M.2.1 9) x1.toNatClampNeg) = 5 then v_X7_body M5 50 else M5)) → Z k_X7_stopping G Γ (wr G A Γ.2.2.1.1.heap (mW G a M13)) 0 0 [(3, .int ((M.2.1 9) x1.toNatClampNeg)), (0, .ref (a 0)), (1, .int x1), (2, .int x2)] 34 [] := by
      intro M13 eM13
      have hp := kk_pq hp eM13
      have hv := kk_vq hv eM13
      clear eM13
      refine z_aload_n dX7_stopping_34 rfl ?_
      refine z_bipush (v := 12) dX7_stopping_35 rfl ?_
      obtain ⟨q14, hp⟩ := hp
      refine z_cavvD hw (fun sz => c_X7_body G a hw.1 sz M13 12 q14) zc_X7_body zv_X7_body tw_m_RX7_282 (mrec wr_P) (zroom_of rfl) rfl (Nat.le_of_ble_eq_true rfl) dX7_stopping_37 ?_
      suffices z29 : ∀ q15 : mT, q15 = (v_X7_body M13 12) → Z k_X7_stopping G Γ (wr G A Γ.2.2.1.1.heap (mW G a q15)) 0 0 [(3, .int ((M.2.1 9) x1.toNatClampNeg)), (0, .ref (a 0)), (1, .int x1), (2, .int x2)] 40 [] from z29 _ rfl
      intro q15 hq15
      have hp := kk_pq hp hq15
      have hv := kk_vq hv hq15
      clear hq15
      refine z_aload_n dX7_stopping_40 rfl ?_
      refine z_iload_n dX7_stopping_41 rfl ?_
      refine z_iload_n dX7_stopping_42 rfl ?_
      obtain ⟨q16, hp⟩ := hp
      refine z_caviD hw (fun sz => c_X7_looking G a hw.1 sz q15 x1 x2 q16) zc_X7_looking zv_X7_looking tw_m_RX7_288 (mrec wr_P) (zroom_of rfl) rfl (Nat.le_of_ble_eq_true rfl) dX7_stopping_43 ?_
      suffices z30 : ∀ q17 : Int32 × mT, q17 = (v_X7_looking q15 x1 x2) → Z k_X7_stopping G Γ (wr G A Γ.2.2.1.1.heap (mW G a q17.2)) 0 0 [(3, .int ((M.2.1 9) x1.toNatClampNeg)), (0, .ref (a 0)), (1, .int x1), (2, .int x2)] 46 [.int q17.1] from z30 _ rfl
      intro q17 hq17
      have hp := kk_pq hp hq17
      have hv := kk_vq hv hq17
      clear hq17
      refine z_istore (lv' := [(4, .int q17.1), (3, .int ((M.2.1 9) x1.toNatClampNeg)), (0, .ref (a 0)), (1, .int x1), (2, .int x2)]) dX7_stopping_46 (Nat.le_of_ble_eq_true rfl) rfl ?_
      refine z_iload dX7_stopping_48 rfl ?_
      refine z_aload_n dX7_stopping_50 rfl ?_
      refine z_iload_n dX7_stopping_51 rfl ?_
      refine z_iload_n dX7_stopping_52 rfl ?_
      refine z_aload_n dX7_stopping_53 rfl ?_
      refine mg_10 wr_P rfl dX7_stopping_54 ?_
      refine z_iload_n dX7_stopping_57 rfl ?_
      obtain ⟨q18, hp⟩ := hp
      refine ml_10 (x := (q17.2.2.1 10) x1.toNatClampNeg) wr_P q18 rfl dX7_stopping_58 ?_
      refine z_isub dX7_stopping_59 ?_
      have q19 := hp
      refine z_caviD hw (fun sz => c_X7_walking G a hw.1 sz q17.2 x1 (x2 - ((q17.2.2.1 10) x1.toNatClampNeg)) q19) zc_X7_walking zv_X7_walking tw_m_RX7_285 (mrec wr_P) (zroom_of rfl) rfl (Nat.le_of_ble_eq_true rfl) dX7_stopping_60 ?_
      suffices z31 : ∀ q20 : Int32 × mT, q20 = (v_X7_walking q17.2 x1 (x2 - ((q17.2.2.1 10) x1.toNatClampNeg))) → Z k_X7_stopping G Γ (wr G A Γ.2.2.1.1.heap (mW G a q20.2)) 0 0 [(4, .int q17.1), (3, .int ((M.2.1 9) x1.toNatClampNeg)), (0, .ref (a 0)), (1, .int x1), (2, .int x2)] 63 [.int q20.1, .int q17.1] from z31 _ rfl
      intro q20 hq20
      have hv := kk_vq hv hq20
      clear hq20
      refine z_ixor dX7_stopping_63 ?_
      refine z_istore (lv' := [(4, .int (q17.1 ^^^ q20.1)), (3, .int ((M.2.1 9) x1.toNatClampNeg)), (0, .ref (a 0)), (1, .int x1), (2, .int x2)]) dX7_stopping_64 (Nat.le_of_ble_eq_true rfl) rfl ?_
      refine z_iload_n dX7_stopping_66 rfl ?_
      refine z_iconst (v := 4) dX7_stopping_67 rfl ?_
      have J32 : ∀ m24 : Int32, m24 = (if ((M.2.1 9) x1.toNatClampNeg) = 4 then -(q17.1 ^^^ q20.1) else (if ((M.2.1 9) x1.toNatClampNeg) = 5 then -(q17.1 ^^^ q20.1) else q17.1 ^^^ q20.1)) → Z k_X7_stopping G Γ (wr G A Γ.2.2.1.1.heap (mW G a q20.2)) 0 0 [(4, .int m24), (3, .int ((M.2.1 9) x1.toNatClampNeg)), (0, .ref (a 0)), (1, .int x1), (2, .int x2)] 81 [] := by
        intro m24 em24
        have hv := kk_vq hv em24
        clear em24
        refine z_iload_n dX7_stopping_81 rfl ?_
        refine z_iconst (v := 5) dX7_stopping_82 rfl ?_
        have J33 : ∀ m26 : Int32, m26 = (if ((M.2.1 9) x1.toNatClampNeg) = 5 then m24 ^^^ 5 else m24) → Z k_X7_stopping G Γ (wr G A Γ.2.2.1.1.heap (mW G a q20.2)) 0 0 [(4, .int m24), (3, .int ((M.2.1 9) x1.toNatClampNeg)), (0, .ref (a 0)), (1, .int x1), (2, .int x2)] 95 [.int m26] := by
          intro m26 em26
          rewrite [em26]; clear em26
          subst hv; exact z_iret_W hQ rfl rfl rfl ⟨rfl, rfl⟩ dX7_stopping_95
        refine z_icmp_ne (tgt := 93) dX7_stopping_83 (by decide) (fun c25 => ?_) (fun c25 => ?_)
        · skip
          refine z_iload dX7_stopping_93 rfl ?_
          exact z_lv rfl (J33 _ (if_neg c25).symm)
        · skip
          refine z_iload dX7_stopping_86 rfl ?_
          refine z_iconst (v := 5) dX7_stopping_88 rfl ?_
          refine z_ixor dX7_stopping_89 ?_
          refine z_goto (tgt := 95) dX7_stopping_90 (by decide) ?_
          exact z_lv rfl (J33 _ (if_pos c25).symm)
      refine z_icmp_eq (tgt := 76) dX7_stopping_68 (by decide) (fun c21 => ?_) (fun c21 => ?_)
      · skip
        refine z_iload dX7_stopping_76 rfl ?_
        refine z_ineg dX7_stopping_78 ?_
        refine z_istore (lv' := [(4, .int (-(q17.1 ^^^ q20.1))), (3, .int ((M.2.1 9) x1.toNatClampNeg)), (0, .ref (a 0)), (1, .int x1), (2, .int x2)]) dX7_stopping_79 (Nat.le_of_ble_eq_true rfl) rfl ?_
        exact z_lv rfl (J32 _ (if_pos c21).symm)
      · skip
        refine z_iload_n dX7_stopping_71 rfl ?_
        refine z_iconst (v := 5) dX7_stopping_72 rfl ?_
        have J34 : ∀ m23 : Int32, m23 = (if ((M.2.1 9) x1.toNatClampNeg) = 5 then -(q17.1 ^^^ q20.1) else q17.1 ^^^ q20.1) → Z k_X7_stopping G Γ (wr G A Γ.2.2.1.1.heap (mW G a q20.2)) 0 0 [(4, .int m23), (3, .int ((M.2.1 9) x1.toNatClampNeg)), (0, .ref (a 0)), (1, .int x1), (2, .int x2)] 81 [] := by
          intro m23 em23
          rewrite [em23]; clear em23
          exact z_lv rfl (J32 _ (if_neg c21).symm)
        refine z_icmp_ne (tgt := 81) dX7_stopping_73 (by decide) (fun c22 => ?_) (fun c22 => ?_)
        · skip
          exact z_lv rfl (J34 _ (if_neg c22).symm)
        · skip
          refine z_iload dX7_stopping_76 rfl ?_
          refine z_ineg dX7_stopping_78 ?_
          refine z_istore (lv' := [(4, .int (-(q17.1 ^^^ q20.1))), (3, .int ((M.2.1 9) x1.toNatClampNeg)), (0, .ref (a 0)), (1, .int x1), (2, .int x2)]) dX7_stopping_79 (Nat.le_of_ble_eq_true rfl) rfl ?_
          exact z_lv rfl (J34 _ (if_pos c22).symm)
    refine z_icmp_eq (tgt := 28) dX7_stopping_20 (by decide) (fun c6 => ?_) (fun c6 => ?_)
    · have hp := ip_t hpm c6
      refine z_aload_n dX7_stopping_28 rfl ?_
      refine z_bipush (v := 50) dX7_stopping_29 rfl ?_
      have q7 := hp
      refine z_cavvD hw (fun sz => c_X7_body G a hw.1 sz M5 50 q7) zc_X7_body zv_X7_body tw_m_RX7_282 (mrec wr_P) (zroom_of rfl) rfl (Nat.le_of_ble_eq_true rfl) dX7_stopping_31 ?_
      exact z_lv rfl (J28 _ (if_pos c6).symm)
    · have hp := ip_f hpm c6
      refine z_iload_n dX7_stopping_23 rfl ?_
      refine z_iconst (v := 5) dX7_stopping_24 rfl ?_
      have hpm := hp
      have J35 : ∀ M12 : mT, M12 = (if ((M.2.1 9) x1.toNatClampNeg) = 5 then v_X7_body M5 50 else M5) → Z k_X7_stopping G Γ (wr G A Γ.2.2.1.1.heap (mW G a M12)) 0 0 [(3, .int ((M.2.1 9) x1.toNatClampNeg)), (0, .ref (a 0)), (1, .int x1), (2, .int x2)] 34 [] := by
        intro M12 eM12
        rewrite [eM12]; clear eM12
        exact z_lv rfl (J28 _ (if_neg c6).symm)
      refine z_icmp_ne (tgt := 34) dX7_stopping_25 (by decide) (fun c9 => ?_) (fun c9 => ?_)
      · have hp := ip_f hpm c9
        exact z_lv rfl (J35 _ (if_neg c9).symm)
      · have hp := ip_t hpm c9
        refine z_aload_n dX7_stopping_28 rfl ?_
        refine z_bipush (v := 50) dX7_stopping_29 rfl ?_
        have q10 := hp
        refine z_cavvD hw (fun sz => c_X7_body G a hw.1 sz M5 50 q10) zc_X7_body zv_X7_body tw_m_RX7_282 (mrec wr_P) (zroom_of rfl) rfl (Nat.le_of_ble_eq_true rfl) dX7_stopping_31 ?_
        exact z_lv rfl (J35 _ (if_pos c9).symm)
  refine z_icmp_ne (tgt := 18) dX7_stopping_9 (by decide) (fun c2 => ?_) (fun c2 => ?_)
  · have hp := ip_f hpm c2
    exact z_lv rfl (J27 _ (if_neg c2).symm)
  · have hp := ip_t hpm c2
    refine z_aload_n dX7_stopping_12 rfl ?_
    refine z_bipush (v := 60) dX7_stopping_13 rfl ?_
    have q3 := hp
    refine z_cavvD hw (fun sz => c_X7_body G a hw.1 sz M 60 q3) zc_X7_body zv_X7_body tw_m_RX7_282 (mrec wr_P) (zroom_of rfl) rfl (Nat.le_of_ble_eq_true rfl) dX7_stopping_15 ?_
    exact z_lv rfl (J27 _ (if_pos c2).symm)
theorem dX7_act_0 : decode cX7_act 0 = .ok (.aload_n 0, 1) := by decide +kernel
theorem dX7_act_1 : decode cX7_act 1 = .ok (.iconst 0, 1) := by decide +kernel
theorem dX7_act_2 : decode cX7_act 2 = .ok (.putfield 279, 3) := by decide +kernel
theorem dX7_act_5 : decode cX7_act 5 = .ok (.aload_n 0, 1) := by decide +kernel
theorem dX7_act_6 : decode cX7_act 6 = .ok (.iload_n 1, 1) := by decide +kernel
theorem dX7_act_7 : decode cX7_act 7 = .ok (.invokevirtual 110, 3) := by decide +kernel
theorem dX7_act_10 : decode cX7_act 10 = .ok (.ifCond .eq 12, 3) := by decide +kernel
theorem dX7_act_13 : decode cX7_act 13 = .ok (.iload_n 2, 1) := by decide +kernel
theorem dX7_act_14 : decode cX7_act 14 = .ok (.ifCond .lt 8, 3) := by decide +kernel
theorem dX7_act_17 : decode cX7_act 17 = .ok (.iload_n 2, 1) := by decide +kernel
theorem dX7_act_18 : decode cX7_act 18 = .ok (.iconst 2, 1) := by decide +kernel
theorem dX7_act_19 : decode cX7_act 19 = .ok (.if_icmp .le 5, 3) := by decide +kernel
theorem dX7_act_22 : decode cX7_act 22 = .ok (.iconst 0, 1) := by decide +kernel
theorem dX7_act_23 : decode cX7_act 23 = .ok (.ireturn, 1) := by decide +kernel
theorem dX7_act_24 : decode cX7_act 24 = .ok (.iload_n 2, 1) := by decide +kernel
theorem dX7_act_25 : decode cX7_act 25 = .ok (.ifCond .ne 12, 3) := by decide +kernel
theorem dX7_act_28 : decode cX7_act 28 = .ok (.aload_n 0, 1) := by decide +kernel
theorem dX7_act_29 : decode cX7_act 29 = .ok (.iload_n 1, 1) := by decide +kernel
theorem dX7_act_30 : decode cX7_act 30 = .ok (.iload_n 3, 1) := by decide +kernel
theorem dX7_act_31 : decode cX7_act 31 = .ok (.invokevirtual 285, 3) := by decide +kernel
theorem dX7_act_34 : decode cX7_act 34 = .ok (.goto 23, 3) := by decide +kernel
theorem dX7_act_37 : decode cX7_act 37 = .ok (.iload_n 2, 1) := by decide +kernel
theorem dX7_act_38 : decode cX7_act 38 = .ok (.iconst 1, 1) := by decide +kernel
theorem dX7_act_39 : decode cX7_act 39 = .ok (.if_icmp .ne 12, 3) := by decide +kernel
theorem dX7_act_42 : decode cX7_act 42 = .ok (.aload_n 0, 1) := by decide +kernel
theorem dX7_act_43 : decode cX7_act 43 = .ok (.iload_n 1, 1) := by decide +kernel
theorem dX7_act_44 : decode cX7_act 44 = .ok (.iload_n 3, 1) := by decide +kernel
theorem dX7_act_45 : decode cX7_act 45 = .ok (.invokevirtual 288, 3) := by decide +kernel
theorem dX7_act_48 : decode cX7_act 48 = .ok (.goto 9, 3) := by decide +kernel
theorem dX7_act_51 : decode cX7_act 51 = .ok (.aload_n 0, 1) := by decide +kernel
theorem dX7_act_52 : decode cX7_act 52 = .ok (.iload_n 1, 1) := by decide +kernel
theorem dX7_act_53 : decode cX7_act 53 = .ok (.iload_n 3, 1) := by decide +kernel
theorem dX7_act_54 : decode cX7_act 54 = .ok (.invokevirtual 291, 3) := by decide +kernel
theorem dX7_act_57 : decode cX7_act 57 = .ok (.ireturn, 1) := by decide +kernel
abbrev k_X7_act : zK := (cX7_act, 4, RX7, (some .int), ({ frames := 4, cells := 0, slots := 0, locals := 94 } : Room))
theorem zc_X7_act : zcal yX7_act k_X7_act.1 k_X7_act.2.1 k_X7_act.2.2.2.1 3 := ⟨tw_code_yX7_act, tw_i_TollForHesitatorsModel, ⟨by decide +kernel, by decide +kernel⟩, by decide +kernel⟩
theorem zv_X7_act : Cond.instanceMethod yX7_act ∈ TS ∧ Cond.selects RX7 yX7_act yX7_act ∈ TS := ⟨tw_inst_yX7_act, tw_s_yX7_act⟩
def v_X7_act (M : mT) (x1 : Int32) (x2 : Int32) (x3 : Int32) : Int32 × mT := if (v_X7_isComer (msf M 43 0) x1) = 0 then (0, msf M 43 0) else if x2 < 0 then (0, msf M 43 0) else if x2 ≤ 2 then kk (if x2 = 0 then (v_X7_walking (msf M 43 0) x1 x3).2 else (if x2 = 1 then (v_X7_looking (msf M 43 0) x1 x3).2 else (v_X7_stopping (msf M 43 0) x1 x3).2)) (fun M14 : mT => ((if x2 = 0 then (v_X7_walking (msf M 43 0) x1 x3).1 else (if x2 = 1 then (v_X7_looking (msf M 43 0) x1 x3).1 else (v_X7_stopping (msf M 43 0) x1 x3).1)), M14)) else (0, msf M 43 0)
def p_X7_act (M : mT) (x1 : Int32) (x2 : Int32) (x3 : Int32) : Prop := if (v_X7_isComer (msf M 43 0) x1) = 0 then True else if x2 < 0 then True else if x2 ≤ 2 then if x2 = 0 then p_X7_walking (msf M 43 0) x1 x3 else if x2 = 1 then p_X7_looking (msf M 43 0) x1 x3 else p_X7_stopping (msf M 43 0) x1 x3 else True
set_option maxHeartbeats 4000000 in
theorem c_X7_act {l : Launch} (G : zG) (a : Nat → Nat) {X : zX} (hX : XOK X) (sz : Nat) (M : mT) (x1 : Int32) (x2 : Int32) (x3 : Int32) (hp : p_X7_act M x1 x2 x3) : Met l yX7_act (.code yX7_act k_X7_act.1 k_X7_act.2.1 k_X7_act.2.2.2.1 :: TS) k_X7_act.2.2.2.2 (Pz G [.ref (a 0), .int x1, .int x2, .int x3] (Fw G X (mW G a M) sz)) (Qwi G (fun r w => r = (v_X7_act M x1 x2 x3).1 ∧ w = mW G a (v_X7_act M x1 x2 x3).2) (va_A (mW G a M) sz)) 0 0 (va_A (mW G a M) sz) := by
  refine zmet (by decide +kernel) rfl rfl (fun Γ hl0 hQ hN hF => ?_)
  refine z_start hX hF (fun hw => ?_)
  generalize va_A (mW G a M) sz = A at hQ hw ⊢
  obtain ⟨res, hv⟩ : ∃ res, v_X7_act M x1 x2 x3 = res := ⟨_, rfl⟩
  rw [hv] at hQ
  unfold v_X7_act at hv
  unfold p_X7_act at hp
  show Z k_X7_act G Γ _ 0 0 [(0, .ref (a 0)), (1, .int x1), (2, .int x2), (3, .int x3)] 0 []
  refine z_aload_n dX7_act_0 rfl ?_
  refine z_iconst (v := 0) dX7_act_1 rfl ?_
  refine mp_43 (v := 0) rfl dX7_act_2 ?_
  refine z_aload_n dX7_act_5 rfl ?_
  refine z_iload_n dX7_act_6 rfl ?_
  refine z_cvi (c_X7_isComer G a (msf M 43 0) x1 ) zc_X7_isComer zv_X7_isComer tw_m_RX7_110 (mrec wr_P) wr_P (zroom_of rfl) rfl (Nat.le_of_ble_eq_true rfl) dX7_act_7 ?_
  refine z_if_eq (tgt := 22) dX7_act_10 (by decide) (fun c1 => ?_) (fun c1 => ?_)
  · have hp := ip_t hp c1; have hv := it_t hv c1
    refine z_iconst (v := 0) dX7_act_22 rfl ?_
    subst hv; exact z_iret_W hQ rfl rfl rfl ⟨rfl, rfl⟩ dX7_act_23
  · have hp := ip_f hp c1; have hv := it_f hv c1
    refine z_iload_n dX7_act_13 rfl ?_
    refine z_if_lt (tgt := 22) dX7_act_14 (by decide) (fun c2 => ?_) (fun c2 => ?_)
    · have hp := ip_t hp c2; have hv := it_t hv c2
      refine z_iconst (v := 0) dX7_act_22 rfl ?_
      subst hv; exact z_iret_W hQ rfl rfl rfl ⟨rfl, rfl⟩ dX7_act_23
    · have hp := ip_f hp c2; have hv := it_f hv c2
      refine z_iload_n dX7_act_17 rfl ?_
      refine z_iconst (v := 2) dX7_act_18 rfl ?_
      refine z_icmp_le (tgt := 24) dX7_act_19 (by decide) (fun c3 => ?_) (fun c3 => ?_)
      · have hp := ip_t hp c3; have hv := it_t hv c3
        refine z_iload_n dX7_act_24 rfl ?_
        have hpm := hp
        have J16 : ∀ M14 : mT, M14 = (if x2 = 0 then (v_X7_walking (msf M 43 0) x1 x3).2 else (if x2 = 1 then (v_X7_looking (msf M 43 0) x1 x3).2 else (v_X7_stopping (msf M 43 0) x1 x3).2)) → ∀ m15 : Int32, m15 = (if x2 = 0 then (v_X7_walking (msf M 43 0) x1 x3).1 else (if x2 = 1 then (v_X7_looking (msf M 43 0) x1 x3).1 else (v_X7_stopping (msf M 43 0) x1 x3).1)) → Z k_X7_act G Γ (wr G A Γ.2.2.1.1.heap (mW G a M14)) 0 0 [(0, .ref (a 0)), (1, .int x1), (2, .int x2), (3, .int x3)] 57 [.int m15] := by
          intro M14 eM14 m15 em15
          have hv := kk_vq hv eM14
          clear eM14
          rewrite [em15]; clear em15
          subst hv; exact z_iret_W hQ rfl rfl rfl ⟨rfl, rfl⟩ dX7_act_57
        refine z_if_ne (tgt := 37) dX7_act_25 (by decide) (fun c4 => ?_) (fun c4 => ?_)
        · have hp := ip_f hpm c4
          refine z_iload_n dX7_act_37 rfl ?_
          refine z_iconst (v := 1) dX7_act_38 rfl ?_
          have hpm := hp
          have J17 : ∀ M10 : mT, M10 = (if x2 = 1 then (v_X7_looking (msf M 43 0) x1 x3).2 else (v_X7_stopping (msf M 43 0) x1 x3).2) → ∀ m11 : Int32, m11 = (if x2 = 1 then (v_X7_looking (msf M 43 0) x1 x3).1 else (v_X7_stopping (msf M 43 0) x1 x3).1) → Z k_X7_act G Γ (wr G A Γ.2.2.1.1.heap (mW G a M10)) 0 0 [(0, .ref (a 0)), (1, .int x1), (2, .int x2), (3, .int x3)] 57 [.int m11] := by
            intro M10 eM10 m11 em11
            rewrite [eM10]; clear eM10
            rewrite [em11]; clear em11
            exact z_lv rfl (J16 _ (if_neg c4).symm _ (if_neg c4).symm)
          refine z_icmp_ne (tgt := 51) dX7_act_39 (by decide) (fun c5 => ?_) (fun c5 => ?_)
          · have hp := ip_f hpm c5
            refine z_aload_n dX7_act_51 rfl ?_
            refine z_iload_n dX7_act_52 rfl ?_
            refine z_iload_n dX7_act_53 rfl ?_
            have q6 := hp
            refine z_caviD hw (fun sz => c_X7_stopping G a hw.1 sz (msf M 43 0) x1 x3 q6) zc_X7_stopping zv_X7_stopping tw_m_RX7_291 (mrec wr_P) (zroom_of rfl) rfl (Nat.le_of_ble_eq_true rfl) dX7_act_54 ?_
            exact z_lv rfl (J17 _ (if_neg c5).symm _ (if_neg c5).symm)
          · have hp := ip_t hpm c5
            refine z_aload_n dX7_act_42 rfl ?_
            refine z_iload_n dX7_act_43 rfl ?_
            refine z_iload_n dX7_act_44 rfl ?_
            have q8 := hp
            refine z_caviD hw (fun sz => c_X7_looking G a hw.1 sz (msf M 43 0) x1 x3 q8) zc_X7_looking zv_X7_looking tw_m_RX7_288 (mrec wr_P) (zroom_of rfl) rfl (Nat.le_of_ble_eq_true rfl) dX7_act_45 ?_
            refine z_goto (tgt := 57) dX7_act_48 (by decide) ?_
            exact z_lv rfl (J17 _ (if_pos c5).symm _ (if_pos c5).symm)
        · have hp := ip_t hpm c4
          refine z_aload_n dX7_act_28 rfl ?_
          refine z_iload_n dX7_act_29 rfl ?_
          refine z_iload_n dX7_act_30 rfl ?_
          have q12 := hp
          refine z_caviD hw (fun sz => c_X7_walking G a hw.1 sz (msf M 43 0) x1 x3 q12) zc_X7_walking zv_X7_walking tw_m_RX7_285 (mrec wr_P) (zroom_of rfl) rfl (Nat.le_of_ble_eq_true rfl) dX7_act_31 ?_
          refine z_goto (tgt := 57) dX7_act_34 (by decide) ?_
          exact z_lv rfl (J16 _ (if_pos c4).symm _ (if_pos c4).symm)
      · have hp := ip_f hp c3; have hv := it_f hv c3
        refine z_iconst (v := 0) dX7_act_22 rfl ?_
        subst hv; exact z_iret_W hQ rfl rfl rfl ⟨rfl, rfl⟩ dX7_act_23
theorem dX7_trace_0 : decode cX7_trace 0 = .ok (.iload_n 1, 1) := by decide +kernel
theorem dX7_trace_1 : decode cX7_trace 1 = .ok (.ifCond .lt 26, 3) := by decide +kernel
theorem dX7_trace_4 : decode cX7_trace 4 = .ok (.iload_n 1, 1) := by decide +kernel
theorem dX7_trace_5 : decode cX7_trace 5 = .ok (.bipush 20, 2) := by decide +kernel
theorem dX7_trace_7 : decode cX7_trace 7 = .ok (.if_icmp .ge 20, 3) := by decide +kernel
theorem dX7_trace_10 : decode cX7_trace 10 = .ok (.iload_n 1, 1) := by decide +kernel
theorem dX7_trace_11 : decode cX7_trace 11 = .ok (.aload_n 0, 1) := by decide +kernel
theorem dX7_trace_12 : decode cX7_trace 12 = .ok (.getfield 279, 3) := by decide +kernel
theorem dX7_trace_15 : decode cX7_trace 15 = .ok (.if_icmp .ge 12, 3) := by decide +kernel
theorem dX7_trace_18 : decode cX7_trace 18 = .ok (.aload_n 0, 1) := by decide +kernel
theorem dX7_trace_19 : decode cX7_trace 19 = .ok (.getfield 96, 3) := by decide +kernel
theorem dX7_trace_22 : decode cX7_trace 22 = .ok (.iload_n 1, 1) := by decide +kernel
theorem dX7_trace_23 : decode cX7_trace 23 = .ok (.iaload, 1) := by decide +kernel
theorem dX7_trace_24 : decode cX7_trace 24 = .ok (.goto 4, 3) := by decide +kernel
theorem dX7_trace_27 : decode cX7_trace 27 = .ok (.iconst (-1), 1) := by decide +kernel
theorem dX7_trace_28 : decode cX7_trace 28 = .ok (.ireturn, 1) := by decide +kernel
abbrev k_X7_trace : zK := (cX7_trace, 2, RX7, (some .int), ({ frames := 0, cells := 0, slots := 0, locals := 0 } : Room))
theorem zc_X7_trace : zcal yX7_trace k_X7_trace.1 k_X7_trace.2.1 k_X7_trace.2.2.2.1 1 := ⟨tw_code_yX7_trace, tw_i_TollForHesitatorsModel, ⟨by decide +kernel, by decide +kernel⟩, by decide +kernel⟩
theorem zv_X7_trace : Cond.instanceMethod yX7_trace ∈ TS ∧ Cond.selects RX7 yX7_trace yX7_trace ∈ TS := ⟨tw_inst_yX7_trace, tw_s_yX7_trace⟩
def v_X7_trace (M : mT) (x1 : Int32) : Int32 := (if x1 < 0 then (-1) else (if 20 ≤ x1 then (-1) else (if (M.1 43) ≤ x1 then (-1) else (M.2.1 42) x1.toNatClampNeg)))
def p_X7_trace (M : mT) (x1 : Int32) : Prop := if x1 < 0 then True else if 20 ≤ x1 then True else if (M.1 43) ≤ x1 then True else vp_in x1 20
set_option maxHeartbeats 4000000 in
theorem c_X7_trace {l : Launch} (G : zG) (a : Nat → Nat) (M : mT) (x1 : Int32) (hp : p_X7_trace M x1) : Met l yX7_trace (.code yX7_trace k_X7_trace.1 k_X7_trace.2.1 k_X7_trace.2.2.2.1 :: TS) k_X7_trace.2.2.2.2 (Pz G [.ref (a 0), .int x1] (va_P G.2.1 CL (mW G a M))) (vp_Si (fun r => r = v_X7_trace M x1)) 0 0 (fun _ => False) := by
  refine zmet (by decide +kernel) rfl rfl (fun Γ hl0 hQ hN hF => ?_)
  have hI := rd_P (G := G) hF
  obtain ⟨res, hv⟩ : ∃ res, v_X7_trace M x1 = res := ⟨_, rfl⟩
  rw [hv] at hQ
  unfold v_X7_trace at hv
  unfold p_X7_trace at hp
  show Z k_X7_trace G Γ _ 0 0 [(0, .ref (a 0)), (1, .int x1)] 0 []
  refine z_iload_n dX7_trace_0 rfl ?_
  have hpm := hp
  have J8 : ∀ m7 : Int32, m7 = (if x1 < 0 then (-1) else (if 20 ≤ x1 then (-1) else (if (M.1 43) ≤ x1 then (-1) else (M.2.1 42) x1.toNatClampNeg))) → Z k_X7_trace G Γ (rd Γ.2.2.1.1.heap) 0 0 [(0, .ref (a 0)), (1, .int x1)] 28 [.int m7] := by
    intro m7 em7
    rewrite [em7]; clear em7
    exact z_iret_S hQ rfl hv dX7_trace_28
  refine z_if_lt (tgt := 27) dX7_trace_1 (by decide) (fun c1 => ?_) (fun c1 => ?_)
  · have hp := ip_t hpm c1
    refine z_iconst (v := (-1)) dX7_trace_27 rfl ?_
    exact z_lv rfl (J8 _ (if_pos c1).symm)
  · have hp := ip_f hpm c1
    refine z_iload_n dX7_trace_4 rfl ?_
    refine z_bipush (v := 20) dX7_trace_5 rfl ?_
    have hpm := hp
    have J9 : ∀ m6 : Int32, m6 = (if 20 ≤ x1 then (-1) else (if (M.1 43) ≤ x1 then (-1) else (M.2.1 42) x1.toNatClampNeg)) → Z k_X7_trace G Γ (rd Γ.2.2.1.1.heap) 0 0 [(0, .ref (a 0)), (1, .int x1)] 28 [.int m6] := by
      intro m6 em6
      rewrite [em6]; clear em6
      exact z_lv rfl (J8 _ (if_neg c1).symm)
    refine z_icmp_ge (tgt := 27) dX7_trace_7 (by decide) (fun c2 => ?_) (fun c2 => ?_)
    · have hp := ip_t hpm c2
      refine z_iconst (v := (-1)) dX7_trace_27 rfl ?_
      exact z_lv rfl (J9 _ (if_pos c2).symm)
    · have hp := ip_f hpm c2
      refine z_iload_n dX7_trace_10 rfl ?_
      refine z_aload_n dX7_trace_11 rfl ?_
      refine mg_43 (v := M.1 43) hI rfl rfl dX7_trace_12 ?_
      have hpm := hp
      have J10 : ∀ m5 : Int32, m5 = (if (M.1 43) ≤ x1 then (-1) else (M.2.1 42) x1.toNatClampNeg) → Z k_X7_trace G Γ (rd Γ.2.2.1.1.heap) 0 0 [(0, .ref (a 0)), (1, .int x1)] 28 [.int m5] := by
        intro m5 em5
        rewrite [em5]; clear em5
        exact z_lv rfl (J9 _ (if_neg c2).symm)
      refine z_icmp_ge (tgt := 27) dX7_trace_15 (by decide) (fun c3 => ?_) (fun c3 => ?_)
      · have hp := ip_t hpm c3
        refine z_iconst (v := (-1)) dX7_trace_27 rfl ?_
        exact z_lv rfl (J10 _ (if_pos c3).symm)
      · have hp := ip_f hpm c3
        refine z_aload_n dX7_trace_18 rfl ?_
        refine mg_42 hI rfl dX7_trace_19 ?_
        refine z_iload_n dX7_trace_22 rfl ?_
        have q4 := hp
        refine ml_42 (x := (M.2.1 42) x1.toNatClampNeg) hI q4 rfl dX7_trace_23 ?_
        refine z_goto (tgt := 28) dX7_trace_24 (by decide) ?_
        exact z_lv rfl (J10 _ (if_neg c3).symm)
theorem dX7_image_0 : decode cX7_image 0 = .ok (.aload_n 0, 1) := by decide +kernel
theorem dX7_image_1 : decode cX7_image 1 = .ok (.iconst 1, 1) := by decide +kernel
theorem dX7_image_2 : decode cX7_image 2 = .ok (.putfield 294, 3) := by decide +kernel
theorem dX7_image_5 : decode cX7_image 5 = .ok (.aload_n 0, 1) := by decide +kernel
theorem dX7_image_6 : decode cX7_image 6 = .ok (.aload_n 0, 1) := by decide +kernel
theorem dX7_image_7 : decode cX7_image 7 = .ok (.getfield 84, 3) := by decide +kernel
theorem dX7_image_10 : decode cX7_image 10 = .ok (.iconst 0, 1) := by decide +kernel
theorem dX7_image_11 : decode cX7_image 11 = .ok (.invokevirtual 183, 3) := by decide +kernel
theorem dX7_image_14 : decode cX7_image 14 = .ok (.aload_n 0, 1) := by decide +kernel
theorem dX7_image_15 : decode cX7_image 15 = .ok (.getfield 99, 3) := by decide +kernel
theorem dX7_image_18 : decode cX7_image 18 = .ok (.ireturn, 1) := by decide +kernel
abbrev k_X7_image : zK := (cX7_image, 1, RX7, (some .int), ({ frames := 2, cells := 0, slots := 0, locals := 48 } : Room))
theorem zc_X7_image : zcal yX7_image k_X7_image.1 k_X7_image.2.1 k_X7_image.2.2.2.1 0 := ⟨tw_code_yX7_image, tw_i_TollForHesitatorsModel, ⟨by decide +kernel, by decide +kernel⟩, by decide +kernel⟩
theorem zv_X7_image : Cond.instanceMethod yX7_image ∈ TS ∧ Cond.selects RX7 yX7_image yX7_image ∈ TS := ⟨tw_inst_yX7_image, tw_s_yX7_image⟩
def v_X7_image (M : mT) : Int32 × mT := kk (v_X7_all (msf M 44 1) 32 0) (fun q2 : mT => (q2.1 0, q2))
def p_X7_image (M : mT) : Prop := p_X7_all (msf M 44 1) 32 0
set_option maxHeartbeats 4000000 in
theorem c_X7_image {l : Launch} (G : zG) (a : Nat → Nat) {X : zX} (hX : XOK X) (sz : Nat) (M : mT) (hp : p_X7_image M) : Met l yX7_image (.code yX7_image k_X7_image.1 k_X7_image.2.1 k_X7_image.2.2.2.1 :: TS) k_X7_image.2.2.2.2 (Pz G [.ref (a 0)] (Fw G X (mW G a M) sz)) (Qwi G (fun r w => r = (v_X7_image M).1 ∧ w = mW G a (v_X7_image M).2) (va_A (mW G a M) sz)) 0 0 (va_A (mW G a M) sz) := by
  refine zmet (by decide +kernel) rfl rfl (fun Γ hl0 hQ hN hF => ?_)
  refine z_start hX hF (fun hw => ?_)
  generalize va_A (mW G a M) sz = A at hQ hw ⊢
  obtain ⟨res, hv⟩ : ∃ res, v_X7_image M = res := ⟨_, rfl⟩
  rw [hv] at hQ
  unfold v_X7_image at hv
  unfold p_X7_image at hp
  show Z k_X7_image G Γ _ 0 0 [(0, .ref (a 0))] 0 []
  refine z_aload_n dX7_image_0 rfl ?_
  refine z_iconst (v := 1) dX7_image_1 rfl ?_
  refine mp_44 (v := 1) rfl rfl rfl dX7_image_2 ?_
  refine z_aload_n dX7_image_5 rfl ?_
  refine z_aload_n dX7_image_6 rfl ?_
  refine mg_32 wr_P rfl dX7_image_7 ?_
  refine z_iconst (v := 0) dX7_image_10 rfl ?_
  have q1 := hp
  refine z_cavvD hw (fun sz => c_X7_all G a hw.1 sz (msf M 44 1) 32 0 q1) zc_X7_all zv_X7_all tw_m_RX7_183 (mrec wr_P) (zroom_of rfl) rfl (Nat.le_of_ble_eq_true rfl) dX7_image_11 ?_
  suffices z3 : ∀ q2 : mT, q2 = (v_X7_all (msf M 44 1) 32 0) → Z k_X7_image G Γ (wr G A Γ.2.2.1.1.heap (mW G a q2)) 0 0 [(0, .ref (a 0))] 14 [] from z3 _ rfl
  intro q2 hq2
  have hv := kk_vq hv hq2
  clear hq2
  refine z_aload_n dX7_image_14 rfl ?_
  refine mg_0 (v := q2.1 0) wr_P rfl rfl dX7_image_15 ?_
  subst hv; exact z_iret_W hQ rfl rfl rfl ⟨rfl, rfl⟩ dX7_image_18
theorem dX7_restore_0 : decode cX7_restore 0 = .ok (.aload_n 0, 1) := by decide +kernel
theorem dX7_restore_1 : decode cX7_restore 1 = .ok (.getfield 294, 3) := by decide +kernel
theorem dX7_restore_4 : decode cX7_restore 4 = .ok (.ifCond .ne 10, 3) := by decide +kernel
theorem dX7_restore_7 : decode cX7_restore 7 = .ok (.aload_n 0, 1) := by decide +kernel
theorem dX7_restore_8 : decode cX7_restore 8 = .ok (.bipush (-6), 2) := by decide +kernel
theorem dX7_restore_10 : decode cX7_restore 10 = .ok (.invokevirtual 106, 3) := by decide +kernel
theorem dX7_restore_13 : decode cX7_restore 13 = .ok (.ireturn, 1) := by decide +kernel
theorem dX7_restore_14 : decode cX7_restore 14 = .ok (.aload_n 0, 1) := by decide +kernel
theorem dX7_restore_15 : decode cX7_restore 15 = .ok (.aload_n 0, 1) := by decide +kernel
theorem dX7_restore_16 : decode cX7_restore 16 = .ok (.getfield 84, 3) := by decide +kernel
theorem dX7_restore_19 : decode cX7_restore 19 = .ok (.iconst 1, 1) := by decide +kernel
theorem dX7_restore_20 : decode cX7_restore 20 = .ok (.invokevirtual 183, 3) := by decide +kernel
theorem dX7_restore_23 : decode cX7_restore 23 = .ok (.iconst 0, 1) := by decide +kernel
theorem dX7_restore_24 : decode cX7_restore 24 = .ok (.istore_n 1, 1) := by decide +kernel
theorem dX7_restore_25 : decode cX7_restore 25 = .ok (.iload_n 1, 1) := by decide +kernel
theorem dX7_restore_26 : decode cX7_restore 26 = .ok (.bipush 8, 2) := by decide +kernel
theorem dX7_restore_28 : decode cX7_restore 28 = .ok (.if_icmp .ge 39, 3) := by decide +kernel
theorem dX7_restore_31 : decode cX7_restore 31 = .ok (.aload_n 0, 1) := by decide +kernel
theorem dX7_restore_32 : decode cX7_restore 32 = .ok (.getfield 50, 3) := by decide +kernel
theorem dX7_restore_35 : decode cX7_restore 35 = .ok (.iload_n 1, 1) := by decide +kernel
theorem dX7_restore_36 : decode cX7_restore 36 = .ok (.iaload, 1) := by decide +kernel
theorem dX7_restore_37 : decode cX7_restore 37 = .ok (.iconst 2, 1) := by decide +kernel
theorem dX7_restore_38 : decode cX7_restore 38 = .ok (.if_icmp .ne 23, 3) := by decide +kernel
theorem dX7_restore_41 : decode cX7_restore 41 = .ok (.aload_n 0, 1) := by decide +kernel
theorem dX7_restore_42 : decode cX7_restore 42 = .ok (.getfield 59, 3) := by decide +kernel
theorem dX7_restore_45 : decode cX7_restore 45 = .ok (.iload_n 1, 1) := by decide +kernel
theorem dX7_restore_46 : decode cX7_restore 46 = .ok (.iaload, 1) := by decide +kernel
theorem dX7_restore_47 : decode cX7_restore 47 = .ok (.aload_n 0, 1) := by decide +kernel
theorem dX7_restore_48 : decode cX7_restore 48 = .ok (.getfield 99, 3) := by decide +kernel
theorem dX7_restore_51 : decode cX7_restore 51 = .ok (.if_icmp .lt 10, 3) := by decide +kernel
theorem dX7_restore_54 : decode cX7_restore 54 = .ok (.aload_n 0, 1) := by decide +kernel
theorem dX7_restore_55 : decode cX7_restore 55 = .ok (.getfield 50, 3) := by decide +kernel
theorem dX7_restore_58 : decode cX7_restore 58 = .ok (.iload_n 1, 1) := by decide +kernel
theorem dX7_restore_59 : decode cX7_restore 59 = .ok (.iconst 0, 1) := by decide +kernel
theorem dX7_restore_60 : decode cX7_restore 60 = .ok (.iastore, 1) := by decide +kernel
theorem dX7_restore_61 : decode cX7_restore 61 = .ok (.iinc 1 1, 3) := by decide +kernel
theorem dX7_restore_64 : decode cX7_restore 64 = .ok (.goto (-39), 3) := by decide +kernel
theorem dX7_restore_67 : decode cX7_restore 67 = .ok (.aload_n 0, 1) := by decide +kernel
theorem dX7_restore_68 : decode cX7_restore 68 = .ok (.getfield 99, 3) := by decide +kernel
theorem dX7_restore_71 : decode cX7_restore 71 = .ok (.ireturn, 1) := by decide +kernel
abbrev k_X7_restore : zK := (cX7_restore, 2, RX7, (some .int), ({ frames := 2, cells := 0, slots := 0, locals := 48 } : Room))
theorem zc_X7_restore : zcal yX7_restore k_X7_restore.1 k_X7_restore.2.1 k_X7_restore.2.2.2.1 0 := ⟨tw_code_yX7_restore, tw_i_TollForHesitatorsModel, ⟨by decide +kernel, by decide +kernel⟩, by decide +kernel⟩
theorem zv_X7_restore : Cond.instanceMethod yX7_restore ∈ TS ∧ Cond.selects RX7 yX7_restore yX7_restore ∈ TS := ⟨tw_inst_yX7_restore, tw_s_yX7_restore⟩
def v_X7_restore_r : Nat → mT → Int32 → Int32 × mT
  | 0, M, _ => (0, M)
  | n + 1, M, v1 => if 8 ≤ v1 then (M.1 0, M) else kk (if ((M.2.1 16) v1.toNatClampNeg) = 2 then (if ((M.2.1 19) v1.toNatClampNeg) < (M.1 0) then M else msa M 16 (upd (M.2.1 16) v1.toNatClampNeg 0)) else M) (fun M20 : mT => v_X7_restore_r n M20 (v1 + 1))
def p_X7_restore_r : Nat → mT → Int32 → Prop
  | 0, _, _ => False
  | n + 1, M, v1 => if 8 ≤ v1 then True else vp_in v1 8 ∧ ((if ((M.2.1 16) v1.toNatClampNeg) = 2 then vp_in v1 8 ∧ (if ((M.2.1 19) v1.toNatClampNeg) < (M.1 0) then True else vp_in v1 8) else True) ∧ (kk (if ((M.2.1 16) v1.toNatClampNeg) = 2 then (if ((M.2.1 19) v1.toNatClampNeg) < (M.1 0) then M else msa M 16 (upd (M.2.1 16) v1.toNatClampNeg 0)) else M) (fun M20 : mT => p_X7_restore_r n M20 (v1 + 1))))
set_option maxHeartbeats 4000000 in
theorem w_X7_restore {G : zG} {Γ : zT} {a : Nat → Nat} {A : Nat → Prop} {res : Int32 × mT} {X : zX} (hw : wk X A Γ.2.2.1.1.heap) (hQ : zQ Γ (Qwi G (fun r w => r = res.1 ∧ w = mW G a res.2) A) 0 0 A) : ∀ n : Nat, (∀ (M : mT) (v1 : Int32), p_X7_restore_r n M v1 → v_X7_restore_r n M v1 = res → Z k_X7_restore G Γ (wr G A Γ.2.2.1.1.heap (mW G a M)) 0 0 [(0, .ref (a 0)), (1, .int v1)] 25 []) := by
  intro n
  induction n with
  | zero => exact fun M v1 hp => absurd hp (by rw [p_X7_restore_r]; exact not_false)
  | succ n ih =>
    intro M v1 hp hv
    rw [p_X7_restore_r] at hp
    rw [v_X7_restore_r] at hv
    refine z_iload_n dX7_restore_25 rfl ?_
    refine z_bipush (v := 8) dX7_restore_26 rfl ?_
    refine z_icmp_ge (tgt := 67) dX7_restore_28 (by decide) (fun c6 => ?_) (fun c6 => ?_)
    · have hp := ip_t hp c6; have hv := it_t hv c6
      refine z_aload_n dX7_restore_67 rfl ?_
      refine mg_0 (v := M.1 0) wr_P rfl rfl dX7_restore_68 ?_
      subst hv; exact z_iret_W hQ rfl rfl rfl ⟨rfl, rfl⟩ dX7_restore_71
    · have hp := ip_f hp c6; have hv := it_f hv c6
      refine z_aload_n dX7_restore_31 rfl ?_
      refine mg_16 wr_P rfl dX7_restore_32 ?_
      refine z_iload_n dX7_restore_35 rfl ?_
      obtain ⟨q14, hp⟩ := hp
      refine ml_16 (x := (M.2.1 16) v1.toNatClampNeg) wr_P q14 rfl dX7_restore_36 ?_
      refine z_iconst (v := 2) dX7_restore_37 rfl ?_
      obtain ⟨hpm, hp⟩ := hp
      have J21 : ∀ M20 : mT, M20 = (if ((M.2.1 16) v1.toNatClampNeg) = 2 then (if ((M.2.1 19) v1.toNatClampNeg) < (M.1 0) then M else msa M 16 (upd (M.2.1 16) v1.toNatClampNeg 0)) else M) → Z k_X7_restore G Γ (wr G A Γ.2.2.1.1.heap (mW G a M20)) 0 0 [(0, .ref (a 0)), (1, .int v1)] 61 [] := by
        intro M20 eM20
        have hp := kk_pq hp eM20
        have hv := kk_vq hv eM20
        clear eM20
        refine z_iinc (v := v1 + 1) (lv' := [(1, .int (v1 + 1)), (0, .ref (a 0))]) dX7_restore_61 1 rfl rfl (Nat.le_of_ble_eq_true rfl) rfl ?_
        refine z_goto (tgt := 25) dX7_restore_64 (by decide) ?_
        exact z_lv rfl ((ih) M20 (v1 + 1) hp hv)
      refine z_icmp_ne (tgt := 61) dX7_restore_38 (by decide) (fun c15 => ?_) (fun c15 => ?_)
      · have hp := ip_f hpm c15
        exact z_lv rfl (J21 _ (if_neg c15).symm)
      · have hp := ip_t hpm c15
        refine z_aload_n dX7_restore_41 rfl ?_
        refine mg_19 wr_P rfl dX7_restore_42 ?_
        refine z_iload_n dX7_restore_45 rfl ?_
        obtain ⟨q16, hp⟩ := hp
        refine ml_19 (x := (M.2.1 19) v1.toNatClampNeg) wr_P q16 rfl dX7_restore_46 ?_
        refine z_aload_n dX7_restore_47 rfl ?_
        refine mg_0 (v := M.1 0) wr_P rfl rfl dX7_restore_48 ?_
        have hpm := hp
        have J22 : ∀ M19 : mT, M19 = (if ((M.2.1 19) v1.toNatClampNeg) < (M.1 0) then M else msa M 16 (upd (M.2.1 16) v1.toNatClampNeg 0)) → Z k_X7_restore G Γ (wr G A Γ.2.2.1.1.heap (mW G a M19)) 0 0 [(0, .ref (a 0)), (1, .int v1)] 61 [] := by
          intro M19 eM19
          rewrite [eM19]; clear eM19
          exact z_lv rfl (J21 _ (if_pos c15).symm)
        refine z_icmp_lt (tgt := 61) dX7_restore_51 (by decide) (fun c17 => ?_) (fun c17 => ?_)
        · have hp := ip_t hpm c17
          exact z_lv rfl (J22 _ (if_pos c17).symm)
        · have hp := ip_f hpm c17
          refine z_aload_n dX7_restore_54 rfl ?_
          refine mg_16 wr_P rfl dX7_restore_55 ?_
          refine z_iload_n dX7_restore_58 rfl ?_
          refine z_iconst (v := 0) dX7_restore_59 rfl ?_
          have q18 := hp
          refine ms_16 (F := upd (M.2.1 16) v1.toNatClampNeg 0) q18 rfl dX7_restore_60 ?_
          exact z_lv rfl (J22 _ (if_neg c17).symm)
def v_X7_restore (M : mT) : Int32 × mT := if (M.1 44) = 0 then kk (v_X7_no M (-6)) (fun q5 : Int32 × mT => (q5.1, q5.2)) else kk (v_X7_all M 32 1) (fun q3 : mT => v_X7_restore_r 200 q3 0)
def p_X7_restore (M : mT) : Prop := if (M.1 44) = 0 then p_X7_no M (-6) else p_X7_all M 32 1 ∧ (kk (v_X7_all M 32 1) (fun q3 : mT => p_X7_restore_r 200 q3 0))
set_option maxHeartbeats 4000000 in
theorem c_X7_restore {l : Launch} (G : zG) (a : Nat → Nat) {X : zX} (hX : XOK X) (sz : Nat) (M : mT) (hp : p_X7_restore M) : Met l yX7_restore (.code yX7_restore k_X7_restore.1 k_X7_restore.2.1 k_X7_restore.2.2.2.1 :: TS) k_X7_restore.2.2.2.2 (Pz G [.ref (a 0)] (Fw G X (mW G a M) sz)) (Qwi G (fun r w => r = (v_X7_restore M).1 ∧ w = mW G a (v_X7_restore M).2) (va_A (mW G a M) sz)) 0 0 (va_A (mW G a M) sz) := by
  refine zmet (by decide +kernel) rfl rfl (fun Γ hl0 hQ hN hF => ?_)
  refine z_start hX hF (fun hw => ?_)
  generalize va_A (mW G a M) sz = A at hQ hw ⊢
  obtain ⟨res, hv⟩ : ∃ res, v_X7_restore M = res := ⟨_, rfl⟩
  rw [hv] at hQ
  unfold v_X7_restore at hv
  unfold p_X7_restore at hp
  show Z k_X7_restore G Γ _ 0 0 [(0, .ref (a 0))] 0 []
  refine z_aload_n dX7_restore_0 rfl ?_
  refine mg_44 (v := M.1 44) wr_P rfl rfl dX7_restore_1 ?_
  refine z_if_ne (tgt := 14) dX7_restore_4 (by decide) (fun c1 => ?_) (fun c1 => ?_)
  · have hp := ip_f hp c1; have hv := it_f hv c1
    refine z_aload_n dX7_restore_14 rfl ?_
    refine z_aload_n dX7_restore_15 rfl ?_
    refine mg_32 wr_P rfl dX7_restore_16 ?_
    refine z_iconst (v := 1) dX7_restore_19 rfl ?_
    obtain ⟨q2, hp⟩ := hp
    refine z_cavvD hw (fun sz => c_X7_all G a hw.1 sz M 32 1 q2) zc_X7_all zv_X7_all tw_m_RX7_183 (mrec wr_P) (zroom_of rfl) rfl (Nat.le_of_ble_eq_true rfl) dX7_restore_20 ?_
    suffices z23 : ∀ q3 : mT, q3 = (v_X7_all M 32 1) → Z k_X7_restore G Γ (wr G A Γ.2.2.1.1.heap (mW G a q3)) 0 0 [(0, .ref (a 0))] 23 [] from z23 _ rfl
    intro q3 hq3
    have hp := kk_pq hp hq3
    have hv := kk_vq hv hq3
    clear hq3
    refine z_iconst (v := 0) dX7_restore_23 rfl ?_
    refine z_istore_n (lv' := [(1, .int 0), (0, .ref (a 0))]) dX7_restore_24 (Nat.le_of_ble_eq_true rfl) rfl ?_
    exact z_lv rfl ((w_X7_restore hw hQ 200) q3 0 hp hv)
  · have hp := ip_t hp c1; have hv := it_t hv c1
    refine z_aload_n dX7_restore_7 rfl ?_
    refine z_bipush (v := (-6)) dX7_restore_8 rfl ?_
    have q4 := hp
    refine z_caviD hw (fun sz => c_X7_no G a hw.1 sz M (-6) q4) zc_X7_no zv_X7_no tw_m_RX7_106 (mrec wr_P) (zroom_of rfl) rfl (Nat.le_of_ble_eq_true rfl) dX7_restore_10 ?_
    suffices z24 : ∀ q5 : Int32 × mT, q5 = (v_X7_no M (-6)) → Z k_X7_restore G Γ (wr G A Γ.2.2.1.1.heap (mW G a q5.2)) 0 0 [(0, .ref (a 0))] 13 [.int q5.1] from z24 _ rfl
    intro q5 hq5
    have hv := kk_vq hv hq5
    clear hq5
    subst hv; exact z_iret_W hQ rfl rfl rfl ⟨rfl, rfl⟩ dX7_restore_13
theorem dX7_together_0 : decode cX7_together 0 = .ok (.iconst 0, 1) := by decide +kernel
theorem dX7_together_1 : decode cX7_together 1 = .ok (.istore_n 2, 1) := by decide +kernel
theorem dX7_together_2 : decode cX7_together 2 = .ok (.iconst 0, 1) := by decide +kernel
theorem dX7_together_3 : decode cX7_together 3 = .ok (.istore_n 3, 1) := by decide +kernel
theorem dX7_together_4 : decode cX7_together 4 = .ok (.iload_n 3, 1) := by decide +kernel
theorem dX7_together_5 : decode cX7_together 5 = .ok (.aload_n 0, 1) := by decide +kernel
theorem dX7_together_6 : decode cX7_together 6 = .ok (.getfield 99, 3) := by decide +kernel
theorem dX7_together_9 : decode cX7_together 9 = .ok (.if_icmp .ge 15, 3) := by decide +kernel
theorem dX7_together_12 : decode cX7_together 12 = .ok (.iload_n 2, 1) := by decide +kernel
theorem dX7_together_13 : decode cX7_together 13 = .ok (.aload_n 1, 1) := by decide +kernel
theorem dX7_together_14 : decode cX7_together 14 = .ok (.iload_n 3, 1) := by decide +kernel
theorem dX7_together_15 : decode cX7_together 15 = .ok (.iaload, 1) := by decide +kernel
theorem dX7_together_16 : decode cX7_together 16 = .ok (.iadd, 1) := by decide +kernel
theorem dX7_together_17 : decode cX7_together 17 = .ok (.istore_n 2, 1) := by decide +kernel
theorem dX7_together_18 : decode cX7_together 18 = .ok (.iinc 3 1, 3) := by decide +kernel
theorem dX7_together_21 : decode cX7_together 21 = .ok (.goto (-17), 3) := by decide +kernel
theorem dX7_together_24 : decode cX7_together 24 = .ok (.iload_n 2, 1) := by decide +kernel
theorem dX7_together_25 : decode cX7_together 25 = .ok (.ireturn, 1) := by decide +kernel
abbrev k_X7_together : zK := (cX7_together, 4, RX7, (some .int), ({ frames := 0, cells := 0, slots := 0, locals := 0 } : Room))
theorem zc_X7_together : zcal yX7_together k_X7_together.1 k_X7_together.2.1 k_X7_together.2.2.2.1 1 := ⟨tw_code_yX7_together, tw_i_TollForHesitatorsModel, ⟨by decide +kernel, by decide +kernel⟩, by decide +kernel⟩
theorem zv_X7_together : Cond.instanceMethod yX7_together ∈ TS ∧ Cond.selects RX7 yX7_together yX7_together ∈ TS := ⟨tw_inst_yX7_together, tw_s_yX7_together⟩
def v_X7_together_r (M : mT) (j1 : Nat) : Nat → Int32 → Int32 → Int32
  | 0, _, _ => 0
  | n + 1, v2, v3 => if (M.1 0) ≤ v3 then v2 else v_X7_together_r M j1 n (v2 + ((M.2.1 j1) v3.toNatClampNeg)) (v3 + 1)
def p_X7_together_r (M : mT) (j1 : Nat) : Nat → Int32 → Int32 → Prop
  | 0, _, _ => False
  | n + 1, v2, v3 => if (M.1 0) ≤ v3 then True else mO7 j1 ∧ (vp_in v3 7 ∧ (p_X7_together_r M j1 n (v2 + ((M.2.1 j1) v3.toNatClampNeg)) (v3 + 1)))
set_option maxHeartbeats 4000000 in
theorem w_X7_together {G : zG} {Γ : zT} {a : Nat → Nat} {res : Int32} (M : mT) (j1 : Nat) (hF : va_P G.2.1 CL (mW G a M) Γ.2.2.1.1.heap) (hQ : zQ Γ (vp_Si (fun r => r = res)) 0 0 (fun _ => False)) : ∀ n : Nat, (∀ (v2 : Int32) (v3 : Int32), p_X7_together_r M j1 n v2 v3 → v_X7_together_r M j1 n v2 v3 = res → Z k_X7_together G Γ (rd Γ.2.2.1.1.heap) 0 0 [(0, .ref (a 0)), (1, .ref (a j1)), (2, .int v2), (3, .int v3)] 4 []) := by
  have hI := rd_P (G := G) hF
  intro n
  induction n with
  | zero => exact fun v2 v3 hp => absurd hp (by rw [p_X7_together_r]; exact not_false)
  | succ n ih =>
    intro v2 v3 hp hv
    rw [p_X7_together_r] at hp
    rw [v_X7_together_r] at hv
    refine z_iload_n dX7_together_4 rfl ?_
    refine z_aload_n dX7_together_5 rfl ?_
    refine mg_0 (v := M.1 0) hI rfl rfl dX7_together_6 ?_
    refine z_icmp_ge (tgt := 24) dX7_together_9 (by decide) (fun c1 => ?_) (fun c1 => ?_)
    · have hp := ip_t hp c1; have hv := it_t hv c1
      refine z_iload_n dX7_together_24 rfl ?_
      exact z_iret_S hQ rfl hv dX7_together_25
    · have hp := ip_f hp c1; have hv := it_f hv c1
      refine z_iload_n dX7_together_12 rfl ?_
      refine z_aload_n dX7_together_13 rfl ?_
      refine z_iload_n dX7_together_14 rfl ?_
      obtain ⟨q5, hp⟩ := hp
      skip
      obtain ⟨q4, hp⟩ := hp
      refine mlv7 (x := (M.2.1 j1) v3.toNatClampNeg) hI q5 q4 rfl dX7_together_15 ?_
      refine z_iadd dX7_together_16 ?_
      refine z_istore_n (lv' := [(2, .int (v2 + ((M.2.1 j1) v3.toNatClampNeg))), (0, .ref (a 0)), (1, .ref (a j1)), (3, .int v3)]) dX7_together_17 (Nat.le_of_ble_eq_true rfl) rfl ?_
      refine z_iinc (v := v3 + 1) (lv' := [(3, .int (v3 + 1)), (2, .int (v2 + ((M.2.1 j1) v3.toNatClampNeg))), (0, .ref (a 0)), (1, .ref (a j1))]) dX7_together_18 3 rfl rfl (Nat.le_of_ble_eq_true rfl) rfl ?_
      refine z_goto (tgt := 4) dX7_together_21 (by decide) ?_
      exact z_lv rfl ((ih) (v2 + ((M.2.1 j1) v3.toNatClampNeg)) (v3 + 1) hp hv)
def v_X7_together (M : mT) (j1 : Nat) : Int32 := v_X7_together_r M j1 200 0 0
def p_X7_together (M : mT) (j1 : Nat) : Prop := p_X7_together_r M j1 200 0 0
set_option maxHeartbeats 4000000 in
theorem c_X7_together {l : Launch} (G : zG) (a : Nat → Nat) (M : mT) (j1 : Nat) (hp : p_X7_together M j1) : Met l yX7_together (.code yX7_together k_X7_together.1 k_X7_together.2.1 k_X7_together.2.2.2.1 :: TS) k_X7_together.2.2.2.2 (Pz G [.ref (a 0), .ref (a j1)] (va_P G.2.1 CL (mW G a M))) (vp_Si (fun r => r = v_X7_together M j1)) 0 0 (fun _ => False) := by
  refine zmet (by decide +kernel) rfl rfl (fun Γ hl0 hQ hN hF => ?_)
  have hI := rd_P (G := G) hF
  obtain ⟨res, hv⟩ : ∃ res, v_X7_together M j1 = res := ⟨_, rfl⟩
  rw [hv] at hQ
  unfold v_X7_together at hv
  unfold p_X7_together at hp
  show Z k_X7_together G Γ _ 0 0 [(0, .ref (a 0)), (1, .ref (a j1))] 0 []
  refine z_iconst (v := 0) dX7_together_0 rfl ?_
  refine z_istore_n (lv' := [(2, .int 0), (0, .ref (a 0)), (1, .ref (a j1))]) dX7_together_1 (Nat.le_of_ble_eq_true rfl) rfl ?_
  refine z_iconst (v := 0) dX7_together_2 rfl ?_
  refine z_istore_n (lv' := [(3, .int 0), (2, .int 0), (0, .ref (a 0)), (1, .ref (a j1))]) dX7_together_3 (Nat.le_of_ble_eq_true rfl) rfl ?_
  exact z_lv rfl ((w_X7_together M j1 hF hQ 200) 0 0 hp hv)
theorem dX7_status_0 : decode cX7_status 0 = .ok (.iload_n 1, 1) := by decide +kernel
theorem dX7_status_1 : decode cX7_status 1 = .ok (.bipush 11, 2) := by decide +kernel
theorem dX7_status_3 : decode cX7_status 3 = .ok (.if_icmp .lt 19, 3) := by decide +kernel
theorem dX7_status_6 : decode cX7_status 6 = .ok (.iload_n 1, 1) := by decide +kernel
theorem dX7_status_7 : decode cX7_status 7 = .ok (.bipush 17, 2) := by decide +kernel
theorem dX7_status_9 : decode cX7_status 9 = .ok (.if_icmp .gt 13, 3) := by decide +kernel
theorem dX7_status_12 : decode cX7_status 12 = .ok (.aload_n 0, 1) := by decide +kernel
theorem dX7_status_13 : decode cX7_status 13 = .ok (.getfield 25, 3) := by decide +kernel
theorem dX7_status_16 : decode cX7_status 16 = .ok (.iload_n 1, 1) := by decide +kernel
theorem dX7_status_17 : decode cX7_status 17 = .ok (.bipush 10, 2) := by decide +kernel
theorem dX7_status_19 : decode cX7_status 19 = .ok (.isub, 1) := by decide +kernel
theorem dX7_status_20 : decode cX7_status 20 = .ok (.iaload, 1) := by decide +kernel
theorem dX7_status_21 : decode cX7_status 21 = .ok (.ireturn, 1) := by decide +kernel
theorem dX7_status_22 : decode cX7_status 22 = .ok (.iload_n 1, 1) := by decide +kernel
theorem dX7_status_23 : decode cX7_status 23 = .ok (.tableswitch 111 0 9 #[53, 58, 63, 68, 73, 78, 83, 92, 101, 106], 53) := by decide +kernel
theorem dX7_status_76 : decode cX7_status 76 = .ok (.aload_n 0, 1) := by decide +kernel
theorem dX7_status_77 : decode cX7_status 77 = .ok (.getfield 99, 3) := by decide +kernel
theorem dX7_status_80 : decode cX7_status 80 = .ok (.ireturn, 1) := by decide +kernel
theorem dX7_status_81 : decode cX7_status 81 = .ok (.aload_n 0, 1) := by decide +kernel
theorem dX7_status_82 : decode cX7_status 82 = .ok (.getfield 7, 3) := by decide +kernel
theorem dX7_status_85 : decode cX7_status 85 = .ok (.ireturn, 1) := by decide +kernel
theorem dX7_status_86 : decode cX7_status 86 = .ok (.aload_n 0, 1) := by decide +kernel
theorem dX7_status_87 : decode cX7_status 87 = .ok (.getfield 124, 3) := by decide +kernel
theorem dX7_status_90 : decode cX7_status 90 = .ok (.ireturn, 1) := by decide +kernel
theorem dX7_status_91 : decode cX7_status 91 = .ok (.aload_n 0, 1) := by decide +kernel
theorem dX7_status_92 : decode cX7_status 92 = .ok (.getfield 13, 3) := by decide +kernel
theorem dX7_status_95 : decode cX7_status 95 = .ok (.ireturn, 1) := by decide +kernel
theorem dX7_status_96 : decode cX7_status 96 = .ok (.aload_n 0, 1) := by decide +kernel
theorem dX7_status_97 : decode cX7_status 97 = .ok (.getfield 16, 3) := by decide +kernel
theorem dX7_status_100 : decode cX7_status 100 = .ok (.ireturn, 1) := by decide +kernel
theorem dX7_status_101 : decode cX7_status 101 = .ok (.aload_n 0, 1) := by decide +kernel
theorem dX7_status_102 : decode cX7_status 102 = .ok (.getfield 177, 3) := by decide +kernel
theorem dX7_status_105 : decode cX7_status 105 = .ok (.ireturn, 1) := by decide +kernel
theorem dX7_status_106 : decode cX7_status 106 = .ok (.aload_n 0, 1) := by decide +kernel
theorem dX7_status_107 : decode cX7_status 107 = .ok (.aload_n 0, 1) := by decide +kernel
theorem dX7_status_108 : decode cX7_status 108 = .ok (.getfield 35, 3) := by decide +kernel
theorem dX7_status_111 : decode cX7_status 111 = .ok (.invokevirtual 298, 3) := by decide +kernel
theorem dX7_status_114 : decode cX7_status 114 = .ok (.ireturn, 1) := by decide +kernel
theorem dX7_status_115 : decode cX7_status 115 = .ok (.aload_n 0, 1) := by decide +kernel
theorem dX7_status_116 : decode cX7_status 116 = .ok (.aload_n 0, 1) := by decide +kernel
theorem dX7_status_117 : decode cX7_status 117 = .ok (.getfield 44, 3) := by decide +kernel
theorem dX7_status_120 : decode cX7_status 120 = .ok (.invokevirtual 298, 3) := by decide +kernel
theorem dX7_status_123 : decode cX7_status 123 = .ok (.ireturn, 1) := by decide +kernel
theorem dX7_status_124 : decode cX7_status 124 = .ok (.aload_n 0, 1) := by decide +kernel
theorem dX7_status_125 : decode cX7_status 125 = .ok (.getfield 19, 3) := by decide +kernel
theorem dX7_status_128 : decode cX7_status 128 = .ok (.ireturn, 1) := by decide +kernel
theorem dX7_status_129 : decode cX7_status 129 = .ok (.aload_n 0, 1) := by decide +kernel
theorem dX7_status_130 : decode cX7_status 130 = .ok (.getfield 279, 3) := by decide +kernel
theorem dX7_status_133 : decode cX7_status 133 = .ok (.ireturn, 1) := by decide +kernel
theorem dX7_status_134 : decode cX7_status 134 = .ok (.iconst (-1), 1) := by decide +kernel
theorem dX7_status_135 : decode cX7_status 135 = .ok (.ireturn, 1) := by decide +kernel
abbrev k_X7_status : zK := (cX7_status, 2, RX7, (some .int), ({ frames := 1, cells := 0, slots := 0, locals := 23 } : Room))
theorem zc_X7_status : zcal yX7_status k_X7_status.1 k_X7_status.2.1 k_X7_status.2.2.2.1 1 := ⟨tw_code_yX7_status, tw_i_TollForHesitatorsModel, ⟨by decide +kernel, by decide +kernel⟩, by decide +kernel⟩
theorem zv_X7_status : Cond.instanceMethod yX7_status ∈ TS ∧ Cond.selects RX7 yX7_status yX7_status ∈ TS := ⟨tw_inst_yX7_status, tw_s_yX7_status⟩
def v_X7_status (M : mT) (x1 : Int32) : Int32 × mT := if x1 < 11 then if x1 = 0 then (M.1 0, M) else if x1 = 1 then (M.1 1, M) else if x1 = 2 then (M.1 2, M) else if x1 = 3 then (M.1 3, M) else if x1 = 4 then (M.1 4, M) else if x1 = 5 then (M.1 5, M) else if x1 = 6 then ((v_X7_together M 11), M) else if x1 = 7 then ((v_X7_together M 14), M) else if x1 = 8 then (M.1 6, M) else if x1 = 9 then (M.1 43, M) else ((-1), M) else if 17 < x1 then if x1 = 0 then (M.1 0, M) else if x1 = 1 then (M.1 1, M) else if x1 = 2 then (M.1 2, M) else if x1 = 3 then (M.1 3, M) else if x1 = 4 then (M.1 4, M) else if x1 = 5 then (M.1 5, M) else if x1 = 6 then ((v_X7_together M 11), M) else if x1 = 7 then ((v_X7_together M 14), M) else if x1 = 8 then (M.1 6, M) else if x1 = 9 then (M.1 43, M) else ((-1), M) else ((M.2.1 8) (x1 - 10).toNatClampNeg, M)
def p_X7_status (M : mT) (x1 : Int32) : Prop := if x1 < 11 then if x1 = 0 then True else if x1 = 1 then True else if x1 = 2 then True else if x1 = 3 then True else if x1 = 4 then True else if x1 = 5 then True else if x1 = 6 then p_X7_together M 11 else if x1 = 7 then p_X7_together M 14 else if x1 = 8 then True else if x1 = 9 then True else True else if 17 < x1 then if x1 = 0 then True else if x1 = 1 then True else if x1 = 2 then True else if x1 = 3 then True else if x1 = 4 then True else if x1 = 5 then True else if x1 = 6 then p_X7_together M 11 else if x1 = 7 then p_X7_together M 14 else if x1 = 8 then True else if x1 = 9 then True else True else vp_in (x1 - 10) 8
set_option maxHeartbeats 4000000 in
theorem c_X7_status {l : Launch} (G : zG) (a : Nat → Nat) {X : zX} (hX : XOK X) (sz : Nat) (M : mT) (x1 : Int32) (hp : p_X7_status M x1) : Met l yX7_status (.code yX7_status k_X7_status.1 k_X7_status.2.1 k_X7_status.2.2.2.1 :: TS) k_X7_status.2.2.2.2 (Pz G [.ref (a 0), .int x1] (Fw G X (mW G a M) sz)) (Qwi G (fun r w => r = (v_X7_status M x1).1 ∧ w = mW G a (v_X7_status M x1).2) (va_A (mW G a M) sz)) 0 0 (va_A (mW G a M) sz) := by
  refine zmet (by decide +kernel) rfl rfl (fun Γ hl0 hQ hN hF => ?_)
  refine z_start hX hF (fun hw => ?_)
  generalize va_A (mW G a M) sz = A at hQ hw ⊢
  obtain ⟨res, hv⟩ : ∃ res, v_X7_status M x1 = res := ⟨_, rfl⟩
  rw [hv] at hQ
  unfold v_X7_status at hv
  unfold p_X7_status at hp
  show Z k_X7_status G Γ _ 0 0 [(0, .ref (a 0)), (1, .int x1)] 0 []
  refine z_iload_n dX7_status_0 rfl ?_
  refine z_bipush (v := 11) dX7_status_1 rfl ?_
  refine z_icmp_lt (tgt := 22) dX7_status_3 (by decide) (fun c1 => ?_) (fun c1 => ?_)
  · have hp := ip_t hp c1; have hv := it_t hv c1
    refine z_iload_n dX7_status_22 rfl ?_
    by_cases c2 : x1 = 0
    · have hp := ip_t hp c2; have hv := it_t hv c2
      refine z_tableIn (tgt := 76) dX7_status_23 0 c2 (by decide) (by decide) rfl (by decide) ?_
      refine z_aload_n dX7_status_76 rfl ?_
      refine mg_0 (v := M.1 0) wr_P rfl rfl dX7_status_77 ?_
      subst hv; exact z_iret_W hQ rfl rfl rfl ⟨rfl, rfl⟩ dX7_status_80
    have hp := ip_f hp c2
    have hv := it_f hv c2
    by_cases c3 : x1 = 1
    · have hp := ip_t hp c3; have hv := it_t hv c3
      refine z_tableIn (tgt := 81) dX7_status_23 1 c3 (by decide) (by decide) rfl (by decide) ?_
      refine z_aload_n dX7_status_81 rfl ?_
      refine mg_1 (v := M.1 1) wr_P rfl rfl dX7_status_82 ?_
      subst hv; exact z_iret_W hQ rfl rfl rfl ⟨rfl, rfl⟩ dX7_status_85
    have hp := ip_f hp c3
    have hv := it_f hv c3
    by_cases c4 : x1 = 2
    · have hp := ip_t hp c4; have hv := it_t hv c4
      refine z_tableIn (tgt := 86) dX7_status_23 2 c4 (by decide) (by decide) rfl (by decide) ?_
      refine z_aload_n dX7_status_86 rfl ?_
      refine mg_2 (v := M.1 2) wr_P rfl rfl dX7_status_87 ?_
      subst hv; exact z_iret_W hQ rfl rfl rfl ⟨rfl, rfl⟩ dX7_status_90
    have hp := ip_f hp c4
    have hv := it_f hv c4
    by_cases c5 : x1 = 3
    · have hp := ip_t hp c5; have hv := it_t hv c5
      refine z_tableIn (tgt := 91) dX7_status_23 3 c5 (by decide) (by decide) rfl (by decide) ?_
      refine z_aload_n dX7_status_91 rfl ?_
      refine mg_3 (v := M.1 3) wr_P rfl rfl dX7_status_92 ?_
      subst hv; exact z_iret_W hQ rfl rfl rfl ⟨rfl, rfl⟩ dX7_status_95
    have hp := ip_f hp c5
    have hv := it_f hv c5
    by_cases c6 : x1 = 4
    · have hp := ip_t hp c6; have hv := it_t hv c6
      refine z_tableIn (tgt := 96) dX7_status_23 4 c6 (by decide) (by decide) rfl (by decide) ?_
      refine z_aload_n dX7_status_96 rfl ?_
      refine mg_4 (v := M.1 4) wr_P rfl rfl dX7_status_97 ?_
      subst hv; exact z_iret_W hQ rfl rfl rfl ⟨rfl, rfl⟩ dX7_status_100
    have hp := ip_f hp c6
    have hv := it_f hv c6
    by_cases c7 : x1 = 5
    · have hp := ip_t hp c7; have hv := it_t hv c7
      refine z_tableIn (tgt := 101) dX7_status_23 5 c7 (by decide) (by decide) rfl (by decide) ?_
      refine z_aload_n dX7_status_101 rfl ?_
      refine mg_5 (v := M.1 5) wr_P rfl rfl dX7_status_102 ?_
      subst hv; exact z_iret_W hQ rfl rfl rfl ⟨rfl, rfl⟩ dX7_status_105
    have hp := ip_f hp c7
    have hv := it_f hv c7
    by_cases c9 : x1 = 6
    · have hp := ip_t hp c9; have hv := it_t hv c9
      refine z_tableIn (tgt := 106) dX7_status_23 6 c9 (by decide) (by decide) rfl (by decide) ?_
      refine z_aload_n dX7_status_106 rfl ?_
      refine z_aload_n dX7_status_107 rfl ?_
      refine mg_11 wr_P rfl dX7_status_108 ?_
      have q8 := hp
      refine z_cvi (c_X7_together G a M 11 q8) zc_X7_together zv_X7_together tw_m_RX7_298 (mrec wr_P) wr_P (zroom_of rfl) rfl (Nat.le_of_ble_eq_true rfl) dX7_status_111 ?_
      subst hv; exact z_iret_W hQ rfl rfl rfl ⟨rfl, rfl⟩ dX7_status_114
    have hp := ip_f hp c9
    have hv := it_f hv c9
    by_cases c11 : x1 = 7
    · have hp := ip_t hp c11; have hv := it_t hv c11
      refine z_tableIn (tgt := 115) dX7_status_23 7 c11 (by decide) (by decide) rfl (by decide) ?_
      refine z_aload_n dX7_status_115 rfl ?_
      refine z_aload_n dX7_status_116 rfl ?_
      refine mg_14 wr_P rfl dX7_status_117 ?_
      have q10 := hp
      refine z_cvi (c_X7_together G a M 14 q10) zc_X7_together zv_X7_together tw_m_RX7_298 (mrec wr_P) wr_P (zroom_of rfl) rfl (Nat.le_of_ble_eq_true rfl) dX7_status_120 ?_
      subst hv; exact z_iret_W hQ rfl rfl rfl ⟨rfl, rfl⟩ dX7_status_123
    have hp := ip_f hp c11
    have hv := it_f hv c11
    by_cases c12 : x1 = 8
    · have hp := ip_t hp c12; have hv := it_t hv c12
      refine z_tableIn (tgt := 124) dX7_status_23 8 c12 (by decide) (by decide) rfl (by decide) ?_
      refine z_aload_n dX7_status_124 rfl ?_
      refine mg_6 (v := M.1 6) wr_P rfl rfl dX7_status_125 ?_
      subst hv; exact z_iret_W hQ rfl rfl rfl ⟨rfl, rfl⟩ dX7_status_128
    have hp := ip_f hp c12
    have hv := it_f hv c12
    by_cases c13 : x1 = 9
    · have hp := ip_t hp c13; have hv := it_t hv c13
      refine z_tableIn (tgt := 129) dX7_status_23 9 c13 (by decide) (by decide) rfl (by decide) ?_
      refine z_aload_n dX7_status_129 rfl ?_
      refine mg_43 (v := M.1 43) wr_P rfl rfl dX7_status_130 ?_
      subst hv; exact z_iret_W hQ rfl rfl rfl ⟨rfl, rfl⟩ dX7_status_133
    have hp := ip_f hp c13
    have hv := it_f hv c13
    refine z_tableOut (tgt := 134) dX7_status_23 (zout10_0 c2 c3 c4 c5 c6 c7 c9 c11 c12 c13) (by decide) ?_
    refine z_iconst (v := (-1)) dX7_status_134 rfl ?_
    subst hv; exact z_iret_W hQ rfl rfl rfl ⟨rfl, rfl⟩ dX7_status_135
  · have hp := ip_f hp c1; have hv := it_f hv c1
    refine z_iload_n dX7_status_6 rfl ?_
    refine z_bipush (v := 17) dX7_status_7 rfl ?_
    refine z_icmp_gt (tgt := 22) dX7_status_9 (by decide) (fun c14 => ?_) (fun c14 => ?_)
    · have hp := ip_t hp c14; have hv := it_t hv c14
      refine z_iload_n dX7_status_22 rfl ?_
      by_cases c15 : x1 = 0
      · have hp := ip_t hp c15; have hv := it_t hv c15
        refine z_tableIn (tgt := 76) dX7_status_23 0 c15 (by decide) (by decide) rfl (by decide) ?_
        refine z_aload_n dX7_status_76 rfl ?_
        refine mg_0 (v := M.1 0) wr_P rfl rfl dX7_status_77 ?_
        subst hv; exact z_iret_W hQ rfl rfl rfl ⟨rfl, rfl⟩ dX7_status_80
      have hp := ip_f hp c15
      have hv := it_f hv c15
      by_cases c16 : x1 = 1
      · have hp := ip_t hp c16; have hv := it_t hv c16
        refine z_tableIn (tgt := 81) dX7_status_23 1 c16 (by decide) (by decide) rfl (by decide) ?_
        refine z_aload_n dX7_status_81 rfl ?_
        refine mg_1 (v := M.1 1) wr_P rfl rfl dX7_status_82 ?_
        subst hv; exact z_iret_W hQ rfl rfl rfl ⟨rfl, rfl⟩ dX7_status_85
      have hp := ip_f hp c16
      have hv := it_f hv c16
      by_cases c17 : x1 = 2
      · have hp := ip_t hp c17; have hv := it_t hv c17
        refine z_tableIn (tgt := 86) dX7_status_23 2 c17 (by decide) (by decide) rfl (by decide) ?_
        refine z_aload_n dX7_status_86 rfl ?_
        refine mg_2 (v := M.1 2) wr_P rfl rfl dX7_status_87 ?_
        subst hv; exact z_iret_W hQ rfl rfl rfl ⟨rfl, rfl⟩ dX7_status_90
      have hp := ip_f hp c17
      have hv := it_f hv c17
      by_cases c18 : x1 = 3
      · have hp := ip_t hp c18; have hv := it_t hv c18
        refine z_tableIn (tgt := 91) dX7_status_23 3 c18 (by decide) (by decide) rfl (by decide) ?_
        refine z_aload_n dX7_status_91 rfl ?_
        refine mg_3 (v := M.1 3) wr_P rfl rfl dX7_status_92 ?_
        subst hv; exact z_iret_W hQ rfl rfl rfl ⟨rfl, rfl⟩ dX7_status_95
      have hp := ip_f hp c18
      have hv := it_f hv c18
      by_cases c19 : x1 = 4
      · have hp := ip_t hp c19; have hv := it_t hv c19
        refine z_tableIn (tgt := 96) dX7_status_23 4 c19 (by decide) (by decide) rfl (by decide) ?_
        refine z_aload_n dX7_status_96 rfl ?_
        refine mg_4 (v := M.1 4) wr_P rfl rfl dX7_status_97 ?_
        subst hv; exact z_iret_W hQ rfl rfl rfl ⟨rfl, rfl⟩ dX7_status_100
      have hp := ip_f hp c19
      have hv := it_f hv c19
      by_cases c20 : x1 = 5
      · have hp := ip_t hp c20; have hv := it_t hv c20
        refine z_tableIn (tgt := 101) dX7_status_23 5 c20 (by decide) (by decide) rfl (by decide) ?_
        refine z_aload_n dX7_status_101 rfl ?_
        refine mg_5 (v := M.1 5) wr_P rfl rfl dX7_status_102 ?_
        subst hv; exact z_iret_W hQ rfl rfl rfl ⟨rfl, rfl⟩ dX7_status_105
      have hp := ip_f hp c20
      have hv := it_f hv c20
      by_cases c22 : x1 = 6
      · have hp := ip_t hp c22; have hv := it_t hv c22
        refine z_tableIn (tgt := 106) dX7_status_23 6 c22 (by decide) (by decide) rfl (by decide) ?_
        refine z_aload_n dX7_status_106 rfl ?_
        refine z_aload_n dX7_status_107 rfl ?_
        refine mg_11 wr_P rfl dX7_status_108 ?_
        have q21 := hp
        refine z_cvi (c_X7_together G a M 11 q21) zc_X7_together zv_X7_together tw_m_RX7_298 (mrec wr_P) wr_P (zroom_of rfl) rfl (Nat.le_of_ble_eq_true rfl) dX7_status_111 ?_
        subst hv; exact z_iret_W hQ rfl rfl rfl ⟨rfl, rfl⟩ dX7_status_114
      have hp := ip_f hp c22
      have hv := it_f hv c22
      by_cases c24 : x1 = 7
      · have hp := ip_t hp c24; have hv := it_t hv c24
        refine z_tableIn (tgt := 115) dX7_status_23 7 c24 (by decide) (by decide) rfl (by decide) ?_
        refine z_aload_n dX7_status_115 rfl ?_
        refine z_aload_n dX7_status_116 rfl ?_
        refine mg_14 wr_P rfl dX7_status_117 ?_
        have q23 := hp
        refine z_cvi (c_X7_together G a M 14 q23) zc_X7_together zv_X7_together tw_m_RX7_298 (mrec wr_P) wr_P (zroom_of rfl) rfl (Nat.le_of_ble_eq_true rfl) dX7_status_120 ?_
        subst hv; exact z_iret_W hQ rfl rfl rfl ⟨rfl, rfl⟩ dX7_status_123
      have hp := ip_f hp c24
      have hv := it_f hv c24
      by_cases c25 : x1 = 8
      · have hp := ip_t hp c25; have hv := it_t hv c25
        refine z_tableIn (tgt := 124) dX7_status_23 8 c25 (by decide) (by decide) rfl (by decide) ?_
        refine z_aload_n dX7_status_124 rfl ?_
        refine mg_6 (v := M.1 6) wr_P rfl rfl dX7_status_125 ?_
        subst hv; exact z_iret_W hQ rfl rfl rfl ⟨rfl, rfl⟩ dX7_status_128
      have hp := ip_f hp c25
      have hv := it_f hv c25
      by_cases c26 : x1 = 9
      · have hp := ip_t hp c26; have hv := it_t hv c26
        refine z_tableIn (tgt := 129) dX7_status_23 9 c26 (by decide) (by decide) rfl (by decide) ?_
        refine z_aload_n dX7_status_129 rfl ?_
        refine mg_43 (v := M.1 43) wr_P rfl rfl dX7_status_130 ?_
        subst hv; exact z_iret_W hQ rfl rfl rfl ⟨rfl, rfl⟩ dX7_status_133
      have hp := ip_f hp c26
      have hv := it_f hv c26
      refine z_tableOut (tgt := 134) dX7_status_23 (zout10_0 c15 c16 c17 c18 c19 c20 c22 c24 c25 c26) (by decide) ?_
      refine z_iconst (v := (-1)) dX7_status_134 rfl ?_
      subst hv; exact z_iret_W hQ rfl rfl rfl ⟨rfl, rfl⟩ dX7_status_135
    · have hp := ip_f hp c14; have hv := it_f hv c14
      refine z_aload_n dX7_status_12 rfl ?_
      refine mg_8 wr_P rfl dX7_status_13 ?_
      refine z_iload_n dX7_status_16 rfl ?_
      refine z_bipush (v := 10) dX7_status_17 rfl ?_
      refine z_isub dX7_status_19 ?_
      have q27 := hp
      refine ml_8 (x := (M.2.1 8) (x1 - 10).toNatClampNeg) wr_P q27 rfl dX7_status_20 ?_
      subst hv; exact z_iret_W hQ rfl rfl rfl ⟨rfl, rfl⟩ dX7_status_21
