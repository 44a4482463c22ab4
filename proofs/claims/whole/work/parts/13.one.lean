theorem dX7_walking_0 : decode cX7_walking 0 = .ok (.aload_n 0, 1) := by decide +kernel
theorem dX7_walking_1 : decode cX7_walking 1 = .ok (.getfield 29, 3) := by decide +kernel
theorem dX7_walking_4 : decode cX7_walking 4 = .ok (.iload_n 1, 1) := by decide +kernel
theorem dX7_walking_5 : decode cX7_walking 5 = .ok (.iaload, 1) := by decide +kernel
theorem dX7_walking_6 : decode cX7_walking 6 = .ok (.istore_n 3, 1) := by decide +kernel
theorem dX7_walking_7 : decode cX7_walking 7 = .ok (.iload_n 2, 1) := by decide +kernel
theorem dX7_walking_8 : decode cX7_walking 8 = .ok (.istore 4, 2) := by decide +kernel
theorem dX7_walking_10 : decode cX7_walking 10 = .ok (.iload_n 3, 1) := by decide +kernel
theorem dX7_walking_11 : decode cX7_walking 11 = .ok (.iconst 3, 1) := by decide +kernel
theorem dX7_walking_12 : decode cX7_walking 12 = .ok (.if_icmp .ne 14, 3) := by decide +kernel
theorem dX7_walking_15 : decode cX7_walking 15 = .ok (.aload_n 0, 1) := by decide +kernel
theorem dX7_walking_16 : decode cX7_walking 16 = .ok (.bipush 40, 2) := by decide +kernel
theorem dX7_walking_18 : decode cX7_walking 18 = .ok (.invokevirtual 282, 3) := by decide +kernel
theorem dX7_walking_21 : decode cX7_walking 21 = .ok (.iload_n 2, 1) := by decide +kernel
theorem dX7_walking_22 : decode cX7_walking 22 = .ok (.iconst 1, 1) := by decide +kernel
theorem dX7_walking_23 : decode cX7_walking 23 = .ok (.iadd, 1) := by decide +kernel
theorem dX7_walking_24 : decode cX7_walking 24 = .ok (.istore 4, 2) := by decide +kernel
theorem dX7_walking_26 : decode cX7_walking 26 = .ok (.iload_n 3, 1) := by decide +kernel
theorem dX7_walking_27 : decode cX7_walking 27 = .ok (.iconst 2, 1) := by decide +kernel
theorem dX7_walking_28 : decode cX7_walking 28 = .ok (.if_icmp .eq 8, 3) := by decide +kernel
theorem dX7_walking_31 : decode cX7_walking 31 = .ok (.iload_n 3, 1) := by decide +kernel
theorem dX7_walking_32 : decode cX7_walking 32 = .ok (.iconst 3, 1) := by decide +kernel
theorem dX7_walking_33 : decode cX7_walking 33 = .ok (.if_icmp .ne 9, 3) := by decide +kernel
theorem dX7_walking_36 : decode cX7_walking 36 = .ok (.aload_n 0, 1) := by decide +kernel
theorem dX7_walking_37 : decode cX7_walking 37 = .ok (.bipush 30, 2) := by decide +kernel
theorem dX7_walking_39 : decode cX7_walking 39 = .ok (.invokevirtual 282, 3) := by decide +kernel
theorem dX7_walking_42 : decode cX7_walking 42 = .ok (.iload_n 3, 1) := by decide +kernel
theorem dX7_walking_43 : decode cX7_walking 43 = .ok (.iconst 4, 1) := by decide +kernel
theorem dX7_walking_44 : decode cX7_walking 44 = .ok (.if_icmp .eq 8, 3) := by decide +kernel
theorem dX7_walking_47 : decode cX7_walking 47 = .ok (.iload_n 3, 1) := by decide +kernel
theorem dX7_walking_48 : decode cX7_walking 48 = .ok (.iconst 5, 1) := by decide +kernel
theorem dX7_walking_49 : decode cX7_walking 49 = .ok (.if_icmp .ne 9, 3) := by decide +kernel
theorem dX7_walking_52 : decode cX7_walking 52 = .ok (.aload_n 0, 1) := by decide +kernel
theorem dX7_walking_53 : decode cX7_walking 53 = .ok (.bipush 51, 2) := by decide +kernel
theorem dX7_walking_55 : decode cX7_walking 55 = .ok (.invokevirtual 282, 3) := by decide +kernel
theorem dX7_walking_58 : decode cX7_walking 58 = .ok (.iload_n 3, 1) := by decide +kernel
theorem dX7_walking_59 : decode cX7_walking 59 = .ok (.bipush 6, 2) := by decide +kernel
theorem dX7_walking_61 : decode cX7_walking 61 = .ok (.if_icmp .ne 9, 3) := by decide +kernel
theorem dX7_walking_64 : decode cX7_walking 64 = .ok (.aload_n 0, 1) := by decide +kernel
theorem dX7_walking_65 : decode cX7_walking 65 = .ok (.bipush 70, 2) := by decide +kernel
theorem dX7_walking_67 : decode cX7_walking 67 = .ok (.invokevirtual 282, 3) := by decide +kernel
theorem dX7_walking_70 : decode cX7_walking 70 = .ok (.aload_n 0, 1) := by decide +kernel
theorem dX7_walking_71 : decode cX7_walking 71 = .ok (.bipush 10, 2) := by decide +kernel
theorem dX7_walking_73 : decode cX7_walking 73 = .ok (.invokevirtual 282, 3) := by decide +kernel
theorem dX7_walking_76 : decode cX7_walking 76 = .ok (.iload 4, 2) := by decide +kernel
theorem dX7_walking_78 : decode cX7_walking 78 = .ok (.iload_n 1, 1) := by decide +kernel
theorem dX7_walking_79 : decode cX7_walking 79 = .ok (.iadd, 1) := by decide +kernel
theorem dX7_walking_80 : decode cX7_walking 80 = .ok (.istore 5, 2) := by decide +kernel
theorem dX7_walking_82 : decode cX7_walking 82 = .ok (.iload_n 3, 1) := by decide +kernel
theorem dX7_walking_83 : decode cX7_walking 83 = .ok (.iconst 2, 1) := by decide +kernel
theorem dX7_walking_84 : decode cX7_walking 84 = .ok (.if_icmp .eq 8, 3) := by decide +kernel
theorem dX7_walking_87 : decode cX7_walking 87 = .ok (.iload_n 3, 1) := by decide +kernel
theorem dX7_walking_88 : decode cX7_walking 88 = .ok (.iconst 3, 1) := by decide +kernel
theorem dX7_walking_89 : decode cX7_walking 89 = .ok (.if_icmp .ne 8, 3) := by decide +kernel
theorem dX7_walking_92 : decode cX7_walking 92 = .ok (.iload 5, 2) := by decide +kernel
theorem dX7_walking_94 : decode cX7_walking 94 = .ok (.iconst 3, 1) := by decide +kernel
theorem dX7_walking_95 : decode cX7_walking 95 = .ok (.imul, 1) := by decide +kernel
theorem dX7_walking_96 : decode cX7_walking 96 = .ok (.ireturn, 1) := by decide +kernel
theorem dX7_walking_97 : decode cX7_walking 97 = .ok (.iload_n 3, 1) := by decide +kernel
theorem dX7_walking_98 : decode cX7_walking 98 = .ok (.iconst 4, 1) := by decide +kernel
theorem dX7_walking_99 : decode cX7_walking 99 = .ok (.if_icmp .eq 8, 3) := by decide +kernel
theorem dX7_walking_102 : decode cX7_walking 102 = .ok (.iload_n 3, 1) := by decide +kernel
theorem dX7_walking_103 : decode cX7_walking 103 = .ok (.iconst 5, 1) := by decide +kernel
theorem dX7_walking_104 : decode cX7_walking 104 = .ok (.if_icmp .ne 8, 3) := by decide +kernel
theorem dX7_walking_107 : decode cX7_walking 107 = .ok (.iload 5, 2) := by decide +kernel
theorem dX7_walking_109 : decode cX7_walking 109 = .ok (.iload_n 1, 1) := by decide +kernel
theorem dX7_walking_110 : decode cX7_walking 110 = .ok (.isub, 1) := by decide +kernel
theorem dX7_walking_111 : decode cX7_walking 111 = .ok (.ireturn, 1) := by decide +kernel
theorem dX7_walking_112 : decode cX7_walking 112 = .ok (.iload_n 3, 1) := by decide +kernel
theorem dX7_walking_113 : decode cX7_walking 113 = .ok (.bipush 6, 2) := by decide +kernel
theorem dX7_walking_115 : decode cX7_walking 115 = .ok (.if_icmp .ne 10, 3) := by decide +kernel
theorem dX7_walking_118 : decode cX7_walking 118 = .ok (.iload 5, 2) := by decide +kernel
theorem dX7_walking_120 : decode cX7_walking 120 = .ok (.iconst 2, 1) := by decide +kernel
theorem dX7_walking_121 : decode cX7_walking 121 = .ok (.imul, 1) := by decide +kernel
theorem dX7_walking_122 : decode cX7_walking 122 = .ok (.goto 5, 3) := by decide +kernel
theorem dX7_walking_125 : decode cX7_walking 125 = .ok (.iload 5, 2) := by decide +kernel
theorem dX7_walking_127 : decode cX7_walking 127 = .ok (.ireturn, 1) := by decide +kernel
abbrev k_X7_walking : zK := (cX7_walking, 6, RX7, (some .int), ({ frames := 1, cells := 0, slots := 0, locals := 21 } : Room))
theorem zc_X7_walking : zcal yX7_walking k_X7_walking.1 k_X7_walking.2.1 k_X7_walking.2.2.2.1 2 := ⟨tw_code_yX7_walking, tw_i_TollForHesitatorsModel, ⟨by decide +kernel, by decide +kernel⟩, by decide +kernel⟩
theorem zv_X7_walking : Cond.instanceMethod yX7_walking ∈ TS ∧ Cond.selects RX7 yX7_walking yX7_walking ∈ TS := ⟨tw_inst_yX7_walking, tw_s_yX7_walking⟩
def v_X7_walking (M : mT) (x1 : Int32) (x2 : Int32) : Int32 × mT := kk (if ((M.2.1 9) x1.toNatClampNeg) = 3 then v_X7_body M 40 else M) (fun M5 : mT => kk (if ((M.2.1 9) x1.toNatClampNeg) = 2 then v_X7_body M5 30 else (if ((M.2.1 9) x1.toNatClampNeg) = 3 then v_X7_body M5 30 else M5)) (fun M14 : mT => kk (if ((M.2.1 9) x1.toNatClampNeg) = 4 then v_X7_body M14 51 else (if ((M.2.1 9) x1.toNatClampNeg) = 5 then v_X7_body M14 51 else M14)) (fun M22 : mT => kk (if ((M.2.1 9) x1.toNatClampNeg) = 6 then v_X7_body M22 70 else M22) (fun M26 : mT => kk (v_X7_body M26 10) (fun q28 : mT => if ((M.2.1 9) x1.toNatClampNeg) = 2 then (((if ((M.2.1 9) x1.toNatClampNeg) = 3 then x2 + 1 else x2) + x1) * 3, q28) else if ((M.2.1 9) x1.toNatClampNeg) = 3 then (((if ((M.2.1 9) x1.toNatClampNeg) = 3 then x2 + 1 else x2) + x1) * 3, q28) else if ((M.2.1 9) x1.toNatClampNeg) = 4 then (((if ((M.2.1 9) x1.toNatClampNeg) = 3 then x2 + 1 else x2) + x1) - x1, q28) else if ((M.2.1 9) x1.toNatClampNeg) = 5 then (((if ((M.2.1 9) x1.toNatClampNeg) = 3 then x2 + 1 else x2) + x1) - x1, q28) else ((if ((M.2.1 9) x1.toNatClampNeg) = 6 then ((if ((M.2.1 9) x1.toNatClampNeg) = 3 then x2 + 1 else x2) + x1) * 2 else (if ((M.2.1 9) x1.toNatClampNeg) = 3 then x2 + 1 else x2) + x1), q28))))))
def p_X7_walking (M : mT) (x1 : Int32) (x2 : Int32) : Prop := vp_in x1 7 ∧ ((if ((M.2.1 9) x1.toNatClampNeg) = 3 then p_X7_body M 40 else True) ∧ (kk (if ((M.2.1 9) x1.toNatClampNeg) = 3 then v_X7_body M 40 else M) (fun M5 : mT => (if ((M.2.1 9) x1.toNatClampNeg) = 2 then p_X7_body M5 30 else if ((M.2.1 9) x1.toNatClampNeg) = 3 then p_X7_body M5 30 else True) ∧ (kk (if ((M.2.1 9) x1.toNatClampNeg) = 2 then v_X7_body M5 30 else (if ((M.2.1 9) x1.toNatClampNeg) = 3 then v_X7_body M5 30 else M5)) (fun M14 : mT => (if ((M.2.1 9) x1.toNatClampNeg) = 4 then p_X7_body M14 51 else if ((M.2.1 9) x1.toNatClampNeg) = 5 then p_X7_body M14 51 else True) ∧ (kk (if ((M.2.1 9) x1.toNatClampNeg) = 4 then v_X7_body M14 51 else (if ((M.2.1 9) x1.toNatClampNeg) = 5 then v_X7_body M14 51 else M14)) (fun M22 : mT => (if ((M.2.1 9) x1.toNatClampNeg) = 6 then p_X7_body M22 70 else True) ∧ (kk (if ((M.2.1 9) x1.toNatClampNeg) = 6 then v_X7_body M22 70 else M22) (fun M26 : mT => p_X7_body M26 10)))))))))
set_option maxHeartbeats 4000000 in
theorem c_X7_walking {l : Launch} (G : zG) (a : Nat → Nat) {X : zX} (hX : XOK X) (sz : Nat) (M : mT) (x1 : Int32) (x2 : Int32) (hp : p_X7_walking M x1 x2) : Met l yX7_walking (.code yX7_walking k_X7_walking.1 k_X7_walking.2.1 k_X7_walking.2.2.2.1 :: TS) k_X7_walking.2.2.2.2 (Pz G [.ref (a 0), .int x1, .int x2] (Fw G X (mW G a M) sz)) (Qwi G (fun r w => r = (v_X7_walking M x1 x2).1 ∧ w = mW G a (v_X7_walking M x1 x2).2) (va_A (mW G a M) sz)) 0 0 (va_A (mW G a M) sz) := by
  refine zmet (by decide +kernel) rfl rfl (fun Γ hl0 hQ hN hF => ?_)
  refine z_start hX hF (fun hw => ?_)
  generalize va_A (mW G a M) sz = A at hQ hw ⊢
  obtain ⟨res, hv⟩ : ∃ res, v_X7_walking M x1 x2 = res := ⟨_, rfl⟩
  rw [hv] at hQ
  unfold v_X7_walking at hv
  unfold p_X7_walking at hp
  show Z k_X7_walking G Γ _ 0 0 [(0, .ref (a 0)), (1, .int x1), (2, .int x2)] 0 []
  refine z_aload_n dX7_walking_0 rfl ?_
  refine mg_9 wr_P rfl dX7_walking_1 ?_
  refine z_iload_n dX7_walking_4 rfl ?_
  obtain ⟨q1, hp⟩ := hp
  refine ml_9 (x := (M.2.1 9) x1.toNatClampNeg) wr_P q1 rfl dX7_walking_5 ?_
  refine z_istore_n (lv' := [(3, .int ((M.2.1 9) x1.toNatClampNeg)), (0, .ref (a 0)), (1, .int x1), (2, .int x2)]) dX7_walking_6 (Nat.le_of_ble_eq_true rfl) rfl ?_
  refine z_iload_n dX7_walking_7 rfl ?_
  refine z_istore (lv' := [(4, .int x2), (3, .int ((M.2.1 9) x1.toNatClampNeg)), (0, .ref (a 0)), (1, .int x1), (2, .int x2)]) dX7_walking_8 (Nat.le_of_ble_eq_true rfl) rfl ?_
  refine z_iload_n dX7_walking_10 rfl ?_
  refine z_iconst (v := 3) dX7_walking_11 rfl ?_
  obtain ⟨hpm, hp⟩ := hp
  have J35 : ∀ M5 : mT, M5 = (if ((M.2.1 9) x1.toNatClampNeg) = 3 then v_X7_body M 40 else M) → ∀ m6 : Int32, m6 = (if ((M.2.1 9) x1.toNatClampNeg) = 3 then x2 + 1 else x2) → Z k_X7_walking G Γ (wr G A Γ.2.2.1.1.heap (mW G a M5)) 0 0 [(4, .int m6), (3, .int ((M.2.1 9) x1.toNatClampNeg)), (0, .ref (a 0)), (1, .int x1), (2, .int x2)] 26 [] := by
    intro M5 eM5 m6 em6
    have hp := kk_pq hp eM5
    have hv := kk_vq hv eM5
    clear eM5
    subst em6
    refine z_iload_n dX7_walking_26 rfl ?_
    refine z_iconst (v := 2) dX7_walking_27 rfl ?_
    obtain ⟨hpm, hp⟩ := hp
    have J36 : ∀ M14 : mT, M14 = (if ((M.2.1 9) x1.toNatClampNeg) = 2 then v_X7_body M5 30 else (if ((M.2.1 9) x1.toNatClampNeg) = 3 then v_X7_body M5 30 else M5)) → Z k_X7_walking G Γ (wr G A Γ.2.2.1.1.heap (mW G a M14)) 0 0 [(4, .int (if ((M.2.1 9) x1.toNatClampNeg) = 3 then x2 + 1 else x2)), (3, .int ((M.2.1 9) x1.toNatClampNeg)), (0, .ref (a 0)), (1, .int x1), (2, .int x2)] 42 [] := by
      intro M14 eM14
      have hp := kk_pq hp eM14
      have hv := kk_vq hv eM14
      clear eM14
      refine z_iload_n dX7_walking_42 rfl ?_
      refine z_iconst (v := 4) dX7_walking_43 rfl ?_
      obtain ⟨hpm, hp⟩ := hp
      have J37 : ∀ M22 : mT, M22 = (if ((M.2.1 9) x1.toNatClampNeg) = 4 then v_X7_body M14 51 else (if ((M.2.1 9) x1.toNatClampNeg) = 5 then v_X7_body M14 51 else M14)) → Z k_X7_walking G Γ (wr G A Γ.2.2.1.1.heap (mW G a M22)) 0 0 [(4, .int (if ((M.2.1 9) x1.toNatClampNeg) = 3 then x2 + 1 else x2)), (3, .int ((M.2.1 9) x1.toNatClampNeg)), (0, .ref (a 0)), (1, .int x1), (2, .int x2)] 58 [] := by
        intro M22 eM22
        have hp := kk_pq hp eM22
        have hv := kk_vq hv eM22
        clear eM22
        refine z_iload_n dX7_walking_58 rfl ?_
        refine z_bipush (v := 6) dX7_walking_59 rfl ?_
        obtain ⟨hpm, hp⟩ := hp
        have J38 : ∀ M26 : mT, M26 = (if ((M.2.1 9) x1.toNatClampNeg) = 6 then v_X7_body M22 70 else M22) → Z k_X7_walking G Γ (wr G A Γ.2.2.1.1.heap (mW G a M26)) 0 0 [(4, .int (if ((M.2.1 9) x1.toNatClampNeg) = 3 then x2 + 1 else x2)), (3, .int ((M.2.1 9) x1.toNatClampNeg)), (0, .ref (a 0)), (1, .int x1), (2, .int x2)] 70 [] := by
          intro M26 eM26
          have hp := kk_pq hp eM26
          have hv := kk_vq hv eM26
          clear eM26
          refine z_aload_n dX7_walking_70 rfl ?_
          refine z_bipush (v := 10) dX7_walking_71 rfl ?_
          have q27 := hp
          refine z_cavv hw (fun sz => c_X7_body G a hw.1 sz M26 10 q27) zc_X7_body zv_X7_body tw_m_RX7_282 (mrec wr_P) (zroom_of rfl) rfl (Nat.le_of_ble_eq_true rfl) dX7_walking_73 ?_
          intro w0 hw0
          obtain ⟨q28, hq28, rfl⟩ : ∃ q28, q28 = (v_X7_body M26 10) ∧ w0 = mW G a q28 := ⟨_, rfl, hw0⟩
          have hv := kk_vq hv hq28
          clear hq28
          refine z_iload dX7_walking_76 rfl ?_
          refine z_iload_n dX7_walking_78 rfl ?_
          refine z_iadd dX7_walking_79 ?_
          refine z_istore (lv' := [(5, .int ((if ((M.2.1 9) x1.toNatClampNeg) = 3 then x2 + 1 else x2) + x1)), (4, .int (if ((M.2.1 9) x1.toNatClampNeg) = 3 then x2 + 1 else x2)), (3, .int ((M.2.1 9) x1.toNatClampNeg)), (0, .ref (a 0)), (1, .int x1), (2, .int x2)]) dX7_walking_80 (Nat.le_of_ble_eq_true rfl) rfl ?_
          refine z_iload_n dX7_walking_82 rfl ?_
          refine z_iconst (v := 2) dX7_walking_83 rfl ?_
          refine z_icmp_eq (tgt := 92) dX7_walking_84 (by decide) (fun c29 => ?_) (fun c29 => ?_)
          · have hv := it_t hv c29
            refine z_iload dX7_walking_92 rfl ?_
            refine z_iconst (v := 3) dX7_walking_94 rfl ?_
            refine z_imul dX7_walking_95 ?_
            subst hv; exact z_iret_W hQ rfl rfl rfl ⟨rfl, rfl⟩ dX7_walking_96
          · have hv := it_f hv c29
            refine z_iload_n dX7_walking_87 rfl ?_
            refine z_iconst (v := 3) dX7_walking_88 rfl ?_
            refine z_icmp_ne (tgt := 97) dX7_walking_89 (by decide) (fun c30 => ?_) (fun c30 => ?_)
            · have hv := it_f hv c30
              refine z_iload_n dX7_walking_97 rfl ?_
              refine z_iconst (v := 4) dX7_walking_98 rfl ?_
              refine z_icmp_eq (tgt := 107) dX7_walking_99 (by decide) (fun c31 => ?_) (fun c31 => ?_)
              · have hv := it_t hv c31
                refine z_iload dX7_walking_107 rfl ?_
                refine z_iload_n dX7_walking_109 rfl ?_
                refine z_isub dX7_walking_110 ?_
                subst hv; exact z_iret_W hQ rfl rfl rfl ⟨rfl, rfl⟩ dX7_walking_111
              · have hv := it_f hv c31
                refine z_iload_n dX7_walking_102 rfl ?_
                refine z_iconst (v := 5) dX7_walking_103 rfl ?_
                refine z_icmp_ne (tgt := 112) dX7_walking_104 (by decide) (fun c32 => ?_) (fun c32 => ?_)
                · have hv := it_f hv c32
                  refine z_iload_n dX7_walking_112 rfl ?_
                  refine z_bipush (v := 6) dX7_walking_113 rfl ?_
                  have J39 : ∀ m34 : Int32, m34 = (if ((M.2.1 9) x1.toNatClampNeg) = 6 then ((if ((M.2.1 9) x1.toNatClampNeg) = 3 then x2 + 1 else x2) + x1) * 2 else (if ((M.2.1 9) x1.toNatClampNeg) = 3 then x2 + 1 else x2) + x1) → Z k_X7_walking G Γ (wr G A Γ.2.2.1.1.heap (mW G a q28)) 0 0 [(5, .int ((if ((M.2.1 9) x1.toNatClampNeg) = 3 then x2 + 1 else x2) + x1)), (4, .int (if ((M.2.1 9) x1.toNatClampNeg) = 3 then x2 + 1 else x2)), (3, .int ((M.2.1 9) x1.toNatClampNeg)), (0, .ref (a 0)), (1, .int x1), (2, .int x2)] 127 [.int m34] := by
                    intro m34 em34
                    subst em34
                    subst hv; exact z_iret_W hQ rfl rfl rfl ⟨rfl, rfl⟩ dX7_walking_127
                  refine z_icmp_ne (tgt := 125) dX7_walking_115 (by decide) (fun c33 => ?_) (fun c33 => ?_)
                  · skip
                    refine z_iload dX7_walking_125 rfl ?_
                    exact z_lv rfl (J39 ((if ((M.2.1 9) x1.toNatClampNeg) = 3 then x2 + 1 else x2) + x1) (if_neg c33).symm)
                  · skip
                    refine z_iload dX7_walking_118 rfl ?_
                    refine z_iconst (v := 2) dX7_walking_120 rfl ?_
                    refine z_imul dX7_walking_121 ?_
                    refine z_goto (tgt := 127) dX7_walking_122 (by decide) ?_
                    exact z_lv rfl (J39 (((if ((M.2.1 9) x1.toNatClampNeg) = 3 then x2 + 1 else x2) + x1) * 2) (if_pos c33).symm)
                · have hv := it_t hv c32
                  refine z_iload dX7_walking_107 rfl ?_
                  refine z_iload_n dX7_walking_109 rfl ?_
                  refine z_isub dX7_walking_110 ?_
                  subst hv; exact z_iret_W hQ rfl rfl rfl ⟨rfl, rfl⟩ dX7_walking_111
            · have hv := it_t hv c30
              refine z_iload dX7_walking_92 rfl ?_
              refine z_iconst (v := 3) dX7_walking_94 rfl ?_
              refine z_imul dX7_walking_95 ?_
              subst hv; exact z_iret_W hQ rfl rfl rfl ⟨rfl, rfl⟩ dX7_walking_96
        refine z_icmp_ne (tgt := 70) dX7_walking_61 (by decide) (fun c23 => ?_) (fun c23 => ?_)
        · have hp := ip_f hpm c23
          exact z_lv rfl (J38 M22 (if_neg c23).symm)
        · have hp := ip_t hpm c23
          refine z_aload_n dX7_walking_64 rfl ?_
          refine z_bipush (v := 70) dX7_walking_65 rfl ?_
          have q24 := hp
          refine z_cavv hw (fun sz => c_X7_body G a hw.1 sz M22 70 q24) zc_X7_body zv_X7_body tw_m_RX7_282 (mrec wr_P) (zroom_of rfl) rfl (Nat.le_of_ble_eq_true rfl) dX7_walking_67 ?_
          intro w0 hw0; subst hw0
          exact z_lv rfl (J38 (v_X7_body M22 70) (if_pos c23).symm)
      refine z_icmp_eq (tgt := 52) dX7_walking_44 (by decide) (fun c15 => ?_) (fun c15 => ?_)
      · have hp := ip_t hpm c15
        refine z_aload_n dX7_walking_52 rfl ?_
        refine z_bipush (v := 51) dX7_walking_53 rfl ?_
        have q16 := hp
        refine z_cavv hw (fun sz => c_X7_body G a hw.1 sz M14 51 q16) zc_X7_body zv_X7_body tw_m_RX7_282 (mrec wr_P) (zroom_of rfl) rfl (Nat.le_of_ble_eq_true rfl) dX7_walking_55 ?_
        intro w0 hw0; subst hw0
        exact z_lv rfl (J37 (v_X7_body M14 51) (if_pos c15).symm)
      · have hp := ip_f hpm c15
        refine z_iload_n dX7_walking_47 rfl ?_
        refine z_iconst (v := 5) dX7_walking_48 rfl ?_
        have hpm := hp
        have J40 : ∀ M21 : mT, M21 = (if ((M.2.1 9) x1.toNatClampNeg) = 5 then v_X7_body M14 51 else M14) → Z k_X7_walking G Γ (wr G A Γ.2.2.1.1.heap (mW G a M21)) 0 0 [(4, .int (if ((M.2.1 9) x1.toNatClampNeg) = 3 then x2 + 1 else x2)), (3, .int ((M.2.1 9) x1.toNatClampNeg)), (0, .ref (a 0)), (1, .int x1), (2, .int x2)] 58 [] := by
          intro M21 eM21
          subst eM21
          exact z_lv rfl (J37 (if ((M.2.1 9) x1.toNatClampNeg) = 5 then v_X7_body M14 51 else M14) (if_neg c15).symm)
        refine z_icmp_ne (tgt := 58) dX7_walking_49 (by decide) (fun c18 => ?_) (fun c18 => ?_)
        · have hp := ip_f hpm c18
          exact z_lv rfl (J40 M14 (if_neg c18).symm)
        · have hp := ip_t hpm c18
          refine z_aload_n dX7_walking_52 rfl ?_
          refine z_bipush (v := 51) dX7_walking_53 rfl ?_
          have q19 := hp
          refine z_cavv hw (fun sz => c_X7_body G a hw.1 sz M14 51 q19) zc_X7_body zv_X7_body tw_m_RX7_282 (mrec wr_P) (zroom_of rfl) rfl (Nat.le_of_ble_eq_true rfl) dX7_walking_55 ?_
          intro w0 hw0; subst hw0
          exact z_lv rfl (J40 (v_X7_body M14 51) (if_pos c18).symm)
    refine z_icmp_eq (tgt := 36) dX7_walking_28 (by decide) (fun c7 => ?_) (fun c7 => ?_)
    · have hp := ip_t hpm c7
      refine z_aload_n dX7_walking_36 rfl ?_
      refine z_bipush (v := 30) dX7_walking_37 rfl ?_
      have q8 := hp
      refine z_cavv hw (fun sz => c_X7_body G a hw.1 sz M5 30 q8) zc_X7_body zv_X7_body tw_m_RX7_282 (mrec wr_P) (zroom_of rfl) rfl (Nat.le_of_ble_eq_true rfl) dX7_walking_39 ?_
      intro w0 hw0; subst hw0
      exact z_lv rfl (J36 (v_X7_body M5 30) (if_pos c7).symm)
    · have hp := ip_f hpm c7
      refine z_iload_n dX7_walking_31 rfl ?_
      refine z_iconst (v := 3) dX7_walking_32 rfl ?_
      have hpm := hp
      have J41 : ∀ M13 : mT, M13 = (if ((M.2.1 9) x1.toNatClampNeg) = 3 then v_X7_body M5 30 else M5) → Z k_X7_walking G Γ (wr G A Γ.2.2.1.1.heap (mW G a M13)) 0 0 [(4, .int (if ((M.2.1 9) x1.toNatClampNeg) = 3 then x2 + 1 else x2)), (3, .int ((M.2.1 9) x1.toNatClampNeg)), (0, .ref (a 0)), (1, .int x1), (2, .int x2)] 42 [] := by
        intro M13 eM13
        subst eM13
        exact z_lv rfl (J36 (if ((M.2.1 9) x1.toNatClampNeg) = 3 then v_X7_body M5 30 else M5) (if_neg c7).symm)
      refine z_icmp_ne (tgt := 42) dX7_walking_33 (by decide) (fun c10 => ?_) (fun c10 => ?_)
      · have hp := ip_f hpm c10
        exact z_lv rfl (J41 M5 (if_neg c10).symm)
      · have hp := ip_t hpm c10
        refine z_aload_n dX7_walking_36 rfl ?_
        refine z_bipush (v := 30) dX7_walking_37 rfl ?_
        have q11 := hp
        refine z_cavv hw (fun sz => c_X7_body G a hw.1 sz M5 30 q11) zc_X7_body zv_X7_body tw_m_RX7_282 (mrec wr_P) (zroom_of rfl) rfl (Nat.le_of_ble_eq_true rfl) dX7_walking_39 ?_
        intro w0 hw0; subst hw0
        exact z_lv rfl (J41 (v_X7_body M5 30) (if_pos c10).symm)
  refine z_icmp_ne (tgt := 26) dX7_walking_12 (by decide) (fun c2 => ?_) (fun c2 => ?_)
  · have hp := ip_f hpm c2
    exact z_lv rfl (J35 M (if_neg c2).symm x2 (if_neg c2).symm)
  · have hp := ip_t hpm c2
    refine z_aload_n dX7_walking_15 rfl ?_
    refine z_bipush (v := 40) dX7_walking_16 rfl ?_
    have q3 := hp
    refine z_cavv hw (fun sz => c_X7_body G a hw.1 sz M 40 q3) zc_X7_body zv_X7_body tw_m_RX7_282 (mrec wr_P) (zroom_of rfl) rfl (Nat.le_of_ble_eq_true rfl) dX7_walking_18 ?_
    intro w0 hw0; subst hw0
    refine z_iload_n dX7_walking_21 rfl ?_
    refine z_iconst (v := 1) dX7_walking_22 rfl ?_
    refine z_iadd dX7_walking_23 ?_
    refine z_istore (lv' := [(4, .int (x2 + 1)), (3, .int ((M.2.1 9) x1.toNatClampNeg)), (0, .ref (a 0)), (1, .int x1), (2, .int x2)]) dX7_walking_24 (Nat.le_of_ble_eq_true rfl) rfl ?_
    exact z_lv rfl (J35 (v_X7_body M 40) (if_pos c2).symm (x2 + 1) (if_pos c2).symm)
