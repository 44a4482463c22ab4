theorem dX7_toldOf_0 : decode cX7_toldOf 0 = .ok (.iload_n 1, 1) := by decide +kernel
theorem dX7_toldOf_1 : decode cX7_toldOf 1 = .ok (.ifCond .lt 29, 3) := by decide +kernel
theorem dX7_toldOf_4 : decode cX7_toldOf 4 = .ok (.iload_n 1, 1) := by decide +kernel
theorem dX7_toldOf_5 : decode cX7_toldOf 5 = .ok (.bipush 10, 2) := by decide +kernel
theorem dX7_toldOf_7 : decode cX7_toldOf 7 = .ok (.irem, 1) := by decide +kernel
theorem dX7_toldOf_8 : decode cX7_toldOf 8 = .ok (.iconst 2, 1) := by decide +kernel
theorem dX7_toldOf_9 : decode cX7_toldOf 9 = .ok (.if_icmp .gt 21, 3) := by decide +kernel
theorem dX7_toldOf_12 : decode cX7_toldOf 12 = .ok (.iload_n 1, 1) := by decide +kernel
theorem dX7_toldOf_13 : decode cX7_toldOf 13 = .ok (.bipush 10, 2) := by decide +kernel
theorem dX7_toldOf_15 : decode cX7_toldOf 15 = .ok (.idiv, 1) := by decide +kernel
theorem dX7_toldOf_16 : decode cX7_toldOf 16 = .ok (.aload_n 0, 1) := by decide +kernel
theorem dX7_toldOf_17 : decode cX7_toldOf 17 = .ok (.getfield 99, 3) := by decide +kernel
theorem dX7_toldOf_20 : decode cX7_toldOf 20 = .ok (.if_icmp .ge 10, 3) := by decide +kernel
theorem dX7_toldOf_23 : decode cX7_toldOf 23 = .ok (.iload_n 1, 1) := by decide +kernel
theorem dX7_toldOf_24 : decode cX7_toldOf 24 = .ok (.bipush 10, 2) := by decide +kernel
theorem dX7_toldOf_26 : decode cX7_toldOf 26 = .ok (.idiv, 1) := by decide +kernel
theorem dX7_toldOf_27 : decode cX7_toldOf 27 = .ok (.goto 4, 3) := by decide +kernel
theorem dX7_toldOf_30 : decode cX7_toldOf 30 = .ok (.iconst (-1), 1) := by decide +kernel
theorem dX7_toldOf_31 : decode cX7_toldOf 31 = .ok (.ireturn, 1) := by decide +kernel
abbrev k_X7_toldOf : zK := (cX7_toldOf, 2, RX7, (some .int), ({ frames := 0, cells := 0, slots := 0, locals := 0 } : Room))
theorem zc_X7_toldOf : zcal yX7_toldOf k_X7_toldOf.1 k_X7_toldOf.2.1 k_X7_toldOf.2.2.2.1 1 := ⟨tw_code_yX7_toldOf, tw_i_TollForHesitatorsModel, ⟨by decide +kernel, by decide +kernel⟩, by decide +kernel⟩
theorem zv_X7_toldOf : Cond.instanceMethod yX7_toldOf ∈ TS ∧ Cond.selects RX7 yX7_toldOf yX7_toldOf ∈ TS := ⟨tw_inst_yX7_toldOf, tw_s_yX7_toldOf⟩
def v_X7_toldOf (M : mT) (x1 : Int32) : Int32 := (if x1 < 0 then (-1) else (if 2 < (x1 - x1 / 10 * 10) then (-1) else (if (M.1 0) ≤ (x1 / 10) then (-1) else x1 / 10)))
set_option maxHeartbeats 4000000 in
theorem c_X7_toldOf {l : Launch} (G : zG) (a : Nat → Nat) (M : mT) (x1 : Int32) : Met l yX7_toldOf (.code yX7_toldOf k_X7_toldOf.1 k_X7_toldOf.2.1 k_X7_toldOf.2.2.2.1 :: TS) k_X7_toldOf.2.2.2.2 (Pz G [.ref (a 0), .int x1] (va_P G.2.1 CL (mW G a M))) (vp_Si (fun r => r = v_X7_toldOf M x1)) 0 0 (fun _ => False) := by
  refine zmet (by decide +kernel) rfl rfl (fun Γ hl0 hQ hN hF => ?_)
  have hI := rd_P (G := G) hF
  obtain ⟨res, hv⟩ : ∃ res, v_X7_toldOf M x1 = res := ⟨_, rfl⟩
  rw [hv] at hQ
  unfold v_X7_toldOf at hv
  show Z k_X7_toldOf G Γ _ 0 0 [(0, .ref (a 0)), (1, .int x1)] 0 []
  refine z_iload_n dX7_toldOf_0 rfl ?_
  have J7 : ∀ m6 : Int32, m6 = (if x1 < 0 then (-1) else (if 2 < (x1 - x1 / 10 * 10) then (-1) else (if (M.1 0) ≤ (x1 / 10) then (-1) else x1 / 10))) → Z k_X7_toldOf G Γ (rd Γ.2.2.1.1.heap) 0 0 [(0, .ref (a 0)), (1, .int x1)] 31 [.int m6] := by
    intro m6 em6
    rewrite [em6]; clear em6
    exact z_iret_S hQ rfl hv dX7_toldOf_31
  refine z_if_lt (tgt := 30) dX7_toldOf_1 (by decide) (fun c1 => ?_) (fun c1 => ?_)
  · skip
    refine z_iconst (v := (-1)) dX7_toldOf_30 rfl ?_
    exact z_lv rfl (J7 _ (if_pos c1).symm)
  · skip
    refine z_iload_n dX7_toldOf_4 rfl ?_
    refine z_bipush (v := 10) dX7_toldOf_5 rfl ?_
    refine z_irem dX7_toldOf_7 (by decide) ?_
    refine z_iconst (v := 2) dX7_toldOf_8 rfl ?_
    have J8 : ∀ m5 : Int32, m5 = (if 2 < (x1 - x1 / 10 * 10) then (-1) else (if (M.1 0) ≤ (x1 / 10) then (-1) else x1 / 10)) → Z k_X7_toldOf G Γ (rd Γ.2.2.1.1.heap) 0 0 [(0, .ref (a 0)), (1, .int x1)] 31 [.int m5] := by
      intro m5 em5
      rewrite [em5]; clear em5
      exact z_lv rfl (J7 _ (if_neg c1).symm)
    refine z_icmp_gt (tgt := 30) dX7_toldOf_9 (by decide) (fun c2 => ?_) (fun c2 => ?_)
    · skip
      refine z_iconst (v := (-1)) dX7_toldOf_30 rfl ?_
      exact z_lv rfl (J8 _ (if_pos c2).symm)
    · skip
      refine z_iload_n dX7_toldOf_12 rfl ?_
      refine z_bipush (v := 10) dX7_toldOf_13 rfl ?_
      refine z_idiv dX7_toldOf_15 (by decide) ?_
      refine z_aload_n dX7_toldOf_16 rfl ?_
      refine mg_0 (v := M.1 0) hI rfl rfl dX7_toldOf_17 ?_
      have J9 : ∀ m4 : Int32, m4 = (if (M.1 0) ≤ (x1 / 10) then (-1) else x1 / 10) → Z k_X7_toldOf G Γ (rd Γ.2.2.1.1.heap) 0 0 [(0, .ref (a 0)), (1, .int x1)] 31 [.int m4] := by
        intro m4 em4
        rewrite [em4]; clear em4
        exact z_lv rfl (J8 _ (if_neg c2).symm)
      refine z_icmp_ge (tgt := 30) dX7_toldOf_20 (by decide) (fun c3 => ?_) (fun c3 => ?_)
      · skip
        refine z_iconst (v := (-1)) dX7_toldOf_30 rfl ?_
        exact z_lv rfl (J9 _ (if_pos c3).symm)
      · skip
        refine z_iload_n dX7_toldOf_23 rfl ?_
        refine z_bipush (v := 10) dX7_toldOf_24 rfl ?_
        refine z_idiv dX7_toldOf_26 (by decide) ?_
        refine z_goto (tgt := 31) dX7_toldOf_27 (by decide) ?_
        exact z_lv rfl (J9 _ (if_neg c3).symm)
theorem dX7_wrongIn_0 : decode cX7_wrongIn 0 = .ok (.iconst 0, 1) := by decide +kernel
theorem dX7_wrongIn_1 : decode cX7_wrongIn 1 = .ok (.istore_n 3, 1) := by decide +kernel
theorem dX7_wrongIn_2 : decode cX7_wrongIn 2 = .ok (.aload_n 0, 1) := by decide +kernel
theorem dX7_wrongIn_3 : decode cX7_wrongIn 3 = .ok (.iconst 0, 1) := by decide +kernel
theorem dX7_wrongIn_4 : decode cX7_wrongIn 4 = .ok (.putfield 220, 3) := by decide +kernel
theorem dX7_wrongIn_7 : decode cX7_wrongIn 7 = .ok (.aload_n 0, 1) := by decide +kernel
theorem dX7_wrongIn_8 : decode cX7_wrongIn 8 = .ok (.iconst 0, 1) := by decide +kernel
theorem dX7_wrongIn_9 : decode cX7_wrongIn 9 = .ok (.putfield 223, 3) := by decide +kernel
theorem dX7_wrongIn_12 : decode cX7_wrongIn 12 = .ok (.aload_n 0, 1) := by decide +kernel
theorem dX7_wrongIn_13 : decode cX7_wrongIn 13 = .ok (.iconst 0, 1) := by decide +kernel
theorem dX7_wrongIn_14 : decode cX7_wrongIn 14 = .ok (.putfield 226, 3) := by decide +kernel
theorem dX7_wrongIn_17 : decode cX7_wrongIn 17 = .ok (.iconst 0, 1) := by decide +kernel
theorem dX7_wrongIn_18 : decode cX7_wrongIn 18 = .ok (.istore 4, 2) := by decide +kernel
theorem dX7_wrongIn_20 : decode cX7_wrongIn 20 = .ok (.iload 4, 2) := by decide +kernel
theorem dX7_wrongIn_22 : decode cX7_wrongIn 22 = .ok (.iload_n 2, 1) := by decide +kernel
theorem dX7_wrongIn_23 : decode cX7_wrongIn 23 = .ok (.if_icmp .ge 242, 3) := by decide +kernel
theorem dX7_wrongIn_26 : decode cX7_wrongIn 26 = .ok (.aload_n 0, 1) := by decide +kernel
theorem dX7_wrongIn_27 : decode cX7_wrongIn 27 = .ok (.aload_n 0, 1) := by decide +kernel
theorem dX7_wrongIn_28 : decode cX7_wrongIn 28 = .ok (.iload_n 1, 1) := by decide +kernel
theorem dX7_wrongIn_29 : decode cX7_wrongIn 29 = .ok (.iload 4, 2) := by decide +kernel
theorem dX7_wrongIn_31 : decode cX7_wrongIn 31 = .ok (.invokevirtual 233, 3) := by decide +kernel
theorem dX7_wrongIn_34 : decode cX7_wrongIn 34 = .ok (.invokevirtual 263, 3) := by decide +kernel
theorem dX7_wrongIn_37 : decode cX7_wrongIn 37 = .ok (.istore 5, 2) := by decide +kernel
theorem dX7_wrongIn_39 : decode cX7_wrongIn 39 = .ok (.iload 5, 2) := by decide +kernel
theorem dX7_wrongIn_41 : decode cX7_wrongIn 41 = .ok (.iconst (-1), 1) := by decide +kernel
theorem dX7_wrongIn_42 : decode cX7_wrongIn 42 = .ok (.if_icmp .eq 13, 3) := by decide +kernel
theorem dX7_wrongIn_45 : decode cX7_wrongIn 45 = .ok (.iload_n 3, 1) := by decide +kernel
theorem dX7_wrongIn_46 : decode cX7_wrongIn 46 = .ok (.iload 5, 2) := by decide +kernel
theorem dX7_wrongIn_48 : decode cX7_wrongIn 48 = .ok (.ishr, 1) := by decide +kernel
theorem dX7_wrongIn_49 : decode cX7_wrongIn 49 = .ok (.iconst 1, 1) := by decide +kernel
theorem dX7_wrongIn_50 : decode cX7_wrongIn 50 = .ok (.iand, 1) := by decide +kernel
theorem dX7_wrongIn_51 : decode cX7_wrongIn 51 = .ok (.iconst 1, 1) := by decide +kernel
theorem dX7_wrongIn_52 : decode cX7_wrongIn 52 = .ok (.if_icmp .ne 6, 3) := by decide +kernel
theorem dX7_wrongIn_55 : decode cX7_wrongIn 55 = .ok (.iload 4, 2) := by decide +kernel
theorem dX7_wrongIn_57 : decode cX7_wrongIn 57 = .ok (.ireturn, 1) := by decide +kernel
theorem dX7_wrongIn_58 : decode cX7_wrongIn 58 = .ok (.iload_n 3, 1) := by decide +kernel
theorem dX7_wrongIn_59 : decode cX7_wrongIn 59 = .ok (.iconst 1, 1) := by decide +kernel
theorem dX7_wrongIn_60 : decode cX7_wrongIn 60 = .ok (.iload 5, 2) := by decide +kernel
theorem dX7_wrongIn_62 : decode cX7_wrongIn 62 = .ok (.ishl, 1) := by decide +kernel
theorem dX7_wrongIn_63 : decode cX7_wrongIn 63 = .ok (.iadd, 1) := by decide +kernel
theorem dX7_wrongIn_64 : decode cX7_wrongIn 64 = .ok (.istore_n 3, 1) := by decide +kernel
theorem dX7_wrongIn_65 : decode cX7_wrongIn 65 = .ok (.iload 4, 2) := by decide +kernel
theorem dX7_wrongIn_67 : decode cX7_wrongIn 67 = .ok (.iload_n 2, 1) := by decide +kernel
theorem dX7_wrongIn_68 : decode cX7_wrongIn 68 = .ok (.iconst 1, 1) := by decide +kernel
theorem dX7_wrongIn_69 : decode cX7_wrongIn 69 = .ok (.isub, 1) := by decide +kernel
theorem dX7_wrongIn_70 : decode cX7_wrongIn 70 = .ok (.if_icmp .ne 7, 3) := by decide +kernel
theorem dX7_wrongIn_73 : decode cX7_wrongIn 73 = .ok (.iconst (-1), 1) := by decide +kernel
theorem dX7_wrongIn_74 : decode cX7_wrongIn 74 = .ok (.goto 16, 3) := by decide +kernel
theorem dX7_wrongIn_77 : decode cX7_wrongIn 77 = .ok (.aload_n 0, 1) := by decide +kernel
theorem dX7_wrongIn_78 : decode cX7_wrongIn 78 = .ok (.aload_n 0, 1) := by decide +kernel
theorem dX7_wrongIn_79 : decode cX7_wrongIn 79 = .ok (.iload_n 1, 1) := by decide +kernel
theorem dX7_wrongIn_80 : decode cX7_wrongIn 80 = .ok (.iload 4, 2) := by decide +kernel
theorem dX7_wrongIn_82 : decode cX7_wrongIn 82 = .ok (.iconst 1, 1) := by decide +kernel
theorem dX7_wrongIn_83 : decode cX7_wrongIn 83 = .ok (.iadd, 1) := by decide +kernel
theorem dX7_wrongIn_84 : decode cX7_wrongIn 84 = .ok (.invokevirtual 233, 3) := by decide +kernel
theorem dX7_wrongIn_87 : decode cX7_wrongIn 87 = .ok (.invokevirtual 263, 3) := by decide +kernel
theorem dX7_wrongIn_90 : decode cX7_wrongIn 90 = .ok (.istore 6, 2) := by decide +kernel
theorem dX7_wrongIn_92 : decode cX7_wrongIn 92 = .ok (.iload 4, 2) := by decide +kernel
theorem dX7_wrongIn_94 : decode cX7_wrongIn 94 = .ok (.ifCond .ne 7, 3) := by decide +kernel
theorem dX7_wrongIn_97 : decode cX7_wrongIn 97 = .ok (.iconst (-1), 1) := by decide +kernel
theorem dX7_wrongIn_98 : decode cX7_wrongIn 98 = .ok (.goto 12, 3) := by decide +kernel
theorem dX7_wrongIn_101 : decode cX7_wrongIn 101 = .ok (.aload_n 0, 1) := by decide +kernel
theorem dX7_wrongIn_102 : decode cX7_wrongIn 102 = .ok (.getfield 87, 3) := by decide +kernel
theorem dX7_wrongIn_105 : decode cX7_wrongIn 105 = .ok (.iload 4, 2) := by decide +kernel
theorem dX7_wrongIn_107 : decode cX7_wrongIn 107 = .ok (.iconst 1, 1) := by decide +kernel
theorem dX7_wrongIn_108 : decode cX7_wrongIn 108 = .ok (.isub, 1) := by decide +kernel
theorem dX7_wrongIn_109 : decode cX7_wrongIn 109 = .ok (.iaload, 1) := by decide +kernel
theorem dX7_wrongIn_110 : decode cX7_wrongIn 110 = .ok (.istore 7, 2) := by decide +kernel
theorem dX7_wrongIn_112 : decode cX7_wrongIn 112 = .ok (.aload_n 0, 1) := by decide +kernel
theorem dX7_wrongIn_113 : decode cX7_wrongIn 113 = .ok (.getfield 223, 3) := by decide +kernel
theorem dX7_wrongIn_116 : decode cX7_wrongIn 116 = .ok (.aload_n 0, 1) := by decide +kernel
theorem dX7_wrongIn_117 : decode cX7_wrongIn 117 = .ok (.getfield 220, 3) := by decide +kernel
theorem dX7_wrongIn_120 : decode cX7_wrongIn 120 = .ok (.isub, 1) := by decide +kernel
theorem dX7_wrongIn_121 : decode cX7_wrongIn 121 = .ok (.istore 8, 2) := by decide +kernel
theorem dX7_wrongIn_123 : decode cX7_wrongIn 123 = .ok (.iload 6, 2) := by decide +kernel
theorem dX7_wrongIn_125 : decode cX7_wrongIn 125 = .ok (.iconst (-1), 1) := by decide +kernel
theorem dX7_wrongIn_126 : decode cX7_wrongIn 126 = .ok (.if_icmp .eq 16, 3) := by decide +kernel
theorem dX7_wrongIn_129 : decode cX7_wrongIn 129 = .ok (.iload_n 3, 1) := by decide +kernel
theorem dX7_wrongIn_130 : decode cX7_wrongIn 130 = .ok (.iload 6, 2) := by decide +kernel
theorem dX7_wrongIn_132 : decode cX7_wrongIn 132 = .ok (.ishr, 1) := by decide +kernel
theorem dX7_wrongIn_133 : decode cX7_wrongIn 133 = .ok (.iconst 1, 1) := by decide +kernel
theorem dX7_wrongIn_134 : decode cX7_wrongIn 134 = .ok (.iand, 1) := by decide +kernel
theorem dX7_wrongIn_135 : decode cX7_wrongIn 135 = .ok (.iconst 1, 1) := by decide +kernel
theorem dX7_wrongIn_136 : decode cX7_wrongIn 136 = .ok (.if_icmp .ne 6, 3) := by decide +kernel
theorem dX7_wrongIn_139 : decode cX7_wrongIn 139 = .ok (.iconst (-1), 1) := by decide +kernel
theorem dX7_wrongIn_140 : decode cX7_wrongIn 140 = .ok (.istore 6, 2) := by decide +kernel
theorem dX7_wrongIn_142 : decode cX7_wrongIn 142 = .ok (.aload_n 0, 1) := by decide +kernel
theorem dX7_wrongIn_143 : decode cX7_wrongIn 143 = .ok (.getfield 87, 3) := by decide +kernel
theorem dX7_wrongIn_146 : decode cX7_wrongIn 146 = .ok (.iload 4, 2) := by decide +kernel
theorem dX7_wrongIn_148 : decode cX7_wrongIn 148 = .ok (.iload 5, 2) := by decide +kernel
theorem dX7_wrongIn_150 : decode cX7_wrongIn 150 = .ok (.iastore, 1) := by decide +kernel
theorem dX7_wrongIn_151 : decode cX7_wrongIn 151 = .ok (.aload_n 0, 1) := by decide +kernel
theorem dX7_wrongIn_152 : decode cX7_wrongIn 152 = .ok (.getfield 90, 3) := by decide +kernel
theorem dX7_wrongIn_155 : decode cX7_wrongIn 155 = .ok (.iload 4, 2) := by decide +kernel
theorem dX7_wrongIn_157 : decode cX7_wrongIn 157 = .ok (.aload_n 0, 1) := by decide +kernel
theorem dX7_wrongIn_158 : decode cX7_wrongIn 158 = .ok (.iload 5, 2) := by decide +kernel
theorem dX7_wrongIn_160 : decode cX7_wrongIn 160 = .ok (.iload 7, 2) := by decide +kernel
theorem dX7_wrongIn_162 : decode cX7_wrongIn 162 = .ok (.iload 6, 2) := by decide +kernel
theorem dX7_wrongIn_164 : decode cX7_wrongIn 164 = .ok (.iload 8, 2) := by decide +kernel
theorem dX7_wrongIn_166 : decode cX7_wrongIn 166 = .ok (.ifCond .ge 7, 3) := by decide +kernel
theorem dX7_wrongIn_169 : decode cX7_wrongIn 169 = .ok (.iconst 0, 1) := by decide +kernel
theorem dX7_wrongIn_170 : decode cX7_wrongIn 170 = .ok (.goto 5, 3) := by decide +kernel
theorem dX7_wrongIn_173 : decode cX7_wrongIn 173 = .ok (.iload 8, 2) := by decide +kernel
theorem dX7_wrongIn_175 : decode cX7_wrongIn 175 = .ok (.invokevirtual 229, 3) := by decide +kernel
theorem dX7_wrongIn_178 : decode cX7_wrongIn 178 = .ok (.iastore, 1) := by decide +kernel
theorem dX7_wrongIn_179 : decode cX7_wrongIn 179 = .ok (.aload_n 0, 1) := by decide +kernel
theorem dX7_wrongIn_180 : decode cX7_wrongIn 180 = .ok (.getfield 90, 3) := by decide +kernel
theorem dX7_wrongIn_183 : decode cX7_wrongIn 183 = .ok (.iload 4, 2) := by decide +kernel
theorem dX7_wrongIn_185 : decode cX7_wrongIn 185 = .ok (.iaload, 1) := by decide +kernel
theorem dX7_wrongIn_186 : decode cX7_wrongIn 186 = .ok (.aload_n 0, 1) := by decide +kernel
theorem dX7_wrongIn_187 : decode cX7_wrongIn 187 = .ok (.iload_n 1, 1) := by decide +kernel
theorem dX7_wrongIn_188 : decode cX7_wrongIn 188 = .ok (.iload 4, 2) := by decide +kernel
theorem dX7_wrongIn_190 : decode cX7_wrongIn 190 = .ok (.invokevirtual 233, 3) := by decide +kernel
theorem dX7_wrongIn_193 : decode cX7_wrongIn 193 = .ok (.bipush 10, 2) := by decide +kernel
theorem dX7_wrongIn_195 : decode cX7_wrongIn 195 = .ok (.irem, 1) := by decide +kernel
theorem dX7_wrongIn_196 : decode cX7_wrongIn 196 = .ok (.if_icmp .eq 6, 3) := by decide +kernel
theorem dX7_wrongIn_199 : decode cX7_wrongIn 199 = .ok (.iload 4, 2) := by decide +kernel
theorem dX7_wrongIn_201 : decode cX7_wrongIn 201 = .ok (.ireturn, 1) := by decide +kernel
theorem dX7_wrongIn_202 : decode cX7_wrongIn 202 = .ok (.aload_n 0, 1) := by decide +kernel
theorem dX7_wrongIn_203 : decode cX7_wrongIn 203 = .ok (.getfield 90, 3) := by decide +kernel
theorem dX7_wrongIn_206 : decode cX7_wrongIn 206 = .ok (.iload 4, 2) := by decide +kernel
theorem dX7_wrongIn_208 : decode cX7_wrongIn 208 = .ok (.iaload, 1) := by decide +kernel
theorem dX7_wrongIn_209 : decode cX7_wrongIn 209 = .ok (.ifCond .ne 16, 3) := by decide +kernel
theorem dX7_wrongIn_212 : decode cX7_wrongIn 212 = .ok (.aload_n 0, 1) := by decide +kernel
theorem dX7_wrongIn_213 : decode cX7_wrongIn 213 = .ok (.dup, 1) := by decide +kernel
theorem dX7_wrongIn_214 : decode cX7_wrongIn 214 = .ok (.getfield 220, 3) := by decide +kernel
theorem dX7_wrongIn_217 : decode cX7_wrongIn 217 = .ok (.iconst 1, 1) := by decide +kernel
theorem dX7_wrongIn_218 : decode cX7_wrongIn 218 = .ok (.iadd, 1) := by decide +kernel
theorem dX7_wrongIn_219 : decode cX7_wrongIn 219 = .ok (.putfield 220, 3) := by decide +kernel
theorem dX7_wrongIn_222 : decode cX7_wrongIn 222 = .ok (.goto 37, 3) := by decide +kernel
theorem dX7_wrongIn_225 : decode cX7_wrongIn 225 = .ok (.aload_n 0, 1) := by decide +kernel
theorem dX7_wrongIn_226 : decode cX7_wrongIn 226 = .ok (.getfield 90, 3) := by decide +kernel
theorem dX7_wrongIn_229 : decode cX7_wrongIn 229 = .ok (.iload 4, 2) := by decide +kernel
theorem dX7_wrongIn_231 : decode cX7_wrongIn 231 = .ok (.iaload, 1) := by decide +kernel
theorem dX7_wrongIn_232 : decode cX7_wrongIn 232 = .ok (.iconst 1, 1) := by decide +kernel
theorem dX7_wrongIn_233 : decode cX7_wrongIn 233 = .ok (.if_icmp .ne 16, 3) := by decide +kernel
theorem dX7_wrongIn_236 : decode cX7_wrongIn 236 = .ok (.aload_n 0, 1) := by decide +kernel
theorem dX7_wrongIn_237 : decode cX7_wrongIn 237 = .ok (.dup, 1) := by decide +kernel
theorem dX7_wrongIn_238 : decode cX7_wrongIn 238 = .ok (.getfield 223, 3) := by decide +kernel
theorem dX7_wrongIn_241 : decode cX7_wrongIn 241 = .ok (.iconst 1, 1) := by decide +kernel
theorem dX7_wrongIn_242 : decode cX7_wrongIn 242 = .ok (.iadd, 1) := by decide +kernel
theorem dX7_wrongIn_243 : decode cX7_wrongIn 243 = .ok (.putfield 223, 3) := by decide +kernel
theorem dX7_wrongIn_246 : decode cX7_wrongIn 246 = .ok (.goto 13, 3) := by decide +kernel
theorem dX7_wrongIn_249 : decode cX7_wrongIn 249 = .ok (.aload_n 0, 1) := by decide +kernel
theorem dX7_wrongIn_250 : decode cX7_wrongIn 250 = .ok (.dup, 1) := by decide +kernel
theorem dX7_wrongIn_251 : decode cX7_wrongIn 251 = .ok (.getfield 226, 3) := by decide +kernel
theorem dX7_wrongIn_254 : decode cX7_wrongIn 254 = .ok (.iconst 1, 1) := by decide +kernel
theorem dX7_wrongIn_255 : decode cX7_wrongIn 255 = .ok (.iadd, 1) := by decide +kernel
theorem dX7_wrongIn_256 : decode cX7_wrongIn 256 = .ok (.putfield 226, 3) := by decide +kernel
theorem dX7_wrongIn_259 : decode cX7_wrongIn 259 = .ok (.iinc 4 1, 3) := by decide +kernel
theorem dX7_wrongIn_262 : decode cX7_wrongIn 262 = .ok (.goto (-242), 3) := by decide +kernel
theorem dX7_wrongIn_265 : decode cX7_wrongIn 265 = .ok (.iconst (-1), 1) := by decide +kernel
theorem dX7_wrongIn_266 : decode cX7_wrongIn 266 = .ok (.ireturn, 1) := by decide +kernel
abbrev k_X7_wrongIn : zK := (cX7_wrongIn, 9, RX7, (some .int), ({ frames := 4, cells := 0, slots := 0, locals := 95 } : Room))
theorem zc_X7_wrongIn : zcal yX7_wrongIn k_X7_wrongIn.1 k_X7_wrongIn.2.1 k_X7_wrongIn.2.2.2.1 2 := ⟨tw_code_yX7_wrongIn, tw_i_TollForHesitatorsModel, ⟨by decide +kernel, by decide +kernel⟩, by decide +kernel⟩
theorem zv_X7_wrongIn : Cond.instanceMethod yX7_wrongIn ∈ TS ∧ Cond.selects RX7 yX7_wrongIn yX7_wrongIn ∈ TS := ⟨tw_inst_yX7_wrongIn, tw_s_yX7_wrongIn⟩
def v_X7_wrongIn_r : Nat → mT → Int32 → Int32 → Int32 → Int32 → Int32 × mT
  | 0, M, _, _, _, _ => (0, M)
  | n + 1, M, v1, v2, v3, v4 => if v2 ≤ v4 then ((-1), M) else if (v_X7_toldOf M (v_X7_intAt M v1 v4)) = (-1) then (v4, M) else if ((v3 >>> ((v_X7_toldOf M (v_X7_intAt M v1 v4)) &&& 31)) &&& 1) = 1 then (v4, M) else kk (if v4 = (v2 - 1) then (-1) else (v_X7_toldOf M (v_X7_intAt M v1 (v4 + 1)))) (fun m7 : Int32 => kk (if m7 = (-1) then m7 else (if (((v3 + (1 <<< ((v_X7_toldOf M (v_X7_intAt M v1 v4)) &&& 31))) >>> (m7 &&& 31)) &&& 1) = 1 then (-1) else m7)) (fun m14 : Int32 => kk ((v_X7_goes (msa M 33 (upd (M.2.1 33) v4.toNatClampNeg (v_X7_toldOf M (v_X7_intAt M v1 v4)))) (v_X7_toldOf M (v_X7_intAt M v1 v4)) (if v4 = 0 then (-1) else (M.2.1 33) (v4 - 1).toNatClampNeg) m14 (if 0 ≤ ((M.1 38) - (M.1 37)) then (M.1 38) - (M.1 37) else 0))) (fun y19 : Int32 => kk ((v_X7_intAt (msa (msa M 33 (upd (M.2.1 33) v4.toNatClampNeg (v_X7_toldOf M (v_X7_intAt M v1 v4)))) 34 (upd (M.2.1 34) v4.toNatClampNeg y19)) v1 v4)) (fun y23 : Int32 => if ((upd (M.2.1 34) v4.toNatClampNeg y19) v4.toNatClampNeg) = (y23 - y23 / 10 * 10) then kk (if ((upd (M.2.1 34) v4.toNatClampNeg y19) v4.toNatClampNeg) = 0 then msf (msa (msa M 33 (upd (M.2.1 33) v4.toNatClampNeg (v_X7_toldOf M (v_X7_intAt M v1 v4)))) 34 (upd (M.2.1 34) v4.toNatClampNeg y19)) 37 ((M.1 37) + 1) else (if ((upd (M.2.1 34) v4.toNatClampNeg y19) v4.toNatClampNeg) = 1 then msf (msa (msa M 33 (upd (M.2.1 33) v4.toNatClampNeg (v_X7_toldOf M (v_X7_intAt M v1 v4)))) 34 (upd (M.2.1 34) v4.toNatClampNeg y19)) 38 ((M.1 38) + 1) else msf (msa (msa M 33 (upd (M.2.1 33) v4.toNatClampNeg (v_X7_toldOf M (v_X7_intAt M v1 v4)))) 34 (upd (M.2.1 34) v4.toNatClampNeg y19)) 39 ((M.1 39) + 1))) (fun M30 : mT => v_X7_wrongIn_r n M30 v1 v2 (v3 + (1 <<< ((v_X7_toldOf M (v_X7_intAt M v1 v4)) &&& 31))) (v4 + 1)) else (v4, msa (msa M 33 (upd (M.2.1 33) v4.toNatClampNeg (v_X7_toldOf M (v_X7_intAt M v1 v4)))) 34 (upd (M.2.1 34) v4.toNatClampNeg y19))))))
def p_X7_wrongIn_r : Nat → mT → Int32 → Int32 → Int32 → Int32 → Prop
  | 0, _, _, _, _, _ => False
  | n + 1, M, v1, v2, v3, v4 => if v2 ≤ v4 then True else p_X7_intAt M v1 v4 ∧ (if (v_X7_toldOf M (v_X7_intAt M v1 v4)) = (-1) then True else if ((v3 >>> ((v_X7_toldOf M (v_X7_intAt M v1 v4)) &&& 31)) &&& 1) = 1 then True else (if v4 = (v2 - 1) then True else p_X7_intAt M v1 (v4 + 1)) ∧ (kk (if v4 = (v2 - 1) then (-1) else (v_X7_toldOf M (v_X7_intAt M v1 (v4 + 1)))) (fun m7 : Int32 => (if v4 = 0 then True else vp_in (v4 - 1) 7) ∧ (kk (if m7 = (-1) then m7 else (if (((v3 + (1 <<< ((v_X7_toldOf M (v_X7_intAt M v1 v4)) &&& 31))) >>> (m7 &&& 31)) &&& 1) = 1 then (-1) else m7)) (fun m14 : Int32 => vp_in v4 7 ∧ ((p_X7_goes (msa M 33 (upd (M.2.1 33) v4.toNatClampNeg (v_X7_toldOf M (v_X7_intAt M v1 v4)))) (v_X7_toldOf M (v_X7_intAt M v1 v4)) (if v4 = 0 then (-1) else (M.2.1 33) (v4 - 1).toNatClampNeg) m14 (if 0 ≤ ((M.1 38) - (M.1 37)) then (M.1 38) - (M.1 37) else 0)) ∧ (kk ((v_X7_goes (msa M 33 (upd (M.2.1 33) v4.toNatClampNeg (v_X7_toldOf M (v_X7_intAt M v1 v4)))) (v_X7_toldOf M (v_X7_intAt M v1 v4)) (if v4 = 0 then (-1) else (M.2.1 33) (v4 - 1).toNatClampNeg) m14 (if 0 ≤ ((M.1 38) - (M.1 37)) then (M.1 38) - (M.1 37) else 0))) (fun y19 : Int32 => vp_in v4 7 ∧ (vp_in v4 7 ∧ ((p_X7_intAt (msa (msa M 33 (upd (M.2.1 33) v4.toNatClampNeg (v_X7_toldOf M (v_X7_intAt M v1 v4)))) 34 (upd (M.2.1 34) v4.toNatClampNeg y19)) v1 v4) ∧ (kk ((v_X7_intAt (msa (msa M 33 (upd (M.2.1 33) v4.toNatClampNeg (v_X7_toldOf M (v_X7_intAt M v1 v4)))) 34 (upd (M.2.1 34) v4.toNatClampNeg y19)) v1 v4)) (fun y23 : Int32 => if ((upd (M.2.1 34) v4.toNatClampNeg y19) v4.toNatClampNeg) = (y23 - y23 / 10 * 10) then vp_in v4 7 ∧ ((if ((upd (M.2.1 34) v4.toNatClampNeg y19) v4.toNatClampNeg) = 0 then True else vp_in v4 7) ∧ (kk (if ((upd (M.2.1 34) v4.toNatClampNeg y19) v4.toNatClampNeg) = 0 then msf (msa (msa M 33 (upd (M.2.1 33) v4.toNatClampNeg (v_X7_toldOf M (v_X7_intAt M v1 v4)))) 34 (upd (M.2.1 34) v4.toNatClampNeg y19)) 37 ((M.1 37) + 1) else (if ((upd (M.2.1 34) v4.toNatClampNeg y19) v4.toNatClampNeg) = 1 then msf (msa (msa M 33 (upd (M.2.1 33) v4.toNatClampNeg (v_X7_toldOf M (v_X7_intAt M v1 v4)))) 34 (upd (M.2.1 34) v4.toNatClampNeg y19)) 38 ((M.1 38) + 1) else msf (msa (msa M 33 (upd (M.2.1 33) v4.toNatClampNeg (v_X7_toldOf M (v_X7_intAt M v1 v4)))) 34 (upd (M.2.1 34) v4.toNatClampNeg y19)) 39 ((M.1 39) + 1))) (fun M30 : mT => p_X7_wrongIn_r n M30 v1 v2 (v3 + (1 <<< ((v_X7_toldOf M (v_X7_intAt M v1 v4)) &&& 31))) (v4 + 1)))) else True))))))))))))
set_option maxHeartbeats 4000000 in
theorem w_X7_wrongIn {G : zG} {Γ : zT} {a : Nat → Nat} {A : Nat → Prop} {res : Int32 × mT} {X : zX} (hw : wk X A Γ.2.2.1.1.heap) (hQ : zQ Γ (Qwi G (fun r w => r = res.1 ∧ w = mW G a res.2) A) 0 0 A) : ∀ n : Nat, (∀ (M : mT) (v1 : Int32) (v2 : Int32) (v3 : Int32) (v4 : Int32), p_X7_wrongIn_r n M v1 v2 v3 v4 → v_X7_wrongIn_r n M v1 v2 v3 v4 = res → Z k_X7_wrongIn G Γ (wr G A Γ.2.2.1.1.heap (mW G a M)) 0 0 [(0, .ref (a 0)), (1, .int v1), (2, .int v2), (3, .int v3), (4, .int v4)] 20 []) := by
  intro n
  induction n with
  | zero => exact fun M v1 v2 v3 v4 hp => absurd hp (by rw [p_X7_wrongIn_r]; exact not_false)
  | succ n ih =>
    intro M v1 v2 v3 v4 hp hv
    rw [p_X7_wrongIn_r] at hp
    rw [v_X7_wrongIn_r] at hv
    refine z_iload dX7_wrongIn_20 rfl ?_
    refine z_iload_n dX7_wrongIn_22 rfl ?_
    refine z_icmp_ge (tgt := 265) dX7_wrongIn_23 (by decide) (fun c1 => ?_) (fun c1 => ?_)
    · have hp := ip_t hp c1; have hv := it_t hv c1
      refine z_iconst (v := (-1)) dX7_wrongIn_265 rfl ?_
      subst hv; exact z_iret_W hQ rfl rfl rfl ⟨rfl, rfl⟩ dX7_wrongIn_266
    · have hp := ip_f hp c1; have hv := it_f hv c1
      refine z_aload_n dX7_wrongIn_26 rfl ?_
      refine z_aload_n dX7_wrongIn_27 rfl ?_
      refine z_iload_n dX7_wrongIn_28 rfl ?_
      refine z_iload dX7_wrongIn_29 rfl ?_
      obtain ⟨q2, hp⟩ := hp
      refine z_cvi (c_X7_intAt G a M v1 v4 q2) zc_X7_intAt zv_X7_intAt tw_m_RX7_233 (mrec wr_P) wr_P (zroom_of rfl) rfl (Nat.le_of_ble_eq_true rfl) dX7_wrongIn_31 ?_
      refine z_cvi (c_X7_toldOf G a M (v_X7_intAt M v1 v4) ) zc_X7_toldOf zv_X7_toldOf tw_m_RX7_263 (mrec wr_P) wr_P (zroom_of rfl) rfl (Nat.le_of_ble_eq_true rfl) dX7_wrongIn_34 ?_
      refine z_istore (lv' := [(5, .int (v_X7_toldOf M (v_X7_intAt M v1 v4))), (0, .ref (a 0)), (1, .int v1), (2, .int v2), (3, .int v3), (4, .int v4)]) dX7_wrongIn_37 (Nat.le_of_ble_eq_true rfl) rfl ?_
      refine z_iload dX7_wrongIn_39 rfl ?_
      refine z_iconst (v := (-1)) dX7_wrongIn_41 rfl ?_
      refine z_icmp_eq (tgt := 55) dX7_wrongIn_42 (by decide) (fun c3 => ?_) (fun c3 => ?_)
      · have hp := ip_t hp c3; have hv := it_t hv c3
        refine z_iload dX7_wrongIn_55 rfl ?_
        subst hv; exact z_iret_W hQ rfl rfl rfl ⟨rfl, rfl⟩ dX7_wrongIn_57
      · have hp := ip_f hp c3; have hv := it_f hv c3
        refine z_iload_n dX7_wrongIn_45 rfl ?_
        refine z_iload dX7_wrongIn_46 rfl ?_
        refine z_ishr dX7_wrongIn_48 ?_
        refine z_iconst (v := 1) dX7_wrongIn_49 rfl ?_
        refine z_iand dX7_wrongIn_50 ?_
        refine z_iconst (v := 1) dX7_wrongIn_51 rfl ?_
        refine z_icmp_ne (tgt := 58) dX7_wrongIn_52 (by decide) (fun c4 => ?_) (fun c4 => ?_)
        · have hp := ip_f hp c4; have hv := it_f hv c4
          refine z_iload_n dX7_wrongIn_58 rfl ?_
          refine z_iconst (v := 1) dX7_wrongIn_59 rfl ?_
          refine z_iload dX7_wrongIn_60 rfl ?_
          refine z_ishl dX7_wrongIn_62 ?_
          refine z_iadd dX7_wrongIn_63 ?_
          refine z_istore_n (lv' := [(3, .int (v3 + (1 <<< ((v_X7_toldOf M (v_X7_intAt M v1 v4)) &&& 31)))), (5, .int (v_X7_toldOf M (v_X7_intAt M v1 v4))), (0, .ref (a 0)), (1, .int v1), (2, .int v2), (4, .int v4)]) dX7_wrongIn_64 (Nat.le_of_ble_eq_true rfl) rfl ?_
          refine z_iload dX7_wrongIn_65 rfl ?_
          refine z_iload_n dX7_wrongIn_67 rfl ?_
          refine z_iconst (v := 1) dX7_wrongIn_68 rfl ?_
          refine z_isub dX7_wrongIn_69 ?_
          obtain ⟨hpm, hp⟩ := hp
          have J31 : ∀ m7 : Int32, m7 = (if v4 = (v2 - 1) then (-1) else (v_X7_toldOf M (v_X7_intAt M v1 (v4 + 1)))) → Z k_X7_wrongIn G Γ (wr G A Γ.2.2.1.1.heap (mW G a M)) 0 0 [(3, .int (v3 + (1 <<< ((v_X7_toldOf M (v_X7_intAt M v1 v4)) &&& 31)))), (5, .int (v_X7_toldOf M (v_X7_intAt M v1 v4))), (0, .ref (a 0)), (1, .int v1), (2, .int v2), (4, .int v4)] 90 [.int m7] := by
            intro m7 em7
            have hp := kk_pq hp em7
            have hv := kk_vq hv em7
            clear em7
            refine z_istore (lv' := [(6, .int m7), (3, .int (v3 + (1 <<< ((v_X7_toldOf M (v_X7_intAt M v1 v4)) &&& 31)))), (5, .int (v_X7_toldOf M (v_X7_intAt M v1 v4))), (0, .ref (a 0)), (1, .int v1), (2, .int v2), (4, .int v4)]) dX7_wrongIn_90 (Nat.le_of_ble_eq_true rfl) rfl ?_
            refine z_iload dX7_wrongIn_92 rfl ?_
            obtain ⟨hpm, hp⟩ := hp
            have J32 : ∀ m10 : Int32, m10 = (if v4 = 0 then (-1) else (M.2.1 33) (v4 - 1).toNatClampNeg) → Z k_X7_wrongIn G Γ (wr G A Γ.2.2.1.1.heap (mW G a M)) 0 0 [(6, .int m7), (3, .int (v3 + (1 <<< ((v_X7_toldOf M (v_X7_intAt M v1 v4)) &&& 31)))), (5, .int (v_X7_toldOf M (v_X7_intAt M v1 v4))), (0, .ref (a 0)), (1, .int v1), (2, .int v2), (4, .int v4)] 110 [.int m10] := by
              intro m10 em10
              rewrite [em10]; clear em10
              refine z_istore (lv' := [(7, .int (if v4 = 0 then (-1) else (M.2.1 33) (v4 - 1).toNatClampNeg)), (6, .int m7), (3, .int (v3 + (1 <<< ((v_X7_toldOf M (v_X7_intAt M v1 v4)) &&& 31)))), (5, .int (v_X7_toldOf M (v_X7_intAt M v1 v4))), (0, .ref (a 0)), (1, .int v1), (2, .int v2), (4, .int v4)]) dX7_wrongIn_110 (Nat.le_of_ble_eq_true rfl) rfl ?_
              refine z_aload_n dX7_wrongIn_112 rfl ?_
              refine mg_38 (v := M.1 38) wr_P rfl rfl dX7_wrongIn_113 ?_
              refine z_aload_n dX7_wrongIn_116 rfl ?_
              refine mg_37 (v := M.1 37) wr_P rfl rfl dX7_wrongIn_117 ?_
              refine z_isub dX7_wrongIn_120 ?_
              refine z_istore (lv' := [(8, .int ((M.1 38) - (M.1 37))), (7, .int (if v4 = 0 then (-1) else (M.2.1 33) (v4 - 1).toNatClampNeg)), (6, .int m7), (3, .int (v3 + (1 <<< ((v_X7_toldOf M (v_X7_intAt M v1 v4)) &&& 31)))), (5, .int (v_X7_toldOf M (v_X7_intAt M v1 v4))), (0, .ref (a 0)), (1, .int v1), (2, .int v2), (4, .int v4)]) dX7_wrongIn_121 (Nat.le_of_ble_eq_true rfl) rfl ?_
              refine z_iload dX7_wrongIn_123 rfl ?_
              refine z_iconst (v := (-1)) dX7_wrongIn_125 rfl ?_
              have J33 : ∀ m14 : Int32, m14 = (if m7 = (-1) then m7 else (if (((v3 + (1 <<< ((v_X7_toldOf M (v_X7_intAt M v1 v4)) &&& 31))) >>> (m7 &&& 31)) &&& 1) = 1 then (-1) else m7)) → Z k_X7_wrongIn G Γ (wr G A Γ.2.2.1.1.heap (mW G a M)) 0 0 [(8, .int ((M.1 38) - (M.1 37))), (7, .int (if v4 = 0 then (-1) else (M.2.1 33) (v4 - 1).toNatClampNeg)), (6, .int m14), (3, .int (v3 + (1 <<< ((v_X7_toldOf M (v_X7_intAt M v1 v4)) &&& 31)))), (5, .int (v_X7_toldOf M (v_X7_intAt M v1 v4))), (0, .ref (a 0)), (1, .int v1), (2, .int v2), (4, .int v4)] 142 [] := by
                intro m14 em14
                have hp := kk_pq hp em14
                have hv := kk_vq hv em14
                clear em14
                refine z_aload_n dX7_wrongIn_142 rfl ?_
                refine mg_33 wr_P rfl dX7_wrongIn_143 ?_
                refine z_iload dX7_wrongIn_146 rfl ?_
                refine z_iload dX7_wrongIn_148 rfl ?_
                obtain ⟨q15, hp⟩ := hp
                refine ms_33 (F := upd (M.2.1 33) v4.toNatClampNeg (v_X7_toldOf M (v_X7_intAt M v1 v4))) q15 rfl dX7_wrongIn_150 ?_
                refine z_aload_n dX7_wrongIn_151 rfl ?_
                refine mg_34 wr_P rfl dX7_wrongIn_152 ?_
                refine z_iload dX7_wrongIn_155 rfl ?_
                refine z_aload_n dX7_wrongIn_157 rfl ?_
                refine z_iload dX7_wrongIn_158 rfl ?_
                refine z_iload dX7_wrongIn_160 rfl ?_
                refine z_iload dX7_wrongIn_162 rfl ?_
                refine z_iload dX7_wrongIn_164 rfl ?_
                have J34 : ∀ m17 : Int32, m17 = (if 0 ≤ ((M.1 38) - (M.1 37)) then (M.1 38) - (M.1 37) else 0) → Z k_X7_wrongIn G Γ (wr G A Γ.2.2.1.1.heap (mW G a (msa M 33 (upd (M.2.1 33) v4.toNatClampNeg (v_X7_toldOf M (v_X7_intAt M v1 v4)))))) 0 0 [(8, .int ((M.1 38) - (M.1 37))), (7, .int (if v4 = 0 then (-1) else (M.2.1 33) (v4 - 1).toNatClampNeg)), (6, .int m14), (3, .int (v3 + (1 <<< ((v_X7_toldOf M (v_X7_intAt M v1 v4)) &&& 31)))), (5, .int (v_X7_toldOf M (v_X7_intAt M v1 v4))), (0, .ref (a 0)), (1, .int v1), (2, .int v2), (4, .int v4)] 175 [.int m17, .int m14, .int (if v4 = 0 then (-1) else (M.2.1 33) (v4 - 1).toNatClampNeg), .int (v_X7_toldOf M (v_X7_intAt M v1 v4)), .ref (a 0), .int v4, .ref (a 34)] := by
                  intro m17 em17
                  rewrite [em17]; clear em17
                  obtain ⟨q18, hp⟩ := hp
                  refine z_cvi (c_X7_goes G a (msa M 33 (upd (M.2.1 33) v4.toNatClampNeg (v_X7_toldOf M (v_X7_intAt M v1 v4)))) (v_X7_toldOf M (v_X7_intAt M v1 v4)) (if v4 = 0 then (-1) else (M.2.1 33) (v4 - 1).toNatClampNeg) m14 (if 0 ≤ ((M.1 38) - (M.1 37)) then (M.1 38) - (M.1 37) else 0) q18) zc_X7_goes zv_X7_goes tw_m_RX7_229 (mrec wr_P) wr_P (zroom_of rfl) rfl (Nat.le_of_ble_eq_true rfl) dX7_wrongIn_175 ?_
                  suffices z35 : ∀ y19 : Int32, y19 = ((v_X7_goes (msa M 33 (upd (M.2.1 33) v4.toNatClampNeg (v_X7_toldOf M (v_X7_intAt M v1 v4)))) (v_X7_toldOf M (v_X7_intAt M v1 v4)) (if v4 = 0 then (-1) else (M.2.1 33) (v4 - 1).toNatClampNeg) m14 (if 0 ≤ ((M.1 38) - (M.1 37)) then (M.1 38) - (M.1 37) else 0))) → Z k_X7_wrongIn G Γ (wr G A Γ.2.2.1.1.heap (mW G a (msa M 33 (upd (M.2.1 33) v4.toNatClampNeg (v_X7_toldOf M (v_X7_intAt M v1 v4)))))) 0 0 [(8, .int ((M.1 38) - (M.1 37))), (7, .int (if v4 = 0 then (-1) else (M.2.1 33) (v4 - 1).toNatClampNeg)), (6, .int m14), (3, .int (v3 + (1 <<< ((v_X7_toldOf M (v_X7_intAt M v1 v4)) &&& 31)))), (5, .int (v_X7_toldOf M (v_X7_intAt M v1 v4))), (0, .ref (a 0)), (1, .int v1), (2, .int v2), (4, .int v4)] 178 [.int y19, .int v4, .ref (a 34)] from z35 _ rfl
                  intro y19 hy19
                  have hp := kk_pq hp hy19
                  have hv := kk_vq hv hy19
                  clear hy19
                  obtain ⟨q20, hp⟩ := hp
                  refine ms_34 (F := upd (M.2.1 34) v4.toNatClampNeg y19) q20 rfl dX7_wrongIn_178 ?_
                  refine z_aload_n dX7_wrongIn_179 rfl ?_
                  refine mg_34 wr_P rfl dX7_wrongIn_180 ?_
                  refine z_iload dX7_wrongIn_183 rfl ?_
                  obtain ⟨q21, hp⟩ := hp
                  refine ml_34 (x := (upd (M.2.1 34) v4.toNatClampNeg y19) v4.toNatClampNeg) wr_P q21 rfl dX7_wrongIn_185 ?_
                  refine z_aload_n dX7_wrongIn_186 rfl ?_
                  refine z_iload_n dX7_wrongIn_187 rfl ?_
                  refine z_iload dX7_wrongIn_188 rfl ?_
                  obtain ⟨q22, hp⟩ := hp
                  refine z_cvi (c_X7_intAt G a (msa (msa M 33 (upd (M.2.1 33) v4.toNatClampNeg (v_X7_toldOf M (v_X7_intAt M v1 v4)))) 34 (upd (M.2.1 34) v4.toNatClampNeg y19)) v1 v4 q22) zc_X7_intAt zv_X7_intAt tw_m_RX7_233 (mrec wr_P) wr_P (zroom_of rfl) rfl (Nat.le_of_ble_eq_true rfl) dX7_wrongIn_190 ?_
                  refine z_bipush (v := 10) dX7_wrongIn_193 rfl ?_
                  suffices z36 : ∀ y23 : Int32, y23 = ((v_X7_intAt (msa (msa M 33 (upd (M.2.1 33) v4.toNatClampNeg (v_X7_toldOf M (v_X7_intAt M v1 v4)))) 34 (upd (M.2.1 34) v4.toNatClampNeg y19)) v1 v4)) → Z k_X7_wrongIn G Γ (wr G A Γ.2.2.1.1.heap (mW G a (msa (msa M 33 (upd (M.2.1 33) v4.toNatClampNeg (v_X7_toldOf M (v_X7_intAt M v1 v4)))) 34 (upd (M.2.1 34) v4.toNatClampNeg y19)))) 0 0 [(8, .int ((M.1 38) - (M.1 37))), (7, .int (if v4 = 0 then (-1) else (M.2.1 33) (v4 - 1).toNatClampNeg)), (6, .int m14), (3, .int (v3 + (1 <<< ((v_X7_toldOf M (v_X7_intAt M v1 v4)) &&& 31)))), (5, .int (v_X7_toldOf M (v_X7_intAt M v1 v4))), (0, .ref (a 0)), (1, .int v1), (2, .int v2), (4, .int v4)] 195 [.int 10, .int y23, .int ((upd (M.2.1 34) v4.toNatClampNeg y19) v4.toNatClampNeg)] from z36 _ rfl
                  intro y23 hy23
                  have hp := kk_pq hp hy23
                  have hv := kk_vq hv hy23
                  clear hy23
                  refine z_irem dX7_wrongIn_195 (by decide) ?_
                  refine z_icmp_eq (tgt := 202) dX7_wrongIn_196 (by decide) (fun c24 => ?_) (fun c24 => ?_)
                  · have hp := ip_t hp c24; have hv := it_t hv c24
                    refine z_aload_n dX7_wrongIn_202 rfl ?_
                    refine mg_34 wr_P rfl dX7_wrongIn_203 ?_
                    refine z_iload dX7_wrongIn_206 rfl ?_
                    obtain ⟨q25, hp⟩ := hp
                    refine ml_34 (x := (upd (M.2.1 34) v4.toNatClampNeg y19) v4.toNatClampNeg) wr_P q25 rfl dX7_wrongIn_208 ?_
                    obtain ⟨hpm, hp⟩ := hp
                    have J37 : ∀ M30 : mT, M30 = (if ((upd (M.2.1 34) v4.toNatClampNeg y19) v4.toNatClampNeg) = 0 then msf (msa (msa M 33 (upd (M.2.1 33) v4.toNatClampNeg (v_X7_toldOf M (v_X7_intAt M v1 v4)))) 34 (upd (M.2.1 34) v4.toNatClampNeg y19)) 37 ((M.1 37) + 1) else (if ((upd (M.2.1 34) v4.toNatClampNeg y19) v4.toNatClampNeg) = 1 then msf (msa (msa M 33 (upd (M.2.1 33) v4.toNatClampNeg (v_X7_toldOf M (v_X7_intAt M v1 v4)))) 34 (upd (M.2.1 34) v4.toNatClampNeg y19)) 38 ((M.1 38) + 1) else msf (msa (msa M 33 (upd (M.2.1 33) v4.toNatClampNeg (v_X7_toldOf M (v_X7_intAt M v1 v4)))) 34 (upd (M.2.1 34) v4.toNatClampNeg y19)) 39 ((M.1 39) + 1))) → Z k_X7_wrongIn G Γ (wr G A Γ.2.2.1.1.heap (mW G a M30)) 0 0 [(8, .int ((M.1 38) - (M.1 37))), (7, .int (if v4 = 0 then (-1) else (M.2.1 33) (v4 - 1).toNatClampNeg)), (6, .int m14), (3, .int (v3 + (1 <<< ((v_X7_toldOf M (v_X7_intAt M v1 v4)) &&& 31)))), (5, .int (v_X7_toldOf M (v_X7_intAt M v1 v4))), (0, .ref (a 0)), (1, .int v1), (2, .int v2), (4, .int v4)] 259 [] := by
                      intro M30 eM30
                      have hp := kk_pq hp eM30
                      have hv := kk_vq hv eM30
                      clear eM30
                      refine z_iinc (v := v4 + 1) (lv' := [(4, .int (v4 + 1)), (8, .int ((M.1 38) - (M.1 37))), (7, .int (if v4 = 0 then (-1) else (M.2.1 33) (v4 - 1).toNatClampNeg)), (6, .int m14), (3, .int (v3 + (1 <<< ((v_X7_toldOf M (v_X7_intAt M v1 v4)) &&& 31)))), (5, .int (v_X7_toldOf M (v_X7_intAt M v1 v4))), (0, .ref (a 0)), (1, .int v1), (2, .int v2)]) dX7_wrongIn_259 8 rfl rfl (Nat.le_of_ble_eq_true rfl) rfl ?_
                      refine z_goto (tgt := 20) dX7_wrongIn_262 (by decide) ?_
                      exact z_lv rfl ((ih) M30 v1 v2 (v3 + (1 <<< ((v_X7_toldOf M (v_X7_intAt M v1 v4)) &&& 31))) (v4 + 1) hp hv)
                    refine z_if_ne (tgt := 225) dX7_wrongIn_209 (by decide) (fun c26 => ?_) (fun c26 => ?_)
                    · have hp := ip_f hpm c26
                      refine z_aload_n dX7_wrongIn_225 rfl ?_
                      refine mg_34 wr_P rfl dX7_wrongIn_226 ?_
                      refine z_iload dX7_wrongIn_229 rfl ?_
                      have q27 := hp
                      refine ml_34 (x := (upd (M.2.1 34) v4.toNatClampNeg y19) v4.toNatClampNeg) wr_P q27 rfl dX7_wrongIn_231 ?_
                      refine z_iconst (v := 1) dX7_wrongIn_232 rfl ?_
                      have J38 : ∀ M29 : mT, M29 = (if ((upd (M.2.1 34) v4.toNatClampNeg y19) v4.toNatClampNeg) = 1 then msf (msa (msa M 33 (upd (M.2.1 33) v4.toNatClampNeg (v_X7_toldOf M (v_X7_intAt M v1 v4)))) 34 (upd (M.2.1 34) v4.toNatClampNeg y19)) 38 ((M.1 38) + 1) else msf (msa (msa M 33 (upd (M.2.1 33) v4.toNatClampNeg (v_X7_toldOf M (v_X7_intAt M v1 v4)))) 34 (upd (M.2.1 34) v4.toNatClampNeg y19)) 39 ((M.1 39) + 1)) → Z k_X7_wrongIn G Γ (wr G A Γ.2.2.1.1.heap (mW G a M29)) 0 0 [(8, .int ((M.1 38) - (M.1 37))), (7, .int (if v4 = 0 then (-1) else (M.2.1 33) (v4 - 1).toNatClampNeg)), (6, .int m14), (3, .int (v3 + (1 <<< ((v_X7_toldOf M (v_X7_intAt M v1 v4)) &&& 31)))), (5, .int (v_X7_toldOf M (v_X7_intAt M v1 v4))), (0, .ref (a 0)), (1, .int v1), (2, .int v2), (4, .int v4)] 259 [] := by
                        intro M29 eM29
                        rewrite [eM29]; clear eM29
                        exact z_lv rfl (J37 _ (if_neg c26).symm)
                      refine z_icmp_ne (tgt := 249) dX7_wrongIn_233 (by decide) (fun c28 => ?_) (fun c28 => ?_)
                      · skip
                        refine z_aload_n dX7_wrongIn_249 rfl ?_
                        refine z_dup dX7_wrongIn_250 rfl ?_
                        refine mg_39 (v := M.1 39) wr_P rfl rfl dX7_wrongIn_251 ?_
                        refine z_iconst (v := 1) dX7_wrongIn_254 rfl ?_
                        refine z_iadd dX7_wrongIn_255 ?_
                        refine mp_39 (v := (M.1 39) + 1) rfl dX7_wrongIn_256 ?_
                        exact z_lv rfl (J38 _ (if_neg c28).symm)
                      · skip
                        refine z_aload_n dX7_wrongIn_236 rfl ?_
                        refine z_dup dX7_wrongIn_237 rfl ?_
                        refine mg_38 (v := M.1 38) wr_P rfl rfl dX7_wrongIn_238 ?_
                        refine z_iconst (v := 1) dX7_wrongIn_241 rfl ?_
                        refine z_iadd dX7_wrongIn_242 ?_
                        refine mp_38 (v := (M.1 38) + 1) rfl dX7_wrongIn_243 ?_
                        refine z_goto (tgt := 259) dX7_wrongIn_246 (by decide) ?_
                        exact z_lv rfl (J38 _ (if_pos c28).symm)
                    · have hp := ip_t hpm c26
                      refine z_aload_n dX7_wrongIn_212 rfl ?_
                      refine z_dup dX7_wrongIn_213 rfl ?_
                      refine mg_37 (v := M.1 37) wr_P rfl rfl dX7_wrongIn_214 ?_
                      refine z_iconst (v := 1) dX7_wrongIn_217 rfl ?_
                      refine z_iadd dX7_wrongIn_218 ?_
                      refine mp_37 (v := (M.1 37) + 1) rfl dX7_wrongIn_219 ?_
                      refine z_goto (tgt := 259) dX7_wrongIn_222 (by decide) ?_
                      exact z_lv rfl (J37 _ (if_pos c26).symm)
                  · have hp := ip_f hp c24; have hv := it_f hv c24
                    refine z_iload dX7_wrongIn_199 rfl ?_
                    subst hv; exact z_iret_W hQ rfl rfl rfl ⟨rfl, rfl⟩ dX7_wrongIn_201
                refine z_if_ge (tgt := 173) dX7_wrongIn_166 (by decide) (fun c16 => ?_) (fun c16 => ?_)
                · skip
                  refine z_iload dX7_wrongIn_173 rfl ?_
                  exact z_lv rfl (J34 _ (if_pos c16).symm)
                · skip
                  refine z_iconst (v := 0) dX7_wrongIn_169 rfl ?_
                  refine z_goto (tgt := 175) dX7_wrongIn_170 (by decide) ?_
                  exact z_lv rfl (J34 _ (if_neg c16).symm)
              refine z_icmp_eq (tgt := 142) dX7_wrongIn_126 (by decide) (fun c11 => ?_) (fun c11 => ?_)
              · skip
                exact z_lv rfl (J33 _ (if_pos c11).symm)
              · skip
                refine z_iload_n dX7_wrongIn_129 rfl ?_
                refine z_iload dX7_wrongIn_130 rfl ?_
                refine z_ishr dX7_wrongIn_132 ?_
                refine z_iconst (v := 1) dX7_wrongIn_133 rfl ?_
                refine z_iand dX7_wrongIn_134 ?_
                refine z_iconst (v := 1) dX7_wrongIn_135 rfl ?_
                have J39 : ∀ m13 : Int32, m13 = (if (((v3 + (1 <<< ((v_X7_toldOf M (v_X7_intAt M v1 v4)) &&& 31))) >>> (m7 &&& 31)) &&& 1) = 1 then (-1) else m7) → Z k_X7_wrongIn G Γ (wr G A Γ.2.2.1.1.heap (mW G a M)) 0 0 [(6, .int m13), (8, .int ((M.1 38) - (M.1 37))), (7, .int (if v4 = 0 then (-1) else (M.2.1 33) (v4 - 1).toNatClampNeg)), (3, .int (v3 + (1 <<< ((v_X7_toldOf M (v_X7_intAt M v1 v4)) &&& 31)))), (5, .int (v_X7_toldOf M (v_X7_intAt M v1 v4))), (0, .ref (a 0)), (1, .int v1), (2, .int v2), (4, .int v4)] 142 [] := by
                  intro m13 em13
                  rewrite [em13]; clear em13
                  exact z_lv rfl (J33 _ (if_neg c11).symm)
                refine z_icmp_ne (tgt := 142) dX7_wrongIn_136 (by decide) (fun c12 => ?_) (fun c12 => ?_)
                · skip
                  exact z_lv rfl (J39 _ (if_neg c12).symm)
                · skip
                  refine z_iconst (v := (-1)) dX7_wrongIn_139 rfl ?_
                  refine z_istore (lv' := [(6, .int (-1)), (8, .int ((M.1 38) - (M.1 37))), (7, .int (if v4 = 0 then (-1) else (M.2.1 33) (v4 - 1).toNatClampNeg)), (3, .int (v3 + (1 <<< ((v_X7_toldOf M (v_X7_intAt M v1 v4)) &&& 31)))), (5, .int (v_X7_toldOf M (v_X7_intAt M v1 v4))), (0, .ref (a 0)), (1, .int v1), (2, .int v2), (4, .int v4)]) dX7_wrongIn_140 (Nat.le_of_ble_eq_true rfl) rfl ?_
                  exact z_lv rfl (J39 _ (if_pos c12).symm)
            refine z_if_ne (tgt := 101) dX7_wrongIn_94 (by decide) (fun c8 => ?_) (fun c8 => ?_)
            · have hp := ip_f hpm c8
              refine z_aload_n dX7_wrongIn_101 rfl ?_
              refine mg_33 wr_P rfl dX7_wrongIn_102 ?_
              refine z_iload dX7_wrongIn_105 rfl ?_
              refine z_iconst (v := 1) dX7_wrongIn_107 rfl ?_
              refine z_isub dX7_wrongIn_108 ?_
              have q9 := hp
              refine ml_33 (x := (M.2.1 33) (v4 - 1).toNatClampNeg) wr_P q9 rfl dX7_wrongIn_109 ?_
              exact z_lv rfl (J32 _ (if_neg c8).symm)
            · have hp := ip_t hpm c8
              refine z_iconst (v := (-1)) dX7_wrongIn_97 rfl ?_
              refine z_goto (tgt := 110) dX7_wrongIn_98 (by decide) ?_
              exact z_lv rfl (J32 _ (if_pos c8).symm)
          refine z_icmp_ne (tgt := 77) dX7_wrongIn_70 (by decide) (fun c5 => ?_) (fun c5 => ?_)
          · have hp := ip_f hpm c5
            refine z_aload_n dX7_wrongIn_77 rfl ?_
            refine z_aload_n dX7_wrongIn_78 rfl ?_
            refine z_iload_n dX7_wrongIn_79 rfl ?_
            refine z_iload dX7_wrongIn_80 rfl ?_
            refine z_iconst (v := 1) dX7_wrongIn_82 rfl ?_
            refine z_iadd dX7_wrongIn_83 ?_
            have q6 := hp
            refine z_cvi (c_X7_intAt G a M v1 (v4 + 1) q6) zc_X7_intAt zv_X7_intAt tw_m_RX7_233 (mrec wr_P) wr_P (zroom_of rfl) rfl (Nat.le_of_ble_eq_true rfl) dX7_wrongIn_84 ?_
            refine z_cvi (c_X7_toldOf G a M (v_X7_intAt M v1 (v4 + 1)) ) zc_X7_toldOf zv_X7_toldOf tw_m_RX7_263 (mrec wr_P) wr_P (zroom_of rfl) rfl (Nat.le_of_ble_eq_true rfl) dX7_wrongIn_87 ?_
            exact z_lv rfl (J31 _ (if_neg c5).symm)
          · have hp := ip_t hpm c5
            refine z_iconst (v := (-1)) dX7_wrongIn_73 rfl ?_
            refine z_goto (tgt := 90) dX7_wrongIn_74 (by decide) ?_
            exact z_lv rfl (J31 _ (if_pos c5).symm)
        · have hp := ip_t hp c4; have hv := it_t hv c4
          refine z_iload dX7_wrongIn_55 rfl ?_
          subst hv; exact z_iret_W hQ rfl rfl rfl ⟨rfl, rfl⟩ dX7_wrongIn_57
def v_X7_wrongIn (M : mT) (x1 : Int32) (x2 : Int32) : Int32 × mT := v_X7_wrongIn_r 200 (msf (msf (msf M 37 0) 38 0) 39 0) x1 x2 0 0
def p_X7_wrongIn (M : mT) (x1 : Int32) (x2 : Int32) : Prop := p_X7_wrongIn_r 200 (msf (msf (msf M 37 0) 38 0) 39 0) x1 x2 0 0
set_option maxHeartbeats 4000000 in
theorem c_X7_wrongIn {l : Launch} (G : zG) (a : Nat → Nat) {X : zX} (hX : XOK X) (sz : Nat) (M : mT) (x1 : Int32) (x2 : Int32) (hp : p_X7_wrongIn M x1 x2) : Met l yX7_wrongIn (.code yX7_wrongIn k_X7_wrongIn.1 k_X7_wrongIn.2.1 k_X7_wrongIn.2.2.2.1 :: TS) k_X7_wrongIn.2.2.2.2 (Pz G [.ref (a 0), .int x1, .int x2] (Fw G X (mW G a M) sz)) (Qwi G (fun r w => r = (v_X7_wrongIn M x1 x2).1 ∧ w = mW G a (v_X7_wrongIn M x1 x2).2) (va_A (mW G a M) sz)) 0 0 (va_A (mW G a M) sz) := by
  refine zmet (by decide +kernel) rfl rfl (fun Γ hl0 hQ hN hF => ?_)
  refine z_start hX hF (fun hw => ?_)
  generalize va_A (mW G a M) sz = A at hQ hw ⊢
  obtain ⟨res, hv⟩ : ∃ res, v_X7_wrongIn M x1 x2 = res := ⟨_, rfl⟩
  rw [hv] at hQ
  unfold v_X7_wrongIn at hv
  unfold p_X7_wrongIn at hp
  show Z k_X7_wrongIn G Γ _ 0 0 [(0, .ref (a 0)), (1, .int x1), (2, .int x2)] 0 []
  refine z_iconst (v := 0) dX7_wrongIn_0 rfl ?_
  refine z_istore_n (lv' := [(3, .int 0), (0, .ref (a 0)), (1, .int x1), (2, .int x2)]) dX7_wrongIn_1 (Nat.le_of_ble_eq_true rfl) rfl ?_
  refine z_aload_n dX7_wrongIn_2 rfl ?_
  refine z_iconst (v := 0) dX7_wrongIn_3 rfl ?_
  refine mp_37 (v := 0) rfl dX7_wrongIn_4 ?_
  refine z_aload_n dX7_wrongIn_7 rfl ?_
  refine z_iconst (v := 0) dX7_wrongIn_8 rfl ?_
  refine mp_38 (v := 0) rfl dX7_wrongIn_9 ?_
  refine z_aload_n dX7_wrongIn_12 rfl ?_
  refine z_iconst (v := 0) dX7_wrongIn_13 rfl ?_
  refine mp_39 (v := 0) rfl dX7_wrongIn_14 ?_
  refine z_iconst (v := 0) dX7_wrongIn_17 rfl ?_
  refine z_istore (lv' := [(4, .int 0), (3, .int 0), (0, .ref (a 0)), (1, .int x1), (2, .int x2)]) dX7_wrongIn_18 (Nat.le_of_ble_eq_true rfl) rfl ?_
  exact z_lv rfl ((w_X7_wrongIn hw hQ 200) (msf (msf (msf M 37 0) 38 0) 39 0) x1 x2 0 0 hp hv)
theorem dX7_barsOfDay_0 : decode cX7_barsOfDay 0 = .ok (.aload_n 0, 1) := by decide +kernel
theorem dX7_barsOfDay_1 : decode cX7_barsOfDay 1 = .ok (.iload_n 1, 1) := by decide +kernel
theorem dX7_barsOfDay_2 : decode cX7_barsOfDay 2 = .ok (.invokevirtual 180, 3) := by decide +kernel
theorem dX7_barsOfDay_5 : decode cX7_barsOfDay 5 = .ok (.istore_n 3, 1) := by decide +kernel
theorem dX7_barsOfDay_6 : decode cX7_barsOfDay 6 = .ok (.iload_n 3, 1) := by decide +kernel
theorem dX7_barsOfDay_7 : decode cX7_barsOfDay 7 = .ok (.ifCond .eq 7, 3) := by decide +kernel
theorem dX7_barsOfDay_10 : decode cX7_barsOfDay 10 = .ok (.iload_n 3, 1) := by decide +kernel
theorem dX7_barsOfDay_11 : decode cX7_barsOfDay 11 = .ok (.goto 39, 3) := by decide +kernel
theorem dX7_barsOfDay_14 : decode cX7_barsOfDay 14 = .ok (.iload_n 2, 1) := by decide +kernel
theorem dX7_barsOfDay_15 : decode cX7_barsOfDay 15 = .ok (.ifCond .ge 8, 3) := by decide +kernel
theorem dX7_barsOfDay_18 : decode cX7_barsOfDay 18 = .ok (.bipush (-4), 2) := by decide +kernel
theorem dX7_barsOfDay_20 : decode cX7_barsOfDay 20 = .ok (.goto 30, 3) := by decide +kernel
theorem dX7_barsOfDay_23 : decode cX7_barsOfDay 23 = .ok (.iload_n 2, 1) := by decide +kernel
theorem dX7_barsOfDay_24 : decode cX7_barsOfDay 24 = .ok (.aload_n 0, 1) := by decide +kernel
theorem dX7_barsOfDay_25 : decode cX7_barsOfDay 25 = .ok (.getfield 56, 3) := by decide +kernel
theorem dX7_barsOfDay_28 : decode cX7_barsOfDay 28 = .ok (.iload_n 1, 1) := by decide +kernel
theorem dX7_barsOfDay_29 : decode cX7_barsOfDay 29 = .ok (.iaload, 1) := by decide +kernel
theorem dX7_barsOfDay_30 : decode cX7_barsOfDay 30 = .ok (.if_icmp .le 8, 3) := by decide +kernel
theorem dX7_barsOfDay_33 : decode cX7_barsOfDay 33 = .ok (.bipush (-5), 2) := by decide +kernel
theorem dX7_barsOfDay_35 : decode cX7_barsOfDay 35 = .ok (.goto 15, 3) := by decide +kernel
theorem dX7_barsOfDay_38 : decode cX7_barsOfDay 38 = .ok (.iload_n 2, 1) := by decide +kernel
theorem dX7_barsOfDay_39 : decode cX7_barsOfDay 39 = .ok (.bipush 7, 2) := by decide +kernel
theorem dX7_barsOfDay_41 : decode cX7_barsOfDay 41 = .ok (.if_icmp .le 8, 3) := by decide +kernel
theorem dX7_barsOfDay_44 : decode cX7_barsOfDay 44 = .ok (.bipush (-6), 2) := by decide +kernel
theorem dX7_barsOfDay_46 : decode cX7_barsOfDay 46 = .ok (.goto 4, 3) := by decide +kernel
theorem dX7_barsOfDay_49 : decode cX7_barsOfDay 49 = .ok (.iconst 0, 1) := by decide +kernel
theorem dX7_barsOfDay_50 : decode cX7_barsOfDay 50 = .ok (.ireturn, 1) := by decide +kernel
abbrev k_X7_barsOfDay : zK := (cX7_barsOfDay, 4, RX7, (some .int), ({ frames := 2, cells := 0, slots := 0, locals := 42 } : Room))
theorem zc_X7_barsOfDay : zcal yX7_barsOfDay k_X7_barsOfDay.1 k_X7_barsOfDay.2.1 k_X7_barsOfDay.2.2.2.1 2 := ⟨tw_code_yX7_barsOfDay, tw_i_TollForHesitatorsModel, ⟨by decide +kernel, by decide +kernel⟩, by decide +kernel⟩
theorem zv_X7_barsOfDay : Cond.instanceMethod yX7_barsOfDay ∈ TS ∧ Cond.selects RX7 yX7_barsOfDay yX7_barsOfDay ∈ TS := ⟨tw_inst_yX7_barsOfDay, tw_s_yX7_barsOfDay⟩
def v_X7_barsOfDay (M : mT) (x1 : Int32) (x2 : Int32) : Int32 := (if (v_X7_wanted M x1) = 0 then (if 0 ≤ x2 then (if x2 ≤ ((M.2.1 18) x1.toNatClampNeg) then (if x2 ≤ 7 then 0 else (-6)) else (-5)) else (-4)) else (v_X7_wanted M x1))
def p_X7_barsOfDay (M : mT) (x1 : Int32) (x2 : Int32) : Prop := p_X7_wanted M x1 ∧ (if (v_X7_wanted M x1) = 0 then if 0 ≤ x2 then vp_in x1 8 else True else True)
set_option maxHeartbeats 4000000 in
theorem c_X7_barsOfDay {l : Launch} (G : zG) (a : Nat → Nat) (M : mT) (x1 : Int32) (x2 : Int32) (hp : p_X7_barsOfDay M x1 x2) : Met l yX7_barsOfDay (.code yX7_barsOfDay k_X7_barsOfDay.1 k_X7_barsOfDay.2.1 k_X7_barsOfDay.2.2.2.1 :: TS) k_X7_barsOfDay.2.2.2.2 (Pz G [.ref (a 0), .int x1, .int x2] (va_P G.2.1 CL (mW G a M))) (vp_Si (fun r => r = v_X7_barsOfDay M x1 x2)) 0 0 (fun _ => False) := by
  refine zmet (by decide +kernel) rfl rfl (fun Γ hl0 hQ hN hF => ?_)
  have hI := rd_P (G := G) hF
  obtain ⟨res, hv⟩ : ∃ res, v_X7_barsOfDay M x1 x2 = res := ⟨_, rfl⟩
  rw [hv] at hQ
  unfold v_X7_barsOfDay at hv
  unfold p_X7_barsOfDay at hp
  show Z k_X7_barsOfDay G Γ _ 0 0 [(0, .ref (a 0)), (1, .int x1), (2, .int x2)] 0 []
  refine z_aload_n dX7_barsOfDay_0 rfl ?_
  refine z_iload_n dX7_barsOfDay_1 rfl ?_
  obtain ⟨q1, hp⟩ := hp
  refine z_cvi (c_X7_wanted G a M x1 q1) zc_X7_wanted zv_X7_wanted tw_m_RX7_180 (mrec hI) hI (zroom_of rfl) rfl (Nat.le_of_ble_eq_true rfl) dX7_barsOfDay_2 ?_
  refine z_istore_n (lv' := [(3, .int (v_X7_wanted M x1)), (0, .ref (a 0)), (1, .int x1), (2, .int x2)]) dX7_barsOfDay_5 (Nat.le_of_ble_eq_true rfl) rfl ?_
  refine z_iload_n dX7_barsOfDay_6 rfl ?_
  have hpm := hp
  have J11 : ∀ m10 : Int32, m10 = (if (v_X7_wanted M x1) = 0 then (if 0 ≤ x2 then (if x2 ≤ ((M.2.1 18) x1.toNatClampNeg) then (if x2 ≤ 7 then 0 else (-6)) else (-5)) else (-4)) else (v_X7_wanted M x1)) → Z k_X7_barsOfDay G Γ (rd Γ.2.2.1.1.heap) 0 0 [(3, .int (v_X7_wanted M x1)), (0, .ref (a 0)), (1, .int x1), (2, .int x2)] 50 [.int m10] := by
    intro m10 em10
    rewrite [em10]; clear em10
    exact z_iret_S hQ rfl hv dX7_barsOfDay_50
  refine z_if_eq (tgt := 14) dX7_barsOfDay_7 (by decide) (fun c2 => ?_) (fun c2 => ?_)
  · have hp := ip_t hpm c2
    refine z_iload_n dX7_barsOfDay_14 rfl ?_
    have hpm := hp
    have J12 : ∀ m9 : Int32, m9 = (if 0 ≤ x2 then (if x2 ≤ ((M.2.1 18) x1.toNatClampNeg) then (if x2 ≤ 7 then 0 else (-6)) else (-5)) else (-4)) → Z k_X7_barsOfDay G Γ (rd Γ.2.2.1.1.heap) 0 0 [(3, .int (v_X7_wanted M x1)), (0, .ref (a 0)), (1, .int x1), (2, .int x2)] 50 [.int m9] := by
      intro m9 em9
      rewrite [em9]; clear em9
      exact z_lv rfl (J11 _ (if_pos c2).symm)
    refine z_if_ge (tgt := 23) dX7_barsOfDay_15 (by decide) (fun c3 => ?_) (fun c3 => ?_)
    · have hp := ip_t hpm c3
      refine z_iload_n dX7_barsOfDay_23 rfl ?_
      refine z_aload_n dX7_barsOfDay_24 rfl ?_
      refine mg_18 hI rfl dX7_barsOfDay_25 ?_
      refine z_iload_n dX7_barsOfDay_28 rfl ?_
      have q4 := hp
      refine ml_18 (x := (M.2.1 18) x1.toNatClampNeg) hI q4 rfl dX7_barsOfDay_29 ?_
      have J13 : ∀ m8 : Int32, m8 = (if x2 ≤ ((M.2.1 18) x1.toNatClampNeg) then (if x2 ≤ 7 then 0 else (-6)) else (-5)) → Z k_X7_barsOfDay G Γ (rd Γ.2.2.1.1.heap) 0 0 [(3, .int (v_X7_wanted M x1)), (0, .ref (a 0)), (1, .int x1), (2, .int x2)] 50 [.int m8] := by
        intro m8 em8
        rewrite [em8]; clear em8
        exact z_lv rfl (J12 _ (if_pos c3).symm)
      refine z_icmp_le (tgt := 38) dX7_barsOfDay_30 (by decide) (fun c5 => ?_) (fun c5 => ?_)
      · skip
        refine z_iload_n dX7_barsOfDay_38 rfl ?_
        refine z_bipush (v := 7) dX7_barsOfDay_39 rfl ?_
        have J14 : ∀ m7 : Int32, m7 = (if x2 ≤ 7 then 0 else (-6)) → Z k_X7_barsOfDay G Γ (rd Γ.2.2.1.1.heap) 0 0 [(3, .int (v_X7_wanted M x1)), (0, .ref (a 0)), (1, .int x1), (2, .int x2)] 50 [.int m7] := by
          intro m7 em7
          rewrite [em7]; clear em7
          exact z_lv rfl (J13 _ (if_pos c5).symm)
        refine z_icmp_le (tgt := 49) dX7_barsOfDay_41 (by decide) (fun c6 => ?_) (fun c6 => ?_)
        · skip
          refine z_iconst (v := 0) dX7_barsOfDay_49 rfl ?_
          exact z_lv rfl (J14 _ (if_pos c6).symm)
        · skip
          refine z_bipush (v := (-6)) dX7_barsOfDay_44 rfl ?_
          refine z_goto (tgt := 50) dX7_barsOfDay_46 (by decide) ?_
          exact z_lv rfl (J14 _ (if_neg c6).symm)
      · skip
        refine z_bipush (v := (-5)) dX7_barsOfDay_33 rfl ?_
        refine z_goto (tgt := 50) dX7_barsOfDay_35 (by decide) ?_
        exact z_lv rfl (J13 _ (if_neg c5).symm)
    · have hp := ip_f hpm c3
      refine z_bipush (v := (-4)) dX7_barsOfDay_18 rfl ?_
      refine z_goto (tgt := 50) dX7_barsOfDay_20 (by decide) ?_
      exact z_lv rfl (J12 _ (if_neg c3).symm)
  · have hp := ip_f hpm c2
    refine z_iload_n dX7_barsOfDay_10 rfl ?_
    refine z_goto (tgt := 50) dX7_barsOfDay_11 (by decide) ?_
    exact z_lv rfl (J11 _ (if_neg c2).symm)
theorem dX7_judge_0 : decode cX7_judge 0 = .ok (.aload_n 0, 1) := by decide +kernel
theorem dX7_judge_1 : decode cX7_judge 1 = .ok (.iload_n 1, 1) := by decide +kernel
theorem dX7_judge_2 : decode cX7_judge 2 = .ok (.iload_n 2, 1) := by decide +kernel
theorem dX7_judge_3 : decode cX7_judge 3 = .ok (.invokevirtual 266, 3) := by decide +kernel
theorem dX7_judge_6 : decode cX7_judge 6 = .ok (.istore_n 3, 1) := by decide +kernel
theorem dX7_judge_7 : decode cX7_judge 7 = .ok (.iload_n 3, 1) := by decide +kernel
theorem dX7_judge_8 : decode cX7_judge 8 = .ok (.ifCond .eq 11, 3) := by decide +kernel
theorem dX7_judge_11 : decode cX7_judge 11 = .ok (.aload_n 0, 1) := by decide +kernel
theorem dX7_judge_12 : decode cX7_judge 12 = .ok (.iload_n 3, 1) := by decide +kernel
theorem dX7_judge_13 : decode cX7_judge 13 = .ok (.invokevirtual 211, 3) := by decide +kernel
theorem dX7_judge_16 : decode cX7_judge 16 = .ok (.goto 9, 3) := by decide +kernel
theorem dX7_judge_19 : decode cX7_judge 19 = .ok (.aload_n 0, 1) := by decide +kernel
theorem dX7_judge_20 : decode cX7_judge 20 = .ok (.iload_n 1, 1) := by decide +kernel
theorem dX7_judge_21 : decode cX7_judge 21 = .ok (.iload_n 2, 1) := by decide +kernel
theorem dX7_judge_22 : decode cX7_judge 22 = .ok (.invokevirtual 269, 3) := by decide +kernel
theorem dX7_judge_25 : decode cX7_judge 25 = .ok (.ireturn, 1) := by decide +kernel
abbrev k_X7_judge : zK := (cX7_judge, 4, RX7, (some .int), ({ frames := 5, cells := 0, slots := 0, locals := 123 } : Room))
theorem zc_X7_judge : zcal yX7_judge k_X7_judge.1 k_X7_judge.2.1 k_X7_judge.2.2.2.1 2 := ⟨tw_code_yX7_judge, tw_i_TollForHesitatorsModel, ⟨by decide +kernel, by decide +kernel⟩, by decide +kernel⟩
theorem zv_X7_judge : Cond.instanceMethod yX7_judge ∈ TS ∧ Cond.selects RX7 yX7_judge yX7_judge ∈ TS := ⟨tw_inst_yX7_judge, tw_s_yX7_judge⟩
def v_X7_judge (M : mT) (x1 : Int32) (x2 : Int32) : Int32 × mT := kk (if (v_X7_barsOfDay M x1 x2) = 0 then (v_X7_wrongIn M x1 x2).2 else (v_X7_noTen M (v_X7_barsOfDay M x1 x2)).2) (fun M7 : mT => ((if (v_X7_barsOfDay M x1 x2) = 0 then (v_X7_wrongIn M x1 x2).1 else (v_X7_noTen M (v_X7_barsOfDay M x1 x2)).1), M7))
def p_X7_judge (M : mT) (x1 : Int32) (x2 : Int32) : Prop := p_X7_barsOfDay M x1 x2 ∧ (if (v_X7_barsOfDay M x1 x2) = 0 then p_X7_wrongIn M x1 x2 else p_X7_noTen M (v_X7_barsOfDay M x1 x2))
set_option maxHeartbeats 4000000 in
theorem c_X7_judge {l : Launch} (G : zG) (a : Nat → Nat) {X : zX} (hX : XOK X) (sz : Nat) (M : mT) (x1 : Int32) (x2 : Int32) (hp : p_X7_judge M x1 x2) : Met l yX7_judge (.code yX7_judge k_X7_judge.1 k_X7_judge.2.1 k_X7_judge.2.2.2.1 :: TS) k_X7_judge.2.2.2.2 (Pz G [.ref (a 0), .int x1, .int x2] (Fw G X (mW G a M) sz)) (Qwi G (fun r w => r = (v_X7_judge M x1 x2).1 ∧ w = mW G a (v_X7_judge M x1 x2).2) (va_A (mW G a M) sz)) 0 0 (va_A (mW G a M) sz) := by
  refine zmet (by decide +kernel) rfl rfl (fun Γ hl0 hQ hN hF => ?_)
  refine z_start hX hF (fun hw => ?_)
  generalize va_A (mW G a M) sz = A at hQ hw ⊢
  obtain ⟨res, hv⟩ : ∃ res, v_X7_judge M x1 x2 = res := ⟨_, rfl⟩
  rw [hv] at hQ
  unfold v_X7_judge at hv
  unfold p_X7_judge at hp
  show Z k_X7_judge G Γ _ 0 0 [(0, .ref (a 0)), (1, .int x1), (2, .int x2)] 0 []
  refine z_aload_n dX7_judge_0 rfl ?_
  refine z_iload_n dX7_judge_1 rfl ?_
  refine z_iload_n dX7_judge_2 rfl ?_
  obtain ⟨q1, hp⟩ := hp
  refine z_cvi (c_X7_barsOfDay G a M x1 x2 q1) zc_X7_barsOfDay zv_X7_barsOfDay tw_m_RX7_266 (mrec wr_P) wr_P (zroom_of rfl) rfl (Nat.le_of_ble_eq_true rfl) dX7_judge_3 ?_
  refine z_istore_n (lv' := [(3, .int (v_X7_barsOfDay M x1 x2)), (0, .ref (a 0)), (1, .int x1), (2, .int x2)]) dX7_judge_6 (Nat.le_of_ble_eq_true rfl) rfl ?_
  refine z_iload_n dX7_judge_7 rfl ?_
  have hpm := hp
  have J9 : ∀ M7 : mT, M7 = (if (v_X7_barsOfDay M x1 x2) = 0 then (v_X7_wrongIn M x1 x2).2 else (v_X7_noTen M (v_X7_barsOfDay M x1 x2)).2) → ∀ m8 : Int32, m8 = (if (v_X7_barsOfDay M x1 x2) = 0 then (v_X7_wrongIn M x1 x2).1 else (v_X7_noTen M (v_X7_barsOfDay M x1 x2)).1) → Z k_X7_judge G Γ (wr G A Γ.2.2.1.1.heap (mW G a M7)) 0 0 [(3, .int (v_X7_barsOfDay M x1 x2)), (0, .ref (a 0)), (1, .int x1), (2, .int x2)] 25 [.int m8] := by
    intro M7 eM7 m8 em8
    have hv := kk_vq hv eM7
    clear eM7
    rewrite [em8]; clear em8
    subst hv; exact z_iret_W hQ rfl rfl rfl ⟨rfl, rfl⟩ dX7_judge_25
  refine z_if_eq (tgt := 19) dX7_judge_8 (by decide) (fun c2 => ?_) (fun c2 => ?_)
  · have hp := ip_t hpm c2
    refine z_aload_n dX7_judge_19 rfl ?_
    refine z_iload_n dX7_judge_20 rfl ?_
    refine z_iload_n dX7_judge_21 rfl ?_
    have q3 := hp
    refine z_caviD hw (fun sz => c_X7_wrongIn G a hw.1 sz M x1 x2 q3) zc_X7_wrongIn zv_X7_wrongIn tw_m_RX7_269 (mrec wr_P) (zroom_of rfl) rfl (Nat.le_of_ble_eq_true rfl) dX7_judge_22 ?_
    exact z_lv rfl (J9 _ (if_pos c2).symm _ (if_pos c2).symm)
  · have hp := ip_f hpm c2
    refine z_aload_n dX7_judge_11 rfl ?_
    refine z_iload_n dX7_judge_12 rfl ?_
    have q5 := hp
    refine z_caviD hw (fun sz => c_X7_noTen G a hw.1 sz M (v_X7_barsOfDay M x1 x2) q5) zc_X7_noTen zv_X7_noTen tw_m_RX7_211 (mrec wr_P) (zroom_of rfl) rfl (Nat.le_of_ble_eq_true rfl) dX7_judge_13 ?_
    refine z_goto (tgt := 25) dX7_judge_16 (by decide) ?_
    exact z_lv rfl (J9 _ (if_neg c2).symm _ (if_neg c2).symm)
theorem dX7_behind_0 : decode cX7_behind 0 = .ok (.aload_n 0, 1) := by decide +kernel
theorem dX7_behind_1 : decode cX7_behind 1 = .ok (.iload_n 1, 1) := by decide +kernel
theorem dX7_behind_2 : decode cX7_behind 2 = .ok (.iload_n 2, 1) := by decide +kernel
theorem dX7_behind_3 : decode cX7_behind 3 = .ok (.invokevirtual 266, 3) := by decide +kernel
theorem dX7_behind_6 : decode cX7_behind 6 = .ok (.istore 4, 2) := by decide +kernel
theorem dX7_behind_8 : decode cX7_behind 8 = .ok (.iload 4, 2) := by decide +kernel
theorem dX7_behind_10 : decode cX7_behind 10 = .ok (.ifCond .eq 10, 3) := by decide +kernel
theorem dX7_behind_13 : decode cX7_behind 13 = .ok (.iload 4, 2) := by decide +kernel
theorem dX7_behind_15 : decode cX7_behind 15 = .ok (.bipush (-6), 2) := by decide +kernel
theorem dX7_behind_17 : decode cX7_behind 17 = .ok (.if_icmp .ne 16, 3) := by decide +kernel
theorem dX7_behind_20 : decode cX7_behind 20 = .ok (.iload_n 3, 1) := by decide +kernel
theorem dX7_behind_21 : decode cX7_behind 21 = .ok (.ifCond .lt 8, 3) := by decide +kernel
theorem dX7_behind_24 : decode cX7_behind 24 = .ok (.iload_n 3, 1) := by decide +kernel
theorem dX7_behind_25 : decode cX7_behind 25 = .ok (.iconst 2, 1) := by decide +kernel
theorem dX7_behind_26 : decode cX7_behind 26 = .ok (.if_icmp .le 7, 3) := by decide +kernel
theorem dX7_behind_29 : decode cX7_behind 29 = .ok (.bipush (-5), 2) := by decide +kernel
theorem dX7_behind_31 : decode cX7_behind 31 = .ok (.istore 4, 2) := by decide +kernel
theorem dX7_behind_33 : decode cX7_behind 33 = .ok (.iload 4, 2) := by decide +kernel
theorem dX7_behind_35 : decode cX7_behind 35 = .ok (.ifCond .ne 17, 3) := by decide +kernel
theorem dX7_behind_38 : decode cX7_behind 38 = .ok (.aload_n 0, 1) := by decide +kernel
theorem dX7_behind_39 : decode cX7_behind 39 = .ok (.iload_n 1, 1) := by decide +kernel
theorem dX7_behind_40 : decode cX7_behind 40 = .ok (.iload_n 2, 1) := by decide +kernel
theorem dX7_behind_41 : decode cX7_behind 41 = .ok (.invokevirtual 269, 3) := by decide +kernel
theorem dX7_behind_44 : decode cX7_behind 44 = .ok (.iconst (-1), 1) := by decide +kernel
theorem dX7_behind_45 : decode cX7_behind 45 = .ok (.if_icmp .eq 7, 3) := by decide +kernel
theorem dX7_behind_48 : decode cX7_behind 48 = .ok (.bipush (-6), 2) := by decide +kernel
theorem dX7_behind_50 : decode cX7_behind 50 = .ok (.istore 4, 2) := by decide +kernel
theorem dX7_behind_52 : decode cX7_behind 52 = .ok (.iload 4, 2) := by decide +kernel
theorem dX7_behind_54 : decode cX7_behind 54 = .ok (.ifCond .eq 10, 3) := by decide +kernel
theorem dX7_behind_57 : decode cX7_behind 57 = .ok (.aload_n 0, 1) := by decide +kernel
theorem dX7_behind_58 : decode cX7_behind 58 = .ok (.iload 4, 2) := by decide +kernel
theorem dX7_behind_60 : decode cX7_behind 60 = .ok (.invokevirtual 106, 3) := by decide +kernel
theorem dX7_behind_63 : decode cX7_behind 63 = .ok (.ireturn, 1) := by decide +kernel
theorem dX7_behind_64 : decode cX7_behind 64 = .ok (.iload_n 3, 1) := by decide +kernel
theorem dX7_behind_65 : decode cX7_behind 65 = .ok (.ifCond .ne 15, 3) := by decide +kernel
theorem dX7_behind_68 : decode cX7_behind 68 = .ok (.aload_n 0, 1) := by decide +kernel
theorem dX7_behind_69 : decode cX7_behind 69 = .ok (.getfield 223, 3) := by decide +kernel
theorem dX7_behind_72 : decode cX7_behind 72 = .ok (.aload_n 0, 1) := by decide +kernel
theorem dX7_behind_73 : decode cX7_behind 73 = .ok (.getfield 13, 3) := by decide +kernel
theorem dX7_behind_76 : decode cX7_behind 76 = .ok (.imul, 1) := by decide +kernel
theorem dX7_behind_77 : decode cX7_behind 77 = .ok (.goto 19, 3) := by decide +kernel
theorem dX7_behind_80 : decode cX7_behind 80 = .ok (.iload_n 3, 1) := by decide +kernel
theorem dX7_behind_81 : decode cX7_behind 81 = .ok (.iconst 1, 1) := by decide +kernel
theorem dX7_behind_82 : decode cX7_behind 82 = .ok (.if_icmp .ne 10, 3) := by decide +kernel
theorem dX7_behind_85 : decode cX7_behind 85 = .ok (.aload_n 0, 1) := by decide +kernel
theorem dX7_behind_86 : decode cX7_behind 86 = .ok (.getfield 220, 3) := by decide +kernel
theorem dX7_behind_89 : decode cX7_behind 89 = .ok (.goto 7, 3) := by decide +kernel
theorem dX7_behind_92 : decode cX7_behind 92 = .ok (.aload_n 0, 1) := by decide +kernel
theorem dX7_behind_93 : decode cX7_behind 93 = .ok (.getfield 226, 3) := by decide +kernel
theorem dX7_behind_96 : decode cX7_behind 96 = .ok (.ireturn, 1) := by decide +kernel
abbrev k_X7_behind : zK := (cX7_behind, 5, RX7, (some .int), ({ frames := 5, cells := 0, slots := 0, locals := 123 } : Room))
theorem zc_X7_behind : zcal yX7_behind k_X7_behind.1 k_X7_behind.2.1 k_X7_behind.2.2.2.1 3 := ⟨tw_code_yX7_behind, tw_i_TollForHesitatorsModel, ⟨by decide +kernel, by decide +kernel⟩, by decide +kernel⟩
theorem zv_X7_behind : Cond.instanceMethod yX7_behind ∈ TS ∧ Cond.selects RX7 yX7_behind yX7_behind ∈ TS := ⟨tw_inst_yX7_behind, tw_s_yX7_behind⟩
def v_X7_behind (M : mT) (x1 : Int32) (x2 : Int32) (x3 : Int32) : Int32 × mT := kk (if (v_X7_barsOfDay M x1 x2) = 0 then (if x3 < 0 then (-5) else (if x3 ≤ 2 then (v_X7_barsOfDay M x1 x2) else (-5))) else (if (v_X7_barsOfDay M x1 x2) = (-6) then (if x3 < 0 then (-5) else (if x3 ≤ 2 then (v_X7_barsOfDay M x1 x2) else (-5))) else (v_X7_barsOfDay M x1 x2))) (fun m13 : Int32 => kk (if m13 = 0 then (v_X7_wrongIn M x1 x2).2 else M) (fun M19 : mT => kk (if m13 = 0 then (if ((v_X7_wrongIn M x1 x2).1) = (-1) then m13 else (-6)) else m13) (fun m20 : Int32 => if m20 = 0 then ((if x3 = 0 then (M19.1 38) * (M19.1 3) else (if x3 = 1 then M19.1 37 else M19.1 39)), M19) else kk (v_X7_no M19 m20) (fun q27 : Int32 × mT => (q27.1, q27.2)))))
def p_X7_behind (M : mT) (x1 : Int32) (x2 : Int32) (x3 : Int32) : Prop := p_X7_barsOfDay M x1 x2 ∧ (kk (if (v_X7_barsOfDay M x1 x2) = 0 then (if x3 < 0 then (-5) else (if x3 ≤ 2 then (v_X7_barsOfDay M x1 x2) else (-5))) else (if (v_X7_barsOfDay M x1 x2) = (-6) then (if x3 < 0 then (-5) else (if x3 ≤ 2 then (v_X7_barsOfDay M x1 x2) else (-5))) else (v_X7_barsOfDay M x1 x2))) (fun m13 : Int32 => (if m13 = 0 then p_X7_wrongIn M x1 x2 else True) ∧ (kk (if m13 = 0 then (v_X7_wrongIn M x1 x2).2 else M) (fun M19 : mT => kk (if m13 = 0 then (if ((v_X7_wrongIn M x1 x2).1) = (-1) then m13 else (-6)) else m13) (fun m20 : Int32 => if m20 = 0 then True else p_X7_no M19 m20)))))
set_option maxHeartbeats 4000000 in
theorem c_X7_behind {l : Launch} (G : zG) (a : Nat → Nat) {X : zX} (hX : XOK X) (sz : Nat) (M : mT) (x1 : Int32) (x2 : Int32) (x3 : Int32) (hp : p_X7_behind M x1 x2 x3) : Met l yX7_behind (.code yX7_behind k_X7_behind.1 k_X7_behind.2.1 k_X7_behind.2.2.2.1 :: TS) k_X7_behind.2.2.2.2 (Pz G [.ref (a 0), .int x1, .int x2, .int x3] (Fw G X (mW G a M) sz)) (Qwi G (fun r w => r = (v_X7_behind M x1 x2 x3).1 ∧ w = mW G a (v_X7_behind M x1 x2 x3).2) (va_A (mW G a M) sz)) 0 0 (va_A (mW G a M) sz) := by
  refine zmet (by decide +kernel) rfl rfl (fun Γ hl0 hQ hN hF => ?_)
  refine z_start hX hF (fun hw => ?_)
  generalize va_A (mW G a M) sz = A at hQ hw ⊢
  obtain ⟨res, hv⟩ : ∃ res, v_X7_behind M x1 x2 x3 = res := ⟨_, rfl⟩
  rw [hv] at hQ
  unfold v_X7_behind at hv
  unfold p_X7_behind at hp
  show Z k_X7_behind G Γ _ 0 0 [(0, .ref (a 0)), (1, .int x1), (2, .int x2), (3, .int x3)] 0 []
  refine z_aload_n dX7_behind_0 rfl ?_
  refine z_iload_n dX7_behind_1 rfl ?_
  refine z_iload_n dX7_behind_2 rfl ?_
  obtain ⟨q1, hp⟩ := hp
  refine z_cvi (c_X7_barsOfDay G a M x1 x2 q1) zc_X7_barsOfDay zv_X7_barsOfDay tw_m_RX7_266 (mrec wr_P) wr_P (zroom_of rfl) rfl (Nat.le_of_ble_eq_true rfl) dX7_behind_3 ?_
  refine z_istore (lv' := [(4, .int (v_X7_barsOfDay M x1 x2)), (0, .ref (a 0)), (1, .int x1), (2, .int x2), (3, .int x3)]) dX7_behind_6 (Nat.le_of_ble_eq_true rfl) rfl ?_
  refine z_iload dX7_behind_8 rfl ?_
  have J28 : ∀ m13 : Int32, m13 = (if (v_X7_barsOfDay M x1 x2) = 0 then (if x3 < 0 then (-5) else (if x3 ≤ 2 then (v_X7_barsOfDay M x1 x2) else (-5))) else (if (v_X7_barsOfDay M x1 x2) = (-6) then (if x3 < 0 then (-5) else (if x3 ≤ 2 then (v_X7_barsOfDay M x1 x2) else (-5))) else (v_X7_barsOfDay M x1 x2))) → Z k_X7_behind G Γ (wr G A Γ.2.2.1.1.heap (mW G a M)) 0 0 [(4, .int m13), (0, .ref (a 0)), (1, .int x1), (2, .int x2), (3, .int x3)] 33 [] := by
    intro m13 em13
    have hp := kk_pq hp em13
    have hv := kk_vq hv em13
    clear em13
    refine z_iload dX7_behind_33 rfl ?_
    obtain ⟨hpm, hp⟩ := hp
    have J29 : ∀ M19 : mT, M19 = (if m13 = 0 then (v_X7_wrongIn M x1 x2).2 else M) → ∀ m20 : Int32, m20 = (if m13 = 0 then (if ((v_X7_wrongIn M x1 x2).1) = (-1) then m13 else (-6)) else m13) → Z k_X7_behind G Γ (wr G A Γ.2.2.1.1.heap (mW G a M19)) 0 0 [(4, .int m20), (0, .ref (a 0)), (1, .int x1), (2, .int x2), (3, .int x3)] 52 [] := by
      intro M19 eM19 m20 em20
      have hp := kk_pq hp eM19
      have hv := kk_vq hv eM19
      clear eM19
      have hp := kk_pq hp em20
      have hv := kk_vq hv em20
      clear em20
      refine z_iload dX7_behind_52 rfl ?_
      refine z_if_eq (tgt := 64) dX7_behind_54 (by decide) (fun c21 => ?_) (fun c21 => ?_)
      · have hp := ip_t hp c21; have hv := it_t hv c21
        refine z_iload_n dX7_behind_64 rfl ?_
        have J30 : ∀ m25 : Int32, m25 = (if x3 = 0 then (M19.1 38) * (M19.1 3) else (if x3 = 1 then M19.1 37 else M19.1 39)) → Z k_X7_behind G Γ (wr G A Γ.2.2.1.1.heap (mW G a M19)) 0 0 [(4, .int m20), (0, .ref (a 0)), (1, .int x1), (2, .int x2), (3, .int x3)] 96 [.int m25] := by
          intro m25 em25
          rewrite [em25]; clear em25
          subst hv; exact z_iret_W hQ rfl rfl rfl ⟨rfl, rfl⟩ dX7_behind_96
        refine z_if_ne (tgt := 80) dX7_behind_65 (by decide) (fun c22 => ?_) (fun c22 => ?_)
        · skip
          refine z_iload_n dX7_behind_80 rfl ?_
          refine z_iconst (v := 1) dX7_behind_81 rfl ?_
          have J31 : ∀ m24 : Int32, m24 = (if x3 = 1 then M19.1 37 else M19.1 39) → Z k_X7_behind G Γ (wr G A Γ.2.2.1.1.heap (mW G a M19)) 0 0 [(4, .int m20), (0, .ref (a 0)), (1, .int x1), (2, .int x2), (3, .int x3)] 96 [.int m24] := by
            intro m24 em24
            rewrite [em24]; clear em24
            exact z_lv rfl (J30 _ (if_neg c22).symm)
          refine z_icmp_ne (tgt := 92) dX7_behind_82 (by decide) (fun c23 => ?_) (fun c23 => ?_)
          · skip
            refine z_aload_n dX7_behind_92 rfl ?_
            refine mg_39 (v := M19.1 39) wr_P rfl rfl dX7_behind_93 ?_
            exact z_lv rfl (J31 _ (if_neg c23).symm)
          · skip
            refine z_aload_n dX7_behind_85 rfl ?_
            refine mg_37 (v := M19.1 37) wr_P rfl rfl dX7_behind_86 ?_
            refine z_goto (tgt := 96) dX7_behind_89 (by decide) ?_
            exact z_lv rfl (J31 _ (if_pos c23).symm)
        · skip
          refine z_aload_n dX7_behind_68 rfl ?_
          refine mg_38 (v := M19.1 38) wr_P rfl rfl dX7_behind_69 ?_
          refine z_aload_n dX7_behind_72 rfl ?_
          refine mg_3 (v := M19.1 3) wr_P rfl rfl dX7_behind_73 ?_
          refine z_imul dX7_behind_76 ?_
          refine z_goto (tgt := 96) dX7_behind_77 (by decide) ?_
          exact z_lv rfl (J30 _ (if_pos c22).symm)
      · have hp := ip_f hp c21; have hv := it_f hv c21
        refine z_aload_n dX7_behind_57 rfl ?_
        refine z_iload dX7_behind_58 rfl ?_
        have q26 := hp
        refine z_caviD hw (fun sz => c_X7_no G a hw.1 sz M19 m20 q26) zc_X7_no zv_X7_no tw_m_RX7_106 (mrec wr_P) (zroom_of rfl) rfl (Nat.le_of_ble_eq_true rfl) dX7_behind_60 ?_
        suffices z32 : ∀ q27 : Int32 × mT, q27 = (v_X7_no M19 m20) → Z k_X7_behind G Γ (wr G A Γ.2.2.1.1.heap (mW G a q27.2)) 0 0 [(4, .int m20), (0, .ref (a 0)), (1, .int x1), (2, .int x2), (3, .int x3)] 63 [.int q27.1] from z32 _ rfl
        intro q27 hq27
        have hv := kk_vq hv hq27
        clear hq27
        subst hv; exact z_iret_W hQ rfl rfl rfl ⟨rfl, rfl⟩ dX7_behind_63
    refine z_if_ne (tgt := 52) dX7_behind_35 (by decide) (fun c14 => ?_) (fun c14 => ?_)
    · have hp := ip_f hpm c14
      exact z_lv rfl (J29 _ (if_neg c14).symm _ (if_neg c14).symm)
    · have hp := ip_t hpm c14
      refine z_aload_n dX7_behind_38 rfl ?_
      refine z_iload_n dX7_behind_39 rfl ?_
      refine z_iload_n dX7_behind_40 rfl ?_
      have q15 := hp
      refine z_caviD hw (fun sz => c_X7_wrongIn G a hw.1 sz M x1 x2 q15) zc_X7_wrongIn zv_X7_wrongIn tw_m_RX7_269 (mrec wr_P) (zroom_of rfl) rfl (Nat.le_of_ble_eq_true rfl) dX7_behind_41 ?_
      refine z_iconst (v := (-1)) dX7_behind_44 rfl ?_
      have J33 : ∀ m18 : Int32, m18 = (if ((v_X7_wrongIn M x1 x2).1) = (-1) then m13 else (-6)) → Z k_X7_behind G Γ (wr G A Γ.2.2.1.1.heap (mW G a ((v_X7_wrongIn M x1 x2).2))) 0 0 [(4, .int m18), (0, .ref (a 0)), (1, .int x1), (2, .int x2), (3, .int x3)] 52 [] := by
        intro m18 em18
        rewrite [em18]; clear em18
        exact z_lv rfl (J29 _ (if_pos c14).symm _ (if_pos c14).symm)
      refine z_icmp_eq (tgt := 52) dX7_behind_45 (by decide) (fun c17 => ?_) (fun c17 => ?_)
      · skip
        exact z_lv rfl (J33 _ (if_pos c17).symm)
      · skip
        refine z_bipush (v := (-6)) dX7_behind_48 rfl ?_
        refine z_istore (lv' := [(4, .int (-6)), (0, .ref (a 0)), (1, .int x1), (2, .int x2), (3, .int x3)]) dX7_behind_50 (Nat.le_of_ble_eq_true rfl) rfl ?_
        exact z_lv rfl (J33 _ (if_neg c17).symm)
  refine z_if_eq (tgt := 20) dX7_behind_10 (by decide) (fun c2 => ?_) (fun c2 => ?_)
  · skip
    refine z_iload_n dX7_behind_20 rfl ?_
    have J34 : ∀ m6 : Int32, m6 = (if x3 < 0 then (-5) else (if x3 ≤ 2 then (v_X7_barsOfDay M x1 x2) else (-5))) → Z k_X7_behind G Γ (wr G A Γ.2.2.1.1.heap (mW G a M)) 0 0 [(4, .int m6), (0, .ref (a 0)), (1, .int x1), (2, .int x2), (3, .int x3)] 33 [] := by
      intro m6 em6
      rewrite [em6]; clear em6
      exact z_lv rfl (J28 _ (if_pos c2).symm)
    refine z_if_lt (tgt := 29) dX7_behind_21 (by decide) (fun c3 => ?_) (fun c3 => ?_)
    · skip
      refine z_bipush (v := (-5)) dX7_behind_29 rfl ?_
      refine z_istore (lv' := [(4, .int (-5)), (0, .ref (a 0)), (1, .int x1), (2, .int x2), (3, .int x3)]) dX7_behind_31 (Nat.le_of_ble_eq_true rfl) rfl ?_
      exact z_lv rfl (J34 _ (if_pos c3).symm)
    · skip
      refine z_iload_n dX7_behind_24 rfl ?_
      refine z_iconst (v := 2) dX7_behind_25 rfl ?_
      have J35 : ∀ m5 : Int32, m5 = (if x3 ≤ 2 then (v_X7_barsOfDay M x1 x2) else (-5)) → Z k_X7_behind G Γ (wr G A Γ.2.2.1.1.heap (mW G a M)) 0 0 [(4, .int m5), (0, .ref (a 0)), (1, .int x1), (2, .int x2), (3, .int x3)] 33 [] := by
        intro m5 em5
        rewrite [em5]; clear em5
        exact z_lv rfl (J34 _ (if_neg c3).symm)
      refine z_icmp_le (tgt := 33) dX7_behind_26 (by decide) (fun c4 => ?_) (fun c4 => ?_)
      · skip
        exact z_lv rfl (J35 _ (if_pos c4).symm)
      · skip
        refine z_bipush (v := (-5)) dX7_behind_29 rfl ?_
        refine z_istore (lv' := [(4, .int (-5)), (0, .ref (a 0)), (1, .int x1), (2, .int x2), (3, .int x3)]) dX7_behind_31 (Nat.le_of_ble_eq_true rfl) rfl ?_
        exact z_lv rfl (J35 _ (if_neg c4).symm)
  · skip
    refine z_iload dX7_behind_13 rfl ?_
    refine z_bipush (v := (-6)) dX7_behind_15 rfl ?_
    have J36 : ∀ m12 : Int32, m12 = (if (v_X7_barsOfDay M x1 x2) = (-6) then (if x3 < 0 then (-5) else (if x3 ≤ 2 then (v_X7_barsOfDay M x1 x2) else (-5))) else (v_X7_barsOfDay M x1 x2)) → Z k_X7_behind G Γ (wr G A Γ.2.2.1.1.heap (mW G a M)) 0 0 [(4, .int m12), (0, .ref (a 0)), (1, .int x1), (2, .int x2), (3, .int x3)] 33 [] := by
      intro m12 em12
      rewrite [em12]; clear em12
      exact z_lv rfl (J28 _ (if_neg c2).symm)
    refine z_icmp_ne (tgt := 33) dX7_behind_17 (by decide) (fun c7 => ?_) (fun c7 => ?_)
    · skip
      exact z_lv rfl (J36 _ (if_neg c7).symm)
    · skip
      refine z_iload_n dX7_behind_20 rfl ?_
      have J37 : ∀ m11 : Int32, m11 = (if x3 < 0 then (-5) else (if x3 ≤ 2 then (v_X7_barsOfDay M x1 x2) else (-5))) → Z k_X7_behind G Γ (wr G A Γ.2.2.1.1.heap (mW G a M)) 0 0 [(4, .int m11), (0, .ref (a 0)), (1, .int x1), (2, .int x2), (3, .int x3)] 33 [] := by
        intro m11 em11
        rewrite [em11]; clear em11
        exact z_lv rfl (J36 _ (if_pos c7).symm)
      refine z_if_lt (tgt := 29) dX7_behind_21 (by decide) (fun c8 => ?_) (fun c8 => ?_)
      · skip
        refine z_bipush (v := (-5)) dX7_behind_29 rfl ?_
        refine z_istore (lv' := [(4, .int (-5)), (0, .ref (a 0)), (1, .int x1), (2, .int x2), (3, .int x3)]) dX7_behind_31 (Nat.le_of_ble_eq_true rfl) rfl ?_
        exact z_lv rfl (J37 _ (if_pos c8).symm)
      · skip
        refine z_iload_n dX7_behind_24 rfl ?_
        refine z_iconst (v := 2) dX7_behind_25 rfl ?_
        have J38 : ∀ m10 : Int32, m10 = (if x3 ≤ 2 then (v_X7_barsOfDay M x1 x2) else (-5)) → Z k_X7_behind G Γ (wr G A Γ.2.2.1.1.heap (mW G a M)) 0 0 [(4, .int m10), (0, .ref (a 0)), (1, .int x1), (2, .int x2), (3, .int x3)] 33 [] := by
          intro m10 em10
          rewrite [em10]; clear em10
          exact z_lv rfl (J37 _ (if_neg c8).symm)
        refine z_icmp_le (tgt := 33) dX7_behind_26 (by decide) (fun c9 => ?_) (fun c9 => ?_)
        · skip
          exact z_lv rfl (J38 _ (if_pos c9).symm)
        · skip
          refine z_bipush (v := (-5)) dX7_behind_29 rfl ?_
          refine z_istore (lv' := [(4, .int (-5)), (0, .ref (a 0)), (1, .int x1), (2, .int x2), (3, .int x3)]) dX7_behind_31 (Nat.le_of_ble_eq_true rfl) rfl ?_
          exact z_lv rfl (J38 _ (if_neg c9).symm)
