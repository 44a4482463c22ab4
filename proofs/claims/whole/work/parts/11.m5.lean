theorem dX7_toldOf_0 : decode cX7_toldOf 0 = .ok (.iload_n 1, 1) := by decide +kernel
theorem dX7_toldOf_1 : decode cX7_toldOf 1 = .ok (.ifCond .lt 29, 3) := by decide +kernel
theorem dX7_toldOf_4 : decode cX7_toldOf 4 = .ok (.iload_n 1, 1) := by decide +kernel
theorem dX7_toldOf_5 : decode cX7_toldOf 5 = .ok (.bipush 10, 2) := by decide +kernel
theorem dX7_toldOf_7 : decode cX7_toldOf 7 = .ok (.irem, 1) := by decide +kernel
theorem dX7_toldOf_8 : decode cX7_toldOf 8 = .ok (.iconst 2, 1) := by decide +kernel
theorem dX7_toldOf_9 : decode cX7_toldOf 9 = .ok (.if_icmp .gt 21, 3) := by decide +kernel
theorem dX7_toldOf_12 : decode cX7_toldOf 12 = .ok (.iload_n 1, 1) := by decide +kernel
theorem dX7_toldOf_13 : decode cX7_toldOf 13 = .ok (.bipush 10, 2) := by decide +kernel
theorem dX7_toldOf_15 : decode cX7_toldOf 15 = .ok (.idiv, 1) := by decide +kernel
theorem dX7_toldOf_16 : decode cX7_toldOf 16 = .ok (.aload_n 0, 1) := by decide +kernel
theorem dX7_toldOf_17 : decode cX7_toldOf 17 = .ok (.getfield 99, 3) := by decide +kernel
theorem dX7_toldOf_20 : decode cX7_toldOf 20 = .ok (.if_icmp .ge 10, 3) := by decide +kernel
theorem dX7_toldOf_23 : decode cX7_toldOf 23 = .ok (.iload_n 1, 1) := by decide +kernel
theorem dX7_toldOf_24 : decode cX7_toldOf 24 = .ok (.bipush 10, 2) := by decide +kernel
theorem dX7_toldOf_26 : decode cX7_toldOf 26 = .ok (.idiv, 1) := by decide +kernel
theorem dX7_toldOf_27 : decode cX7_toldOf 27 = .ok (.goto 4, 3) := by decide +kernel
theorem dX7_toldOf_30 : decode cX7_toldOf 30 = .ok (.iconst (-1), 1) := by decide +kernel
theorem dX7_toldOf_31 : decode cX7_toldOf 31 = .ok (.ireturn, 1) := by decide +kernel
abbrev k_X7_toldOf : zK := (cX7_toldOf, 2, RX7, (some .int), ({ frames := 0, cells := 0, slots := 0, locals := 0 } : Room))
theorem zc_X7_toldOf : zcal yX7_toldOf k_X7_toldOf.1 k_X7_toldOf.2.1 k_X7_toldOf.2.2.2.1 1 := ⟨tw_code_yX7_toldOf, tw_i_TollForHesitatorsModel, ⟨by decide +kernel, by decide +kernel⟩, by decide +kernel⟩
theorem zv_X7_toldOf : Cond.instanceMethod yX7_toldOf ∈ TS ∧ Cond.selects RX7 yX7_toldOf yX7_toldOf ∈ TS := ⟨tw_inst_yX7_toldOf, tw_s_yX7_toldOf⟩
def v_X7_toldOf (M : mT) (x1 : Int32) : Int32 := (if x1 < 0 then (-1) else (if 2 < (x1 - x1 / 10 * 10) then (-1) else (if (M.1 0) ≤ (x1 / 10) then (-1) else x1 / 10)))
set_option maxHeartbeats 4000000 in
theorem c_X7_toldOf {l : Launch} (G : zG) (a : Nat → Nat) (M : mT) (x1 : Int32) : Met l yX7_toldOf (.code yX7_toldOf k_X7_toldOf.1 k_X7_toldOf.2.1 k_X7_toldOf.2.2.2.1 :: TS) k_X7_toldOf.2.2.2.2 (Pz G [.ref (a 0), .int x1] (va_P G.2.1 CL (mW G a M))) (vp_Si (fun r => r = v_X7_toldOf M x1)) 0 0 (fun _ => False) := by
  refine zmet (by decide +kernel) rfl rfl (fun Γ hl0 hQ hN hF => ?_)
  have hI := rd_P (G := G) hF
  obtain ⟨res, hv⟩ : ∃ res, v_X7_toldOf M x1 = res := ⟨_, rfl⟩
  rw [hv] at hQ
  unfold v_X7_toldOf at hv
  show Z k_X7_toldOf G Γ _ 0 0 [(0, .ref (a 0)), (1, .int x1)] 0 []
  refine z_iload_n dX7_toldOf_0 rfl ?_
  have J7 : ∀ m6 : Int32, m6 = (if x1 < 0 then (-1) else (if 2 < (x1 - x1 / 10 * 10) then (-1) else (if (M.1 0) ≤ (x1 / 10) then (-1) else x1 / 10))) → Z k_X7_toldOf G Γ (rd Γ.2.2.1.1.heap) 0 0 [(0, .ref (a 0)), (1, .int x1)] 31 [.int m6] := by
    intro m6 em6
    subst em6
    exact z_iret_S hQ rfl hv dX7_toldOf_31
  refine z_if_lt (tgt := 30) dX7_toldOf_1 (by decide) (fun c1 => ?_) (fun c1 => ?_)
  · skip
    refine z_iconst (v := (-1)) dX7_toldOf_30 rfl ?_
    exact z_lv rfl (J7 (-1) (if_pos c1).symm)
  · skip
    refine z_iload_n dX7_toldOf_4 rfl ?_
    refine z_bipush (v := 10) dX7_toldOf_5 rfl ?_
    refine z_irem dX7_toldOf_7 (by decide) ?_
    refine z_iconst (v := 2) dX7_toldOf_8 rfl ?_
    have J8 : ∀ m5 : Int32, m5 = (if 2 < (x1 - x1 / 10 * 10) then (-1) else (if (M.1 0) ≤ (x1 / 10) then (-1) else x1 / 10)) → Z k_X7_toldOf G Γ (rd Γ.2.2.1.1.heap) 0 0 [(0, .ref (a 0)), (1, .int x1)] 31 [.int m5] := by
      intro m5 em5
      subst em5
      exact z_lv rfl (J7 (if 2 < (x1 - x1 / 10 * 10) then (-1) else (if (M.1 0) ≤ (x1 / 10) then (-1) else x1 / 10)) (if_neg c1).symm)
    refine z_icmp_gt (tgt := 30) dX7_toldOf_9 (by decide) (fun c2 => ?_) (fun c2 => ?_)
    · skip
      refine z_iconst (v := (-1)) dX7_toldOf_30 rfl ?_
      exact z_lv rfl (J8 (-1) (if_pos c2).symm)
    · skip
      refine z_iload_n dX7_toldOf_12 rfl ?_
      refine z_bipush (v := 10) dX7_toldOf_13 rfl ?_
      refine z_idiv dX7_toldOf_15 (by decide) ?_
      refine z_aload_n dX7_toldOf_16 rfl ?_
      refine mg_0 (v := M.1 0) hI rfl rfl dX7_toldOf_17 ?_
      have J9 : ∀ m4 : Int32, m4 = (if (M.1 0) ≤ (x1 / 10) then (-1) else x1 / 10) → Z k_X7_toldOf G Γ (rd Γ.2.2.1.1.heap) 0 0 [(0, .ref (a 0)), (1, .int x1)] 31 [.int m4] := by
        intro m4 em4
        subst em4
        exact z_lv rfl (J8 (if (M.1 0) ≤ (x1 / 10) then (-1) else x1 / 10) (if_neg c2).symm)
      refine z_icmp_ge (tgt := 30) dX7_toldOf_20 (by decide) (fun c3 => ?_) (fun c3 => ?_)
      · skip
        refine z_iconst (v := (-1)) dX7_toldOf_30 rfl ?_
        exact z_lv rfl (J9 (-1) (if_pos c3).symm)
      · skip
        refine z_iload_n dX7_toldOf_23 rfl ?_
        refine z_bipush (v := 10) dX7_toldOf_24 rfl ?_
        refine z_idiv dX7_toldOf_26 (by decide) ?_
        refine z_goto (tgt := 31) dX7_toldOf_27 (by decide) ?_
        exact z_lv rfl (J9 (x1 / 10) (if_neg c3).symm)
theorem dX7_wrongIn_0 : decode cX7_wrongIn 0 = .ok (.iconst 0, 1) := by decide +kernel
theorem dX7_wrongIn_1 : decode cX7_wrongIn 1 = .ok (.istore_n 3, 1) := by decide +kernel
theorem dX7_wrongIn_2 : decode cX7_wrongIn 2 = .ok (.aload_n 0, 1) := by decide +kernel
theorem dX7_wrongIn_3 : decode cX7_wrongIn 3 = .ok (.iconst 0, 1) := by decide +kernel
theorem dX7_wrongIn_4 : decode cX7_wrongIn 4 = .ok (.putfield 220, 3) := by decide +kernel
theorem dX7_wrongIn_7 : decode cX7_wrongIn 7 = .ok (.aload_n 0, 1) := by decide +kernel
theorem dX7_wrongIn_8 : decode cX7_wrongIn 8 = .ok (.iconst 0, 1) := by decide +kernel
theorem dX7_wrongIn_9 : decode cX7_wrongIn 9 = .ok (.putfield 223, 3) := by decide +kernel
theorem dX7_wrongIn_12 : decode cX7_wrongIn 12 = .ok (.aload_n 0, 1) := by decide +kernel
theorem dX7_wrongIn_13 : decode cX7_wrongIn 13 = .ok (.iconst 0, 1) := by decide +kernel
theorem dX7_wrongIn_14 : decode cX7_wrongIn 14 = .ok (.putfield 226, 3) := by decide +kernel
theorem dX7_wrongIn_17 : decode cX7_wrongIn 17 = .ok (.iconst 0, 1) := by decide +kernel
theorem dX7_wrongIn_18 : decode cX7_wrongIn 18 = .ok (.istore 4, 2) := by decide +kernel
theorem dX7_wrongIn_20 : decode cX7_wrongIn 20 = .ok (.iload 4, 2) := by decide +kernel
theorem dX7_wrongIn_22 : decode cX7_wrongIn 22 = .ok (.iload_n 2, 1) := by decide +kernel
theorem dX7_wrongIn_23 : decode cX7_wrongIn 23 = .ok (.if_icmp .ge 242, 3) := by decide +kernel
theorem dX7_wrongIn_26 : decode cX7_wrongIn 26 = .ok (.aload_n 0, 1) := by decide +kernel
theorem dX7_wrongIn_27 : decode cX7_wrongIn 27 = .ok (.aload_n 0, 1) := by decide +kernel
theorem dX7_wrongIn_28 : decode cX7_wrongIn 28 = .ok (.iload_n 1, 1) := by decide +kernel
theorem dX7_wrongIn_29 : decode cX7_wrongIn 29 = .ok (.iload 4, 2) := by decide +kernel
theorem dX7_wrongIn_31 : decode cX7_wrongIn 31 = .ok (.invokevirtual 233, 3) := by decide +kernel
theorem dX7_wrongIn_34 : decode cX7_wrongIn 34 = .ok (.invokevirtual 263, 3) := by decide +kernel
theorem dX7_wrongIn_37 : decode cX7_wrongIn 37 = .ok (.istore 5, 2) := by decide +kernel
theorem dX7_wrongIn_39 : decode cX7_wrongIn 39 = .ok (.iload 5, 2) := by decide +kernel
theorem dX7_wrongIn_41 : decode cX7_wrongIn 41 = .ok (.iconst (-1), 1) := by decide +kernel
theorem dX7_wrongIn_42 : decode cX7_wrongIn 42 = .ok (.if_icmp .eq 13, 3) := by decide +kernel
theorem dX7_wrongIn_45 : decode cX7_wrongIn 45 = .ok (.iload_n 3, 1) := by decide +kernel
theorem dX7_wrongIn_46 : decode cX7_wrongIn 46 = .ok (.iload 5, 2) := by decide +kernel
theorem dX7_wrongIn_48 : decode cX7_wrongIn 48 = .ok (.ishr, 1) := by decide +kernel
theorem dX7_wrongIn_49 : decode cX7_wrongIn 49 = .ok (.iconst 1, 1) := by decide +kernel
theorem dX7_wrongIn_50 : decode cX7_wrongIn 50 = .ok (.iand, 1) := by decide +kernel
theorem dX7_wrongIn_51 : decode cX7_wrongIn 51 = .ok (.iconst 1, 1) := by decide +kernel
theorem dX7_wrongIn_52 : decode cX7_wrongIn 52 = .ok (.if_icmp .ne 6, 3) := by decide +kernel
theorem dX7_wrongIn_55 : decode cX7_wrongIn 55 = .ok (.iload 4, 2) := by decide +kernel
theorem dX7_wrongIn_57 : decode cX7_wrongIn 57 = .ok (.ireturn, 1) := by decide +kernel
theorem dX7_wrongIn_58 : decode cX7_wrongIn 58 = .ok (.iload_n 3, 1) := by decide +kernel
theorem dX7_wrongIn_59 : decode cX7_wrongIn 59 = .ok (.iconst 1, 1) := by decide +kernel
theorem dX7_wrongIn_60 : decode cX7_wrongIn 60 = .ok (.iload 5, 2) := by decide +kernel
theorem dX7_wrongIn_62 : decode cX7_wrongIn 62 = .ok (.ishl, 1) := by decide +kernel
theorem dX7_wrongIn_63 : decode cX7_wrongIn 63 = .ok (.iadd, 1) := by decide +kernel
theorem dX7_wrongIn_64 : decode cX7_wrongIn 64 = .ok (.istore_n 3, 1) := by decide +kernel
theorem dX7_wrongIn_65 : decode cX7_wrongIn 65 = .ok (.iload 4, 2) := by decide +kernel
theorem dX7_wrongIn_67 : decode cX7_wrongIn 67 = .ok (.iload_n 2, 1) := by decide +kernel
theorem dX7_wrongIn_68 : decode cX7_wrongIn 68 = .ok (.iconst 1, 1) := by decide +kernel
theorem dX7_wrongIn_69 : decode cX7_wrongIn 69 = .ok (.isub, 1) := by decide +kernel
theorem dX7_wrongIn_70 : decode cX7_wrongIn 70 = .ok (.if_icmp .ne 7, 3) := by decide +kernel
theorem dX7_wrongIn_73 : decode cX7_wrongIn 73 = .ok (.iconst (-1), 1) := by decide +kernel
theorem dX7_wrongIn_74 : decode cX7_wrongIn 74 = .ok (.goto 16, 3) := by decide +kernel
theorem dX7_wrongIn_77 : decode cX7_wrongIn 77 = .ok (.aload_n 0, 1) := by decide +kernel
theorem dX7_wrongIn_78 : decode cX7_wrongIn 78 = .ok (.aload_n 0, 1) := by decide +kernel
theorem dX7_wrongIn_79 : decode cX7_wrongIn 79 = .ok (.iload_n 1, 1) := by decide +kernel
theorem dX7_wrongIn_80 : decode cX7_wrongIn 80 = .ok (.iload 4, 2) := by decide +kernel
theorem dX7_wrongIn_82 : decode cX7_wrongIn 82 = .ok (.iconst 1, 1) := by decide +kernel
theorem dX7_wrongIn_83 : decode cX7_wrongIn 83 = .ok (.iadd, 1) := by decide +kernel
theorem dX7_wrongIn_84 : decode cX7_wrongIn 84 = .ok (.invokevirtual 233, 3) := by decide +kernel
theorem dX7_wrongIn_87 : decode cX7_wrongIn 87 = .ok (.invokevirtual 263, 3) := by decide +kernel
theorem dX7_wrongIn_90 : decode cX7_wrongIn 90 = .ok (.istore 6, 2) := by decide +kernel
theorem dX7_wrongIn_92 : decode cX7_wrongIn 92 = .ok (.iload 4, 2) := by decide +kernel
theorem dX7_wrongIn_94 : decode cX7_wrongIn 94 = .ok (.ifCond .ne 7, 3) := by decide +kernel
theorem dX7_wrongIn_97 : decode cX7_wrongIn 97 = .ok (.iconst (-1), 1) := by decide +kernel
theorem dX7_wrongIn_98 : decode cX7_wrongIn 98 = .ok (.goto 12, 3) := by decide +kernel
theorem dX7_wrongIn_101 : decode cX7_wrongIn 101 = .ok (.aload_n 0, 1) := by decide +kernel
theorem dX7_wrongIn_102 : decode cX7_wrongIn 102 = .ok (.getfield 87, 3) := by decide +kernel
theorem dX7_wrongIn_105 : decode cX7_wrongIn 105 = .ok (.iload 4, 2) := by decide +kernel
theorem dX7_wrongIn_107 : decode cX7_wrongIn 107 = .ok (.iconst 1, 1) := by decide +kernel
theorem dX7_wrongIn_108 : decode cX7_wrongIn 108 = .ok (.isub, 1) := by decide +kernel
theorem dX7_wrongIn_109 : decode cX7_wrongIn 109 = .ok (.iaload, 1) := by decide +kernel
theorem dX7_wrongIn_110 : decode cX7_wrongIn 110 = .ok (.istore 7, 2) := by decide +kernel
theorem dX7_wrongIn_112 : decode cX7_wrongIn 112 = .ok (.aload_n 0, 1) := by decide +kernel
theorem dX7_wrongIn_113 : decode cX7_wrongIn 113 = .ok (.getfield 223, 3) := by decide +kernel
theorem dX7_wrongIn_116 : decode cX7_wrongIn 116 = .ok (.aload_n 0, 1) := by decide +kernel
theorem dX7_wrongIn_117 : decode cX7_wrongIn 117 = .ok (.getfield 220, 3) := by decide +kernel
theorem dX7_wrongIn_120 : decode cX7_wrongIn 120 = .ok (.isub, 1) := by decide +kernel
theorem dX7_wrongIn_121 : decode cX7_wrongIn 121 = .ok (.istore 8, 2) := by decide +kernel
theorem dX7_wrongIn_123 : decode cX7_wrongIn 123 = .ok (.iload 6, 2) := by decide +kernel
theorem dX7_wrongIn_125 : decode cX7_wrongIn 125 = .ok (.iconst (-1), 1) := by decide +kernel
theorem dX7_wrongIn_126 : decode cX7_wrongIn 126 = .ok (.if_icmp .eq 16, 3) := by decide +kernel
theorem dX7_wrongIn_129 : decode cX7_wrongIn 129 = .ok (.iload_n 3, 1) := by decide +kernel
theorem dX7_wrongIn_130 : decode cX7_wrongIn 130 = .ok (.iload 6, 2) := by decide +kernel
theorem dX7_wrongIn_132 : decode cX7_wrongIn 132 = .ok (.ishr, 1) := by decide +kernel
theorem dX7_wrongIn_133 : decode cX7_wrongIn 133 = .ok (.iconst 1, 1) := by decide +kernel
theorem dX7_wrongIn_134 : decode cX7_wrongIn 134 = .ok (.iand, 1) := by decide +kernel
theorem dX7_wrongIn_135 : decode cX7_wrongIn 135 = .ok (.iconst 1, 1) := by decide +kernel
theorem dX7_wrongIn_136 : decode cX7_wrongIn 136 = .ok (.if_icmp .ne 6, 3) := by decide +kernel
theorem dX7_wrongIn_139 : decode cX7_wrongIn 139 = .ok (.iconst (-1), 1) := by decide +kernel
theorem dX7_wrongIn_140 : decode cX7_wrongIn 140 = .ok (.istore 6, 2) := by decide +kernel
theorem dX7_wrongIn_142 : decode cX7_wrongIn 142 = .ok (.aload_n 0, 1) := by decide +kernel
theorem dX7_wrongIn_143 : decode cX7_wrongIn 143 = .ok (.getfield 87, 3) := by decide +kernel
theorem dX7_wrongIn_146 : decode cX7_wrongIn 146 = .ok (.iload 4, 2) := by decide +kernel
theorem dX7_wrongIn_148 : decode cX7_wrongIn 148 = .ok (.iload 5, 2) := by decide +kernel
theorem dX7_wrongIn_150 : decode cX7_wrongIn 150 = .ok (.iastore, 1) := by decide +kernel
theorem dX7_wrongIn_151 : decode cX7_wrongIn 151 = .ok (.aload_n 0, 1) := by decide +kernel
theorem dX7_wrongIn_152 : decode cX7_wrongIn 152 = .ok (.getfield 90, 3) := by decide +kernel
theorem dX7_wrongIn_155 : decode cX7_wrongIn 155 = .ok (.iload 4, 2) := by decide +kernel
theorem dX7_wrongIn_157 : decode cX7_wrongIn 157 = .ok (.aload_n 0, 1) := by decide +kernel
theorem dX7_wrongIn_158 : decode cX7_wrongIn 158 = .ok (.iload 5, 2) := by decide +kernel
theorem dX7_wrongIn_160 : decode cX7_wrongIn 160 = .ok (.iload 7, 2) := by decide +kernel
theorem dX7_wrongIn_162 : decode cX7_wrongIn 162 = .ok (.iload 6, 2) := by decide +kernel
theorem dX7_wrongIn_164 : decode cX7_wrongIn 164 = .ok (.iload 8, 2) := by decide +kernel
theorem dX7_wrongIn_166 : decode cX7_wrongIn 166 = .ok (.ifCond .ge 7, 3) := by decide +kernel
theorem dX7_wrongIn_169 : decode cX7_wrongIn 169 = .ok (.iconst 0, 1) := by decide +kernel
theorem dX7_wrongIn_170 : decode cX7_wrongIn 170 = .ok (.goto 5, 3) := by decide +kernel
theorem dX7_wrongIn_173 : decode cX7_wrongIn 173 = .ok (.iload 8, 2) := by decide +kernel
theorem dX7_wrongIn_175 : decode cX7_wrongIn 175 = .ok (.invokevirtual 229, 3) := by decide +kernel
theorem dX7_wrongIn_178 : decode cX7_wrongIn 178 = .ok (.iastore, 1) := by decide +kernel
theorem dX7_wrongIn_179 : decode cX7_wrongIn 179 = .ok (.aload_n 0, 1) := by decide +kernel
theorem dX7_wrongIn_180 : decode cX7_wrongIn 180 = .ok (.getfield 90, 3) := by decide +kernel
theorem dX7_wrongIn_183 : decode cX7_wrongIn 183 = .ok (.iload 4, 2) := by decide +kernel
theorem dX7_wrongIn_185 : decode cX7_wrongIn 185 = .ok (.iaload, 1) := by decide +kernel
theorem dX7_wrongIn_186 : decode cX7_wrongIn 186 = .ok (.aload_n 0, 1) := by decide +kernel
theorem dX7_wrongIn_187 : decode cX7_wrongIn 187 = .ok (.iload_n 1, 1) := by decide +kernel
theorem dX7_wrongIn_188 : decode cX7_wrongIn 188 = .ok (.iload 4, 2) := by decide +kernel
theorem dX7_wrongIn_190 : decode cX7_wrongIn 190 = .ok (.invokevirtual 233, 3) := by decide +kernel
theorem dX7_wrongIn_193 : decode cX7_wrongIn 193 = .ok (.bipush 10, 2) := by decide +kernel
theorem dX7_wrongIn_195 : decode cX7_wrongIn 195 = .ok (.irem, 1) := by decide +kernel
theorem dX7_wrongIn_196 : decode cX7_wrongIn 196 = .ok (.if_icmp .eq 6, 3) := by decide +kernel
theorem dX7_wrongIn_199 : decode cX7_wrongIn 199 = .ok (.iload 4, 2) := by decide +kernel
theorem dX7_wrongIn_201 : decode cX7_wrongIn 201 = .ok (.ireturn, 1) := by decide +kernel
theorem dX7_wrongIn_202 : decode cX7_wrongIn 202 = .ok (.aload_n 0, 1) := by decide +kernel
theorem dX7_wrongIn_203 : decode cX7_wrongIn 203 = .ok (.getfield 90, 3) := by decide +kernel
theorem dX7_wrongIn_206 : decode cX7_wrongIn 206 = .ok (.iload 4, 2) := by decide +kernel
theorem dX7_wrongIn_208 : decode cX7_wrongIn 208 = .ok (.iaload, 1) := by decide +kernel
theorem dX7_wrongIn_209 : decode cX7_wrongIn 209 = .ok (.ifCond .ne 16, 3) := by decide +kernel
theorem dX7_wrongIn_212 : decode cX7_wrongIn 212 = .ok (.aload_n 0, 1) := by decide +kernel
theorem dX7_wrongIn_213 : decode cX7_wrongIn 213 = .ok (.dup, 1) := by decide +kernel
theorem dX7_wrongIn_214 : decode cX7_wrongIn 214 = .ok (.getfield 220, 3) := by decide +kernel
theorem dX7_wrongIn_217 : decode cX7_wrongIn 217 = .ok (.iconst 1, 1) := by decide +kernel
theorem dX7_wrongIn_218 : decode cX7_wrongIn 218 = .ok (.iadd, 1) := by decide +kernel
theorem dX7_wrongIn_219 : decode cX7_wrongIn 219 = .ok (.putfield 220, 3) := by decide +kernel
theorem dX7_wrongIn_222 : decode cX7_wrongIn 222 = .ok (.goto 37, 3) := by decide +kernel
theorem dX7_wrongIn_225 : decode cX7_wrongIn 225 = .ok (.aload_n 0, 1) := by decide +kernel
theorem dX7_wrongIn_226 : decode cX7_wrongIn 226 = .ok (.getfield 90, 3) := by decide +kernel
theorem dX7_wrongIn_229 : decode cX7_wrongIn 229 = .ok (.iload 4, 2) := by decide +kernel
theorem dX7_wrongIn_231 : decode cX7_wrongIn 231 = .ok (.iaload, 1) := by decide +kernel
theorem dX7_wrongIn_232 : decode cX7_wrongIn 232 = .ok (.iconst 1, 1) := by decide +kernel
theorem dX7_wrongIn_233 : decode cX7_wrongIn 233 = .ok (.if_icmp .ne 16, 3) := by decide +kernel
theorem dX7_wrongIn_236 : decode cX7_wrongIn 236 = .ok (.aload_n 0, 1) := by decide +kernel
theorem dX7_wrongIn_237 : decode cX7_wrongIn 237 = .ok (.dup, 1) := by decide +kernel
theorem dX7_wrongIn_238 : decode cX7_wrongIn 238 = .ok (.getfield 223, 3) := by decide +kernel
theorem dX7_wrongIn_241 : decode cX7_wrongIn 241 = .ok (.iconst 1, 1) := by decide +kernel
theorem dX7_wrongIn_242 : decode cX7_wrongIn 242 = .ok (.iadd, 1) := by decide +kernel
theorem dX7_wrongIn_243 : decode cX7_wrongIn 243 = .ok (.putfield 223, 3) := by decide +kernel
theorem dX7_wrongIn_246 : decode cX7_wrongIn 246 = .ok (.goto 13, 3) := by decide +kernel
theorem dX7_wrongIn_249 : decode cX7_wrongIn 249 = .ok (.aload_n 0, 1) := by decide +kernel
theorem dX7_wrongIn_250 : decode cX7_wrongIn 250 = .ok (.dup, 1) := by decide +kernel
theorem dX7_wrongIn_251 : decode cX7_wrongIn 251 = .ok (.getfield 226, 3) := by decide +kernel
theorem dX7_wrongIn_254 : decode cX7_wrongIn 254 = .ok (.iconst 1, 1) := by decide +kernel
theorem dX7_wrongIn_255 : decode cX7_wrongIn 255 = .ok (.iadd, 1) := by decide +kernel
theorem dX7_wrongIn_256 : decode cX7_wrongIn 256 = .ok (.putfield 226, 3) := by decide +kernel
theorem dX7_wrongIn_259 : decode cX7_wrongIn 259 = .ok (.iinc 4 1, 3) := by decide +kernel
theorem dX7_wrongIn_262 : decode cX7_wrongIn 262 = .ok (.goto (-242), 3) := by decide +kernel
theorem dX7_wrongIn_265 : decode cX7_wrongIn 265 = .ok (.iconst (-1), 1) := by decide +kernel
theorem dX7_wrongIn_266 : decode cX7_wrongIn 266 = .ok (.ireturn, 1) := by decide +kernel
abbrev k_X7_wrongIn : zK := (cX7_wrongIn, 9, RX7, (some .int), ({ frames := 4, cells := 0, slots := 0, locals := 95 } : Room))
theorem zc_X7_wrongIn : zcal yX7_wrongIn k_X7_wrongIn.1 k_X7_wrongIn.2.1 k_X7_wrongIn.2.2.2.1 2 := ⟨tw_code_yX7_wrongIn, tw_i_TollForHesitatorsModel, ⟨by decide +kernel, by decide +kernel⟩, by decide +kernel⟩
theorem zv_X7_wrongIn : Cond.instanceMethod yX7_wrongIn ∈ TS ∧ Cond.selects RX7 yX7_wrongIn yX7_wrongIn ∈ TS := ⟨tw_inst_yX7_wrongIn, tw_s_yX7_wrongIn⟩
def v_X7_wrongIn_r : Nat → mT → Int32 → Int32 → Int32 → Int32 → Int32 × mT
  | 0, M, _, _, _, _ => (0, M)
  | n + 1, M, v1, v2, v3, v4 => if v2 ≤ v4 then ((-1), M) else if (v_X7_toldOf M (v_X7_intAt M v1 v4)) = (-1) then (v4, M) else if ((v3 >>> ((v_X7_toldOf M (v_X7_intAt M v1 v4)) &&& 31)) &&& 1) = 1 then (v4, M) else if ((upd (M.2.1 34) v4.toNatClampNeg (v_X7_goes (msa M 33 (upd (M.2.1 33) v4.toNatClampNeg (v_X7_toldOf M (v_X7_intAt M v1 v4)))) (v_X7_toldOf M (v_X7_intAt M v1 v4)) (if v4 = 0 then (-1) else (M.2.1 33) (v4 - 1).toNatClampNeg) (if (if v4 = (v2 - 1) then (-1) else (v_X7_toldOf M (v_X7_intAt M v1 (v4 + 1)))) = (-1) then (if v4 = (v2 - 1) then (-1) else (v_X7_toldOf M (v_X7_intAt M v1 (v4 + 1)))) else (if (((v3 + (1 <<< ((v_X7_toldOf M (v_X7_intAt M v1 v4)) &&& 31))) >>> ((if v4 = (v2 - 1) then (-1) else (v_X7_toldOf M (v_X7_intAt M v1 (v4 + 1)))) &&& 31)) &&& 1) = 1 then (-1) else (if v4 = (v2 - 1) then (-1) else (v_X7_toldOf M (v_X7_intAt M v1 (v4 + 1)))))) (if 0 ≤ ((M.1 38) - (M.1 37)) then (M.1 38) - (M.1 37) else 0))) v4.toNatClampNeg) = ((v_X7_intAt (msa (msa M 33 (upd (M.2.1 33) v4.toNatClampNeg (v_X7_toldOf M (v_X7_intAt M v1 v4)))) 34 (upd (M.2.1 34) v4.toNatClampNeg (v_X7_goes (msa M 33 (upd (M.2.1 33) v4.toNatClampNeg (v_X7_toldOf M (v_X7_intAt M v1 v4)))) (v_X7_toldOf M (v_X7_intAt M v1 v4)) (if v4 = 0 then (-1) else (M.2.1 33) (v4 - 1).toNatClampNeg) (if (if v4 = (v2 - 1) then (-1) else (v_X7_toldOf M (v_X7_intAt M v1 (v4 + 1)))) = (-1) then (if v4 = (v2 - 1) then (-1) else (v_X7_toldOf M (v_X7_intAt M v1 (v4 + 1)))) else (if (((v3 + (1 <<< ((v_X7_toldOf M (v_X7_intAt M v1 v4)) &&& 31))) >>> ((if v4 = (v2 - 1) then (-1) else (v_X7_toldOf M (v_X7_intAt M v1 (v4 + 1)))) &&& 31)) &&& 1) = 1 then (-1) else (if v4 = (v2 - 1) then (-1) else (v_X7_toldOf M (v_X7_intAt M v1 (v4 + 1)))))) (if 0 ≤ ((M.1 38) - (M.1 37)) then (M.1 38) - (M.1 37) else 0)))) v1 v4) - (v_X7_intAt (msa (msa M 33 (upd (M.2.1 33) v4.toNatClampNeg (v_X7_toldOf M (v_X7_intAt M v1 v4)))) 34 (upd (M.2.1 34) v4.toNatClampNeg (v_X7_goes (msa M 33 (upd (M.2.1 33) v4.toNatClampNeg (v_X7_toldOf M (v_X7_intAt M v1 v4)))) (v_X7_toldOf M (v_X7_intAt M v1 v4)) (if v4 = 0 then (-1) else (M.2.1 33) (v4 - 1).toNatClampNeg) (if (if v4 = (v2 - 1) then (-1) else (v_X7_toldOf M (v_X7_intAt M v1 (v4 + 1)))) = (-1) then (if v4 = (v2 - 1) then (-1) else (v_X7_toldOf M (v_X7_intAt M v1 (v4 + 1)))) else (if (((v3 + (1 <<< ((v_X7_toldOf M (v_X7_intAt M v1 v4)) &&& 31))) >>> ((if v4 = (v2 - 1) then (-1) else (v_X7_toldOf M (v_X7_intAt M v1 (v4 + 1)))) &&& 31)) &&& 1) = 1 then (-1) else (if v4 = (v2 - 1) then (-1) else (v_X7_toldOf M (v_X7_intAt M v1 (v4 + 1)))))) (if 0 ≤ ((M.1 38) - (M.1 37)) then (M.1 38) - (M.1 37) else 0)))) v1 v4) / 10 * 10) then kk (if ((upd (M.2.1 34) v4.toNatClampNeg (v_X7_goes (msa M 33 (upd (M.2.1 33) v4.toNatClampNeg (v_X7_toldOf M (v_X7_intAt M v1 v4)))) (v_X7_toldOf M (v_X7_intAt M v1 v4)) (if v4 = 0 then (-1) else (M.2.1 33) (v4 - 1).toNatClampNeg) (if (if v4 = (v2 - 1) then (-1) else (v_X7_toldOf M (v_X7_intAt M v1 (v4 + 1)))) = (-1) then (if v4 = (v2 - 1) then (-1) else (v_X7_toldOf M (v_X7_intAt M v1 (v4 + 1)))) else (if (((v3 + (1 <<< ((v_X7_toldOf M (v_X7_intAt M v1 v4)) &&& 31))) >>> ((if v4 = (v2 - 1) then (-1) else (v_X7_toldOf M (v_X7_intAt M v1 (v4 + 1)))) &&& 31)) &&& 1) = 1 then (-1) else (if v4 = (v2 - 1) then (-1) else (v_X7_toldOf M (v_X7_intAt M v1 (v4 + 1)))))) (if 0 ≤ ((M.1 38) - (M.1 37)) then (M.1 38) - (M.1 37) else 0))) v4.toNatClampNeg) = 0 then msf (msa (msa M 33 (upd (M.2.1 33) v4.toNatClampNeg (v_X7_toldOf M (v_X7_intAt M v1 v4)))) 34 (upd (M.2.1 34) v4.toNatClampNeg (v_X7_goes (msa M 33 (upd (M.2.1 33) v4.toNatClampNeg (v_X7_toldOf M (v_X7_intAt M v1 v4)))) (v_X7_toldOf M (v_X7_intAt M v1 v4)) (if v4 = 0 then (-1) else (M.2.1 33) (v4 - 1).toNatClampNeg) (if (if v4 = (v2 - 1) then (-1) else (v_X7_toldOf M (v_X7_intAt M v1 (v4 + 1)))) = (-1) then (if v4 = (v2 - 1) then (-1) else (v_X7_toldOf M (v_X7_intAt M v1 (v4 + 1)))) else (if (((v3 + (1 <<< ((v_X7_toldOf M (v_X7_intAt M v1 v4)) &&& 31))) >>> ((if v4 = (v2 - 1) then (-1) else (v_X7_toldOf M (v_X7_intAt M v1 (v4 + 1)))) &&& 31)) &&& 1) = 1 then (-1) else (if v4 = (v2 - 1) then (-1) else (v_X7_toldOf M (v_X7_intAt M v1 (v4 + 1)))))) (if 0 ≤ ((M.1 38) - (M.1 37)) then (M.1 38) - (M.1 37) else 0)))) 37 ((M.1 37) + 1) else M27) (fun M28 : mT => v_X7_wrongIn_r n M28 v1 v2 (v3 + (1 <<< ((v_X7_toldOf M (v_X7_intAt M v1 v4)) &&& 31))) (v4 + 1)) else (v4, msa (msa M 33 (upd (M.2.1 33) v4.toNatClampNeg (v_X7_toldOf M (v_X7_intAt M v1 v4)))) 34 (upd (M.2.1 34) v4.toNatClampNeg (v_X7_goes (msa M 33 (upd (M.2.1 33) v4.toNatClampNeg (v_X7_toldOf M (v_X7_intAt M v1 v4)))) (v_X7_toldOf M (v_X7_intAt M v1 v4)) (if v4 = 0 then (-1) else (M.2.1 33) (v4 - 1).toNatClampNeg) (if (if v4 = (v2 - 1) then (-1) else (v_X7_toldOf M (v_X7_intAt M v1 (v4 + 1)))) = (-1) then (if v4 = (v2 - 1) then (-1) else (v_X7_toldOf M (v_X7_intAt M v1 (v4 + 1)))) else (if (((v3 + (1 <<< ((v_X7_toldOf M (v_X7_intAt M v1 v4)) &&& 31))) >>> ((if v4 = (v2 - 1) then (-1) else (v_X7_toldOf M (v_X7_intAt M v1 (v4 + 1)))) &&& 31)) &&& 1) = 1 then (-1) else (if v4 = (v2 - 1) then (-1) else (v_X7_toldOf M (v_X7_intAt M v1 (v4 + 1)))))) (if 0 ≤ ((M.1 38) - (M.1 37)) then (M.1 38) - (M.1 37) else 0))))
def p_X7_wrongIn_r : Nat → mT → Int32 → Int32 → Int32 → Int32 → Prop
  | 0, _, _, _, _, _ => False
  | n + 1, M, v1, v2, v3, v4 => if v2 ≤ v4 then True else p_X7_intAt M v1 v4 ∧ (if (v_X7_toldOf M (v_X7_intAt M v1 v4)) = (-1) then True else if ((v3 >>> ((v_X7_toldOf M (v_X7_intAt M v1 v4)) &&& 31)) &&& 1) = 1 then True else (if v4 = (v2 - 1) then True else p_X7_intAt M v1 (v4 + 1)) ∧ ((if v4 = 0 then True else vp_in (v4 - 1) 7) ∧ (vp_in v4 7 ∧ ((p_X7_goes (msa M 33 (upd (M.2.1 33) v4.toNatClampNeg (v_X7_toldOf M (v_X7_intAt M v1 v4)))) (v_X7_toldOf M (v_X7_intAt M v1 v4)) (if v4 = 0 then (-1) else (M.2.1 33) (v4 - 1).toNatClampNeg) (if (if v4 = (v2 - 1) then (-1) else (v_X7_toldOf M (v_X7_intAt M v1 (v4 + 1)))) = (-1) then (if v4 = (v2 - 1) then (-1) else (v_X7_toldOf M (v_X7_intAt M v1 (v4 + 1)))) else (if (((v3 + (1 <<< ((v_X7_toldOf M (v_X7_intAt M v1 v4)) &&& 31))) >>> ((if v4 = (v2 - 1) then (-1) else (v_X7_toldOf M (v_X7_intAt M v1 (v4 + 1)))) &&& 31)) &&& 1) = 1 then (-1) else (if v4 = (v2 - 1) then (-1) else (v_X7_toldOf M (v_X7_intAt M v1 (v4 + 1)))))) (if 0 ≤ ((M.1 38) - (M.1 37)) then (M.1 38) - (M.1 37) else 0)) ∧ (vp_in v4 7 ∧ (vp_in v4 7 ∧ ((p_X7_intAt (msa (msa M 33 (upd (M.2.1 33) v4.toNatClampNeg (v_X7_toldOf M (v_X7_intAt M v1 v4)))) 34 (upd (M.2.1 34) v4.toNatClampNeg (v_X7_goes (msa M 33 (upd (M.2.1 33) v4.toNatClampNeg (v_X7_toldOf M (v_X7_intAt M v1 v4)))) (v_X7_toldOf M (v_X7_intAt M v1 v4)) (if v4 = 0 then (-1) else (M.2.1 33) (v4 - 1).toNatClampNeg) (if (if v4 = (v2 - 1) then (-1) else (v_X7_toldOf M (v_X7_intAt M v1 (v4 + 1)))) = (-1) then (if v4 = (v2 - 1) then (-1) else (v_X7_toldOf M (v_X7_intAt M v1 (v4 + 1)))) else (if (((v3 + (1 <<< ((v_X7_toldOf M (v_X7_intAt M v1 v4)) &&& 31))) >>> ((if v4 = (v2 - 1) then (-1) else (v_X7_toldOf M (v_X7_intAt M v1 (v4 + 1)))) &&& 31)) &&& 1) = 1 then (-1) else (if v4 = (v2 - 1) then (-1) else (v_X7_toldOf M (v_X7_intAt M v1 (v4 + 1)))))) (if 0 ≤ ((M.1 38) - (M.1 37)) then (M.1 38) - (M.1 37) else 0)))) v1 v4) ∧ (if ((upd (M.2.1 34) v4.toNatClampNeg (v_X7_goes (msa M 33 (upd (M.2.1 33) v4.toNatClampNeg (v_X7_toldOf M (v_X7_intAt M v1 v4)))) (v_X7_toldOf M (v_X7_intAt M v1 v4)) (if v4 = 0 then (-1) else (M.2.1 33) (v4 - 1).toNatClampNeg) (if (if v4 = (v2 - 1) then (-1) else (v_X7_toldOf M (v_X7_intAt M v1 (v4 + 1)))) = (-1) then (if v4 = (v2 - 1) then (-1) else (v_X7_toldOf M (v_X7_intAt M v1 (v4 + 1)))) else (if (((v3 + (1 <<< ((v_X7_toldOf M (v_X7_intAt M v1 v4)) &&& 31))) >>> ((if v4 = (v2 - 1) then (-1) else (v_X7_toldOf M (v_X7_intAt M v1 (v4 + 1)))) &&& 31)) &&& 1) = 1 then (-1) else (if v4 = (v2 - 1) then (-1) else (v_X7_toldOf M (v_X7_intAt M v1 (v4 + 1)))))) (if 0 ≤ ((M.1 38) - (M.1 37)) then (M.1 38) - (M.1 37) else 0))) v4.toNatClampNeg) = ((v_X7_intAt (msa (msa M 33 (upd (M.2.1 33) v4.toNatClampNeg (v_X7_toldOf M (v_X7_intAt M v1 v4)))) 34 (upd (M.2.1 34) v4.toNatClampNeg (v_X7_goes (msa M 33 (upd (M.2.1 33) v4.toNatClampNeg (v_X7_toldOf M (v_X7_intAt M v1 v4)))) (v_X7_toldOf M (v_X7_intAt M v1 v4)) (if v4 = 0 then (-1) else (M.2.1 33) (v4 - 1).toNatClampNeg) (if (if v4 = (v2 - 1) then (-1) else (v_X7_toldOf M (v_X7_intAt M v1 (v4 + 1)))) = (-1) then (if v4 = (v2 - 1) then (-1) else (v_X7_toldOf M (v_X7_intAt M v1 (v4 + 1)))) else (if (((v3 + (1 <<< ((v_X7_toldOf M (v_X7_intAt M v1 v4)) &&& 31))) >>> ((if v4 = (v2 - 1) then (-1) else (v_X7_toldOf M (v_X7_intAt M v1 (v4 + 1)))) &&& 31)) &&& 1) = 1 then (-1) else (if v4 = (v2 - 1) then (-1) else (v_X7_toldOf M (v_X7_intAt M v1 (v4 + 1)))))) (if 0 ≤ ((M.1 38) - (M.1 37)) then (M.1 38) - (M.1 37) else 0)))) v1 v4) - (v_X7_intAt (msa (msa M 33 (upd (M.2.1 33) v4.toNatClampNeg (v_X7_toldOf M (v_X7_intAt M v1 v4)))) 34 (upd (M.2.1 34) v4.toNatClampNeg (v_X7_goes (msa M 33 (upd (M.2.1 33) v4.toNatClampNeg (v_X7_toldOf M (v_X7_intAt M v1 v4)))) (v_X7_toldOf M (v_X7_intAt M v1 v4)) (if v4 = 0 then (-1) else (M.2.1 33) (v4 - 1).toNatClampNeg) (if (if v4 = (v2 - 1) then (-1) else (v_X7_toldOf M (v_X7_intAt M v1 (v4 + 1)))) = (-1) then (if v4 = (v2 - 1) then (-1) else (v_X7_toldOf M (v_X7_intAt M v1 (v4 + 1)))) else (if (((v3 + (1 <<< ((v_X7_toldOf M (v_X7_intAt M v1 v4)) &&& 31))) >>> ((if v4 = (v2 - 1) then (-1) else (v_X7_toldOf M (v_X7_intAt M v1 (v4 + 1)))) &&& 31)) &&& 1) = 1 then (-1) else (if v4 = (v2 - 1) then (-1) else (v_X7_toldOf M (v_X7_intAt M v1 (v4 + 1)))))) (if 0 ≤ ((M.1 38) - (M.1 37)) then (M.1 38) - (M.1 37) else 0)))) v1 v4) / 10 * 10) then vp_in v4 7 ∧ ((if ((upd (M.2.1 34) v4.toNatClampNeg (v_X7_goes (msa M 33 (upd (M.2.1 33) v4.toNatClampNeg (v_X7_toldOf M (v_X7_intAt M v1 v4)))) (v_X7_toldOf M (v_X7_intAt M v1 v4)) (if v4 = 0 then (-1) else (M.2.1 33) (v4 - 1).toNatClampNeg) (if (if v4 = (v2 - 1) then (-1) else (v_X7_toldOf M (v_X7_intAt M v1 (v4 + 1)))) = (-1) then (if v4 = (v2 - 1) then (-1) else (v_X7_toldOf M (v_X7_intAt M v1 (v4 + 1)))) else (if (((v3 + (1 <<< ((v_X7_toldOf M (v_X7_intAt M v1 v4)) &&& 31))) >>> ((if v4 = (v2 - 1) then (-1) else (v_X7_toldOf M (v_X7_intAt M v1 (v4 + 1)))) &&& 31)) &&& 1) = 1 then (-1) else (if v4 = (v2 - 1) then (-1) else (v_X7_toldOf M (v_X7_intAt M v1 (v4 + 1)))))) (if 0 ≤ ((M.1 38) - (M.1 37)) then (M.1 38) - (M.1 37) else 0))) v4.toNatClampNeg) = 0 then True else vp_in v4 7) ∧ (kk (if ((upd (M.2.1 34) v4.toNatClampNeg (v_X7_goes (msa M 33 (upd (M.2.1 33) v4.toNatClampNeg (v_X7_toldOf M (v_X7_intAt M v1 v4)))) (v_X7_toldOf M (v_X7_intAt M v1 v4)) (if v4 = 0 then (-1) else (M.2.1 33) (v4 - 1).toNatClampNeg) (if (if v4 = (v2 - 1) then (-1) else (v_X7_toldOf M (v_X7_intAt M v1 (v4 + 1)))) = (-1) then (if v4 = (v2 - 1) then (-1) else (v_X7_toldOf M (v_X7_intAt M v1 (v4 + 1)))) else (if (((v3 + (1 <<< ((v_X7_toldOf M (v_X7_intAt M v1 v4)) &&& 31))) >>> ((if v4 = (v2 - 1) then (-1) else (v_X7_toldOf M (v_X7_intAt M v1 (v4 + 1)))) &&& 31)) &&& 1) = 1 then (-1) else (if v4 = (v2 - 1) then (-1) else (v_X7_toldOf M (v_X7_intAt M v1 (v4 + 1)))))) (if 0 ≤ ((M.1 38) - (M.1 37)) then (M.1 38) - (M.1 37) else 0))) v4.toNatClampNeg) = 0 then msf (msa (msa M 33 (upd (M.2.1 33) v4.toNatClampNeg (v_X7_toldOf M (v_X7_intAt M v1 v4)))) 34 (upd (M.2.1 34) v4.toNatClampNeg (v_X7_goes (msa M 33 (upd (M.2.1 33) v4.toNatClampNeg (v_X7_toldOf M (v_X7_intAt M v1 v4)))) (v_X7_toldOf M (v_X7_intAt M v1 v4)) (if v4 = 0 then (-1) else (M.2.1 33) (v4 - 1).toNatClampNeg) (if (if v4 = (v2 - 1) then (-1) else (v_X7_toldOf M (v_X7_intAt M v1 (v4 + 1)))) = (-1) then (if v4 = (v2 - 1) then (-1) else (v_X7_toldOf M (v_X7_intAt M v1 (v4 + 1)))) else (if (((v3 + (1 <<< ((v_X7_toldOf M (v_X7_intAt M v1 v4)) &&& 31))) >>> ((if v4 = (v2 - 1) then (-1) else (v_X7_toldOf M (v_X7_intAt M v1 (v4 + 1)))) &&& 31)) &&& 1) = 1 then (-1) else (if v4 = (v2 - 1) then (-1) else (v_X7_toldOf M (v_X7_intAt M v1 (v4 + 1)))))) (if 0 ≤ ((M.1 38) - (M.1 37)) then (M.1 38) - (M.1 37) else 0)))) 37 ((M.1 37) + 1) else M27) (fun M28 : mT => p_X7_wrongIn_r n M28 v1 v2 (v3 + (1 <<< ((v_X7_toldOf M (v_X7_intAt M v1 v4)) &&& 31))) (v4 + 1)))) else True))))))))
set_option maxHeartbeats 4000000 in
theorem w_X7_wrongIn {G : zG} {Γ : zT} {a : Nat → Nat} {A : Nat → Prop} {res : Int32 × mT} {X : zX} (hw : wk X A Γ.2.2.1.1.heap) (hQ : zQ Γ (Qwi G (fun r w => r = res.1 ∧ w = mW G a res.2) A) 0 0 A) : ∀ n : Nat, (∀ (M : mT) (v1 : Int32) (v2 : Int32) (v3 : Int32) (v4 : Int32), p_X7_wrongIn_r n M v1 v2 v3 v4 → v_X7_wrongIn_r n M v1 v2 v3 v4 = res → Z k_X7_wrongIn G Γ (wr G A Γ.2.2.1.1.heap (mW G a M)) 0 0 [(0, .ref (a 0)), (1, .int v1), (2, .int v2), (3, .int v3), (4, .int v4)] 20 []) := by
  intro n
  induction n with
  | zero => exact fun M v1 v2 v3 v4 hp => absurd hp (by rw [p_X7_wrongIn_r]; exact not_false)
  | succ n ih =>
    intro M v1 v2 v3 v4 hp hv
    rw [p_X7_wrongIn_r] at hp
    rw [v_X7_wrongIn_r] at hv
    refine z_iload dX7_wrongIn_20 rfl ?_
    refine z_iload_n dX7_wrongIn_22 rfl ?_
    refine z_icmp_ge (tgt := 265) dX7_wrongIn_23 (by decide) (fun c1 => ?_) (fun c1 => ?_)
    · have hp := ip_t hp c1; have hv := it_t hv c1
      refine z_iconst (v := (-1)) dX7_wrongIn_265 rfl ?_
      subst hv; exact z_iret_W hQ rfl rfl rfl ⟨rfl, rfl⟩ dX7_wrongIn_266
    · have hp := ip_f hp c1; have hv := it_f hv c1
      refine z_aload_n dX7_wrongIn_26 rfl ?_
      refine z_aload_n dX7_wrongIn_27 rfl ?_
      refine z_iload_n dX7_wrongIn_28 rfl ?_
      refine z_iload dX7_wrongIn_29 rfl ?_
      obtain ⟨q2, hp⟩ := hp
      refine z_cvi (c_X7_intAt G a M v1 v4 q2) zc_X7_intAt zv_X7_intAt tw_m_RX7_233 (mrec wr_P) wr_P (zroom_of rfl) rfl (Nat.le_of_ble_eq_true rfl) dX7_wrongIn_31 ?_
      refine z_cvi (c_X7_toldOf G a M (v_X7_intAt M v1 v4) ) zc_X7_toldOf zv_X7_toldOf tw_m_RX7_263 (mrec wr_P) wr_P (zroom_of rfl) rfl (Nat.le_of_ble_eq_true rfl) dX7_wrongIn_34 ?_
      refine z_istore (lv' := [(5, .int (v_X7_toldOf M (v_X7_intAt M v1 v4))), (0, .ref (a 0)), (1, .int v1), (2, .int v2), (3, .int v3), (4, .int v4)]) dX7_wrongIn_37 (Nat.le_of_ble_eq_true rfl) rfl ?_
      refine z_iload dX7_wrongIn_39 rfl ?_
      refine z_iconst (v := (-1)) dX7_wrongIn_41 rfl ?_
      refine z_icmp_eq (tgt := 55) dX7_wrongIn_42 (by decide) (fun c3 => ?_) (fun c3 => ?_)
      · have hp := ip_t hp c3; have hv := it_t hv c3
        refine z_iload dX7_wrongIn_55 rfl ?_
        subst hv; exact z_iret_W hQ rfl rfl rfl ⟨rfl, rfl⟩ dX7_wrongIn_57
      · have hp := ip_f hp c3; have hv := it_f hv c3
        refine z_iload_n dX7_wrongIn_45 rfl ?_
        refine z_iload dX7_wrongIn_46 rfl ?_
        refine z_ishr dX7_wrongIn_48 ?_
        refine z_iconst (v := 1) dX7_wrongIn_49 rfl ?_
        refine z_iand dX7_wrongIn_50 ?_
        refine z_iconst (v := 1) dX7_wrongIn_51 rfl ?_
        refine z_icmp_ne (tgt := 58) dX7_wrongIn_52 (by decide) (fun c4 => ?_) (fun c4 => ?_)
        · have hp := ip_f hp c4; have hv := it_f hv c4
          refine z_iload_n dX7_wrongIn_58 rfl ?_
          refine z_iconst (v := 1) dX7_wrongIn_59 rfl ?_
          refine z_iload dX7_wrongIn_60 rfl ?_
          refine z_ishl dX7_wrongIn_62 ?_
          refine z_iadd dX7_wrongIn_63 ?_
          refine z_istore_n (lv' := [(3, .int (v3 + (1 <<< ((v_X7_toldOf M (v_X7_intAt M v1 v4)) &&& 31)))), (5, .int (v_X7_toldOf M (v_X7_intAt M v1 v4))), (0, .ref (a 0)), (1, .int v1), (2, .int v2), (4, .int v4)]) dX7_wrongIn_64 (Nat.le_of_ble_eq_true rfl) rfl ?_
          refine z_iload dX7_wrongIn_65 rfl ?_
          refine z_iload_n dX7_wrongIn_67 rfl ?_
          refine z_iconst (v := 1) dX7_wrongIn_68 rfl ?_
          refine z_isub dX7_wrongIn_69 ?_
          obtain ⟨hpm, hp⟩ := hp
          have J29 : ∀ m7 : Int32, m7 = (if v4 = (v2 - 1) then (-1) else (v_X7_toldOf M (v_X7_intAt M v1 (v4 + 1)))) → Z k_X7_wrongIn G Γ (wr G A Γ.2.2.1.1.heap (mW G a M)) 0 0 [(3, .int (v3 + (1 <<< ((v_X7_toldOf M (v_X7_intAt M v1 v4)) &&& 31)))), (5, .int (v_X7_toldOf M (v_X7_intAt M v1 v4))), (0, .ref (a 0)), (1, .int v1), (2, .int v2), (4, .int v4)] 90 [.int m7] := by
            intro m7 em7
            subst em7
            refine z_istore (lv' := [(6, .int (if v4 = (v2 - 1) then (-1) else (v_X7_toldOf M (v_X7_intAt M v1 (v4 + 1))))), (3, .int (v3 + (1 <<< ((v_X7_toldOf M (v_X7_intAt M v1 v4)) &&& 31)))), (5, .int (v_X7_toldOf M (v_X7_intAt M v1 v4))), (0, .ref (a 0)), (1, .int v1), (2, .int v2), (4, .int v4)]) dX7_wrongIn_90 (Nat.le_of_ble_eq_true rfl) rfl ?_
            refine z_iload dX7_wrongIn_92 rfl ?_
            obtain ⟨hpm, hp⟩ := hp
            have J30 : ∀ m10 : Int32, m10 = (if v4 = 0 then (-1) else (M.2.1 33) (v4 - 1).toNatClampNeg) → Z k_X7_wrongIn G Γ (wr G A Γ.2.2.1.1.heap (mW G a M)) 0 0 [(6, .int (if v4 = (v2 - 1) then (-1) else (v_X7_toldOf M (v_X7_intAt M v1 (v4 + 1))))), (3, .int (v3 + (1 <<< ((v_X7_toldOf M (v_X7_intAt M v1 v4)) &&& 31)))), (5, .int (v_X7_toldOf M (v_X7_intAt M v1 v4))), (0, .ref (a 0)), (1, .int v1), (2, .int v2), (4, .int v4)] 110 [.int m10] := by
              intro m10 em10
              subst em10
              refine z_istore (lv' := [(7, .int (if v4 = 0 then (-1) else (M.2.1 33) (v4 - 1).toNatClampNeg)), (6, .int (if v4 = (v2 - 1) then (-1) else (v_X7_toldOf M (v_X7_intAt M v1 (v4 + 1))))), (3, .int (v3 + (1 <<< ((v_X7_toldOf M (v_X7_intAt M v1 v4)) &&& 31)))), (5, .int (v_X7_toldOf M (v_X7_intAt M v1 v4))), (0, .ref (a 0)), (1, .int v1), (2, .int v2), (4, .int v4)]) dX7_wrongIn_110 (Nat.le_of_ble_eq_true rfl) rfl ?_
              refine z_aload_n dX7_wrongIn_112 rfl ?_
              refine mg_38 (v := M.1 38) wr_P rfl rfl dX7_wrongIn_113 ?_
              refine z_aload_n dX7_wrongIn_116 rfl ?_
              refine mg_37 (v := M.1 37) wr_P rfl rfl dX7_wrongIn_117 ?_
              refine z_isub dX7_wrongIn_120 ?_
              refine z_istore (lv' := [(8, .int ((M.1 38) - (M.1 37))), (7, .int (if v4 = 0 then (-1) else (M.2.1 33) (v4 - 1).toNatClampNeg)), (6, .int (if v4 = (v2 - 1) then (-1) else (v_X7_toldOf M (v_X7_intAt M v1 (v4 + 1))))), (3, .int (v3 + (1 <<< ((v_X7_toldOf M (v_X7_intAt M v1 v4)) &&& 31)))), (5, .int (v_X7_toldOf M (v_X7_intAt M v1 v4))), (0, .ref (a 0)), (1, .int v1), (2, .int v2), (4, .int v4)]) dX7_wrongIn_121 (Nat.le_of_ble_eq_true rfl) rfl ?_
              refine z_iload dX7_wrongIn_123 rfl ?_
              refine z_iconst (v := (-1)) dX7_wrongIn_125 rfl ?_
              have J31 : ∀ m14 : Int32, m14 = (if (if v4 = (v2 - 1) then (-1) else (v_X7_toldOf M (v_X7_intAt M v1 (v4 + 1)))) = (-1) then (if v4 = (v2 - 1) then (-1) else (v_X7_toldOf M (v_X7_intAt M v1 (v4 + 1)))) else (if (((v3 + (1 <<< ((v_X7_toldOf M (v_X7_intAt M v1 v4)) &&& 31))) >>> ((if v4 = (v2 - 1) then (-1) else (v_X7_toldOf M (v_X7_intAt M v1 (v4 + 1)))) &&& 31)) &&& 1) = 1 then (-1) else (if v4 = (v2 - 1) then (-1) else (v_X7_toldOf M (v_X7_intAt M v1 (v4 + 1)))))) → Z k_X7_wrongIn G Γ (wr G A Γ.2.2.1.1.heap (mW G a M)) 0 0 [(8, .int ((M.1 38) - (M.1 37))), (7, .int (if v4 = 0 then (-1) else (M.2.1 33) (v4 - 1).toNatClampNeg)), (6, .int m14), (3, .int (v3 + (1 <<< ((v_X7_toldOf M (v_X7_intAt M v1 v4)) &&& 31)))), (5, .int (v_X7_toldOf M (v_X7_intAt M v1 v4))), (0, .ref (a 0)), (1, .int v1), (2, .int v2), (4, .int v4)] 142 [] := by
                intro m14 em14
                subst em14
                refine z_aload_n dX7_wrongIn_142 rfl ?_
                refine mg_33 wr_P rfl dX7_wrongIn_143 ?_
                refine z_iload dX7_wrongIn_146 rfl ?_
                refine z_iload dX7_wrongIn_148 rfl ?_
                obtain ⟨q15, hp⟩ := hp
                refine ms_33 (F := upd (M.2.1 33) v4.toNatClampNeg (v_X7_toldOf M (v_X7_intAt M v1 v4))) q15 rfl dX7_wrongIn_150 ?_
                refine z_aload_n dX7_wrongIn_151 rfl ?_
                refine mg_34 wr_P rfl dX7_wrongIn_152 ?_
                refine z_iload dX7_wrongIn_155 rfl ?_
                refine z_aload_n dX7_wrongIn_157 rfl ?_
                refine z_iload dX7_wrongIn_158 rfl ?_
                refine z_iload dX7_wrongIn_160 rfl ?_
                refine z_iload dX7_wrongIn_162 rfl ?_
                refine z_iload dX7_wrongIn_164 rfl ?_
                have J32 : ∀ m17 : Int32, m17 = (if 0 ≤ ((M.1 38) - (M.1 37)) then (M.1 38) - (M.1 37) else 0) → Z k_X7_wrongIn G Γ (wr G A Γ.2.2.1.1.heap (mW G a (msa M 33 (upd (M.2.1 33) v4.toNatClampNeg (v_X7_toldOf M (v_X7_intAt M v1 v4)))))) 0 0 [(8, .int ((M.1 38) - (M.1 37))), (7, .int (if v4 = 0 then (-1) else (M.2.1 33) (v4 - 1).toNatClampNeg)), (6, .int (if (if v4 = (v2 - 1) then (-1) else (v_X7_toldOf M (v_X7_intAt M v1 (v4 + 1)))) = (-1) then (if v4 = (v2 - 1) then (-1) else (v_X7_toldOf M (v_X7_intAt M v1 (v4 + 1)))) else (if (((v3 + (1 <<< ((v_X7_toldOf M (v_X7_intAt M v1 v4)) &&& 31))) >>> ((if v4 = (v2 - 1) then (-1) else (v_X7_toldOf M (v_X7_intAt M v1 (v4 + 1)))) &&& 31)) &&& 1) = 1 then (-1) else (if v4 = (v2 - 1) then (-1) else (v_X7_toldOf M (v_X7_intAt M v1 (v4 + 1))))))), (3, .int (v3 + (1 <<< ((v_X7_toldOf M (v_X7_intAt M v1 v4)) &&& 31)))), (5, .int (v_X7_toldOf M (v_X7_intAt M v1 v4))), (0, .ref (a 0)), (1, .int v1), (2, .int v2), (4, .int v4)] 175 [.int m17, .int (if (if v4 = (v2 - 1) then (-1) else (v_X7_toldOf M (v_X7_intAt M v1 (v4 + 1)))) = (-1) then (if v4 = (v2 - 1) then (-1) else (v_X7_toldOf M (v_X7_intAt M v1 (v4 + 1)))) else (if (((v3 + (1 <<< ((v_X7_toldOf M (v_X7_intAt M v1 v4)) &&& 31))) >>> ((if v4 = (v2 - 1) then (-1) else (v_X7_toldOf M (v_X7_intAt M v1 (v4 + 1)))) &&& 31)) &&& 1) = 1 then (-1) else (if v4 = (v2 - 1) then (-1) else (v_X7_toldOf M (v_X7_intAt M v1 (v4 + 1)))))), .int (if v4 = 0 then (-1) else (M.2.1 33) (v4 - 1).toNatClampNeg), .int (v_X7_toldOf M (v_X7_intAt M v1 v4)), .ref (a 0), .int v4, .ref (a 34)] := by
                  intro m17 em17
                  subst em17
                  obtain ⟨q18, hp⟩ := hp
                  refine z_cvi (c_X7_goes G a (msa M 33 (upd (M.2.1 33) v4.toNatClampNeg (v_X7_toldOf M (v_X7_intAt M v1 v4)))) (v_X7_toldOf M (v_X7_intAt M v1 v4)) (if v4 = 0 then (-1) else (M.2.1 33) (v4 - 1).toNatClampNeg) (if (if v4 = (v2 - 1) then (-1) else (v_X7_toldOf M (v_X7_intAt M v1 (v4 + 1)))) = (-1) then (if v4 = (v2 - 1) then (-1) else (v_X7_toldOf M (v_X7_intAt M v1 (v4 + 1)))) else (if (((v3 + (1 <<< ((v_X7_toldOf M (v_X7_intAt M v1 v4)) &&& 31))) >>> ((if v4 = (v2 - 1) then (-1) else (v_X7_toldOf M (v_X7_intAt M v1 (v4 + 1)))) &&& 31)) &&& 1) = 1 then (-1) else (if v4 = (v2 - 1) then (-1) else (v_X7_toldOf M (v_X7_intAt M v1 (v4 + 1)))))) (if 0 ≤ ((M.1 38) - (M.1 37)) then (M.1 38) - (M.1 37) else 0) q18) zc_X7_goes zv_X7_goes tw_m_RX7_229 (mrec wr_P) wr_P (zroom_of rfl) rfl (Nat.le_of_ble_eq_true rfl) dX7_wrongIn_175 ?_
                  obtain ⟨q19, hp⟩ := hp
                  refine ms_34 (F := upd (M.2.1 34) v4.toNatClampNeg (v_X7_goes (msa M 33 (upd (M.2.1 33) v4.toNatClampNeg (v_X7_toldOf M (v_X7_intAt M v1 v4)))) (v_X7_toldOf M (v_X7_intAt M v1 v4)) (if v4 = 0 then (-1) else (M.2.1 33) (v4 - 1).toNatClampNeg) (if (if v4 = (v2 - 1) then (-1) else (v_X7_toldOf M (v_X7_intAt M v1 (v4 + 1)))) = (-1) then (if v4 = (v2 - 1) then (-1) else (v_X7_toldOf M (v_X7_intAt M v1 (v4 + 1)))) else (if (((v3 + (1 <<< ((v_X7_toldOf M (v_X7_intAt M v1 v4)) &&& 31))) >>> ((if v4 = (v2 - 1) then (-1) else (v_X7_toldOf M (v_X7_intAt M v1 (v4 + 1)))) &&& 31)) &&& 1) = 1 then (-1) else (if v4 = (v2 - 1) then (-1) else (v_X7_toldOf M (v_X7_intAt M v1 (v4 + 1)))))) (if 0 ≤ ((M.1 38) - (M.1 37)) then (M.1 38) - (M.1 37) else 0))) q19 rfl dX7_wrongIn_178 ?_
                  refine z_aload_n dX7_wrongIn_179 rfl ?_
                  refine mg_34 wr_P rfl dX7_wrongIn_180 ?_
                  refine z_iload dX7_wrongIn_183 rfl ?_
                  obtain ⟨q20, hp⟩ := hp
                  refine ml_34 (x := (upd (M.2.1 34) v4.toNatClampNeg (v_X7_goes (msa M 33 (upd (M.2.1 33) v4.toNatClampNeg (v_X7_toldOf M (v_X7_intAt M v1 v4)))) (v_X7_toldOf M (v_X7_intAt M v1 v4)) (if v4 = 0 then (-1) else (M.2.1 33) (v4 - 1).toNatClampNeg) (if (if v4 = (v2 - 1) then (-1) else (v_X7_toldOf M (v_X7_intAt M v1 (v4 + 1)))) = (-1) then (if v4 = (v2 - 1) then (-1) else (v_X7_toldOf M (v_X7_intAt M v1 (v4 + 1)))) else (if (((v3 + (1 <<< ((v_X7_toldOf M (v_X7_intAt M v1 v4)) &&& 31))) >>> ((if v4 = (v2 - 1) then (-1) else (v_X7_toldOf M (v_X7_intAt M v1 (v4 + 1)))) &&& 31)) &&& 1) = 1 then (-1) else (if v4 = (v2 - 1) then (-1) else (v_X7_toldOf M (v_X7_intAt M v1 (v4 + 1)))))) (if 0 ≤ ((M.1 38) - (M.1 37)) then (M.1 38) - (M.1 37) else 0))) v4.toNatClampNeg) wr_P q20 rfl dX7_wrongIn_185 ?_
                  refine z_aload_n dX7_wrongIn_186 rfl ?_
                  refine z_iload_n dX7_wrongIn_187 rfl ?_
                  refine z_iload dX7_wrongIn_188 rfl ?_
                  obtain ⟨q21, hp⟩ := hp
                  refine z_cvi (c_X7_intAt G a (msa (msa M 33 (upd (M.2.1 33) v4.toNatClampNeg (v_X7_toldOf M (v_X7_intAt M v1 v4)))) 34 (upd (M.2.1 34) v4.toNatClampNeg (v_X7_goes (msa M 33 (upd (M.2.1 33) v4.toNatClampNeg (v_X7_toldOf M (v_X7_intAt M v1 v4)))) (v_X7_toldOf M (v_X7_intAt M v1 v4)) (if v4 = 0 then (-1) else (M.2.1 33) (v4 - 1).toNatClampNeg) (if (if v4 = (v2 - 1) then (-1) else (v_X7_toldOf M (v_X7_intAt M v1 (v4 + 1)))) = (-1) then (if v4 = (v2 - 1) then (-1) else (v_X7_toldOf M (v_X7_intAt M v1 (v4 + 1)))) else (if (((v3 + (1 <<< ((v_X7_toldOf M (v_X7_intAt M v1 v4)) &&& 31))) >>> ((if v4 = (v2 - 1) then (-1) else (v_X7_toldOf M (v_X7_intAt M v1 (v4 + 1)))) &&& 31)) &&& 1) = 1 then (-1) else (if v4 = (v2 - 1) then (-1) else (v_X7_toldOf M (v_X7_intAt M v1 (v4 + 1)))))) (if 0 ≤ ((M.1 38) - (M.1 37)) then (M.1 38) - (M.1 37) else 0)))) v1 v4 q21) zc_X7_intAt zv_X7_intAt tw_m_RX7_233 (mrec wr_P) wr_P (zroom_of rfl) rfl (Nat.le_of_ble_eq_true rfl) dX7_wrongIn_190 ?_
                  refine z_bipush (v := 10) dX7_wrongIn_193 rfl ?_
                  refine z_irem dX7_wrongIn_195 (by decide) ?_
                  refine z_icmp_eq (tgt := 202) dX7_wrongIn_196 (by decide) (fun c22 => ?_) (fun c22 => ?_)
                  · have hp := ip_t hp c22; have hv := it_t hv c22
                    refine z_aload_n dX7_wrongIn_202 rfl ?_
                    refine mg_34 wr_P rfl dX7_wrongIn_203 ?_
                    refine z_iload dX7_wrongIn_206 rfl ?_
                    obtain ⟨q23, hp⟩ := hp
                    refine ml_34 (x := (upd (M.2.1 34) v4.toNatClampNeg (v_X7_goes (msa M 33 (upd (M.2.1 33) v4.toNatClampNeg (v_X7_toldOf M (v_X7_intAt M v1 v4)))) (v_X7_toldOf M (v_X7_intAt M v1 v4)) (if v4 = 0 then (-1) else (M.2.1 33) (v4 - 1).toNatClampNeg) (if (if v4 = (v2 - 1) then (-1) else (v_X7_toldOf M (v_X7_intAt M v1 (v4 + 1)))) = (-1) then (if v4 = (v2 - 1) then (-1) else (v_X7_toldOf M (v_X7_intAt M v1 (v4 + 1)))) else (if (((v3 + (1 <<< ((v_X7_toldOf M (v_X7_intAt M v1 v4)) &&& 31))) >>> ((if v4 = (v2 - 1) then (-1) else (v_X7_toldOf M (v_X7_intAt M v1 (v4 + 1)))) &&& 31)) &&& 1) = 1 then (-1) else (if v4 = (v2 - 1) then (-1) else (v_X7_toldOf M (v_X7_intAt M v1 (v4 + 1)))))) (if 0 ≤ ((M.1 38) - (M.1 37)) then (M.1 38) - (M.1 37) else 0))) v4.toNatClampNeg) wr_P q23 rfl dX7_wrongIn_208 ?_
                    obtain ⟨hpm, hp⟩ := hp
                    have J33 : ∀ M28 : mT, M28 = (if ((upd (M.2.1 34) v4.toNatClampNeg (v_X7_goes (msa M 33 (upd (M.2.1 33) v4.toNatClampNeg (v_X7_toldOf M (v_X7_intAt M v1 v4)))) (v_X7_toldOf M (v_X7_intAt M v1 v4)) (if v4 = 0 then (-1) else (M.2.1 33) (v4 - 1).toNatClampNeg) (if (if v4 = (v2 - 1) then (-1) else (v_X7_toldOf M (v_X7_intAt M v1 (v4 + 1)))) = (-1) then (if v4 = (v2 - 1) then (-1) else (v_X7_toldOf M (v_X7_intAt M v1 (v4 + 1)))) else (if (((v3 + (1 <<< ((v_X7_toldOf M (v_X7_intAt M v1 v4)) &&& 31))) >>> ((if v4 = (v2 - 1) then (-1) else (v_X7_toldOf M (v_X7_intAt M v1 (v4 + 1)))) &&& 31)) &&& 1) = 1 then (-1) else (if v4 = (v2 - 1) then (-1) else (v_X7_toldOf M (v_X7_intAt M v1 (v4 + 1)))))) (if 0 ≤ ((M.1 38) - (M.1 37)) then (M.1 38) - (M.1 37) else 0))) v4.toNatClampNeg) = 0 then msf (msa (msa M 33 (upd (M.2.1 33) v4.toNatClampNeg (v_X7_toldOf M (v_X7_intAt M v1 v4)))) 34 (upd (M.2.1 34) v4.toNatClampNeg (v_X7_goes (msa M 33 (upd (M.2.1 33) v4.toNatClampNeg (v_X7_toldOf M (v_X7_intAt M v1 v4)))) (v_X7_toldOf M (v_X7_intAt M v1 v4)) (if v4 = 0 then (-1) else (M.2.1 33) (v4 - 1).toNatClampNeg) (if (if v4 = (v2 - 1) then (-1) else (v_X7_toldOf M (v_X7_intAt M v1 (v4 + 1)))) = (-1) then (if v4 = (v2 - 1) then (-1) else (v_X7_toldOf M (v_X7_intAt M v1 (v4 + 1)))) else (if (((v3 + (1 <<< ((v_X7_toldOf M (v_X7_intAt M v1 v4)) &&& 31))) >>> ((if v4 = (v2 - 1) then (-1) else (v_X7_toldOf M (v_X7_intAt M v1 (v4 + 1)))) &&& 31)) &&& 1) = 1 then (-1) else (if v4 = (v2 - 1) then (-1) else (v_X7_toldOf M (v_X7_intAt M v1 (v4 + 1)))))) (if 0 ≤ ((M.1 38) - (M.1 37)) then (M.1 38) - (M.1 37) else 0)))) 37 ((M.1 37) + 1) else M27) → Z k_X7_wrongIn G Γ (wr G A Γ.2.2.1.1.heap (mW G a M28)) 0 0 [(8, .int ((M.1 38) - (M.1 37))), (7, .int (if v4 = 0 then (-1) else (M.2.1 33) (v4 - 1).toNatClampNeg)), (6, .int (if (if v4 = (v2 - 1) then (-1) else (v_X7_toldOf M (v_X7_intAt M v1 (v4 + 1)))) = (-1) then (if v4 = (v2 - 1) then (-1) else (v_X7_toldOf M (v_X7_intAt M v1 (v4 + 1)))) else (if (((v3 + (1 <<< ((v_X7_toldOf M (v_X7_intAt M v1 v4)) &&& 31))) >>> ((if v4 = (v2 - 1) then (-1) else (v_X7_toldOf M (v_X7_intAt M v1 (v4 + 1)))) &&& 31)) &&& 1) = 1 then (-1) else (if v4 = (v2 - 1) then (-1) else (v_X7_toldOf M (v_X7_intAt M v1 (v4 + 1))))))), (3, .int (v3 + (1 <<< ((v_X7_toldOf M (v_X7_intAt M v1 v4)) &&& 31)))), (5, .int (v_X7_toldOf M (v_X7_intAt M v1 v4))), (0, .ref (a 0)), (1, .int v1), (2, .int v2), (4, .int v4)] 259 [] := by
                      intro M28 eM28
                      have hp := kk_pq hp eM28
                      have hv := kk_vq hv eM28
                      clear eM28
                      refine z_iinc (v := v4 + 1) (lv' := [(4, .int (v4 + 1)), (8, .int ((M.1 38) - (M.1 37))), (7, .int (if v4 = 0 then (-1) else (M.2.1 33) (v4 - 1).toNatClampNeg)), (6, .int (if (if v4 = (v2 - 1) then (-1) else (v_X7_toldOf M (v_X7_intAt M v1 (v4 + 1)))) = (-1) then (if v4 = (v2 - 1) then (-1) else (v_X7_toldOf M (v_X7_intAt M v1 (v4 + 1)))) else (if (((v3 + (1 <<< ((v_X7_toldOf M (v_X7_intAt M v1 v4)) &&& 31))) >>> ((if v4 = (v2 - 1) then (-1) else (v_X7_toldOf M (v_X7_intAt M v1 (v4 + 1)))) &&& 31)) &&& 1) = 1 then (-1) else (if v4 = (v2 - 1) then (-1) else (v_X7_toldOf M (v_X7_intAt M v1 (v4 + 1))))))), (3, .int (v3 + (1 <<< ((v_X7_toldOf M (v_X7_intAt M v1 v4)) &&& 31)))), (5, .int (v_X7_toldOf M (v_X7_intAt M v1 v4))), (0, .ref (a 0)), (1, .int v1), (2, .int v2)]) dX7_wrongIn_259 8 rfl rfl (Nat.le_of_ble_eq_true rfl) rfl ?_
                      refine z_goto (tgt := 20) dX7_wrongIn_262 (by decide) ?_
                      exact z_lv rfl ((ih) M28 v1 v2 (v3 + (1 <<< ((v_X7_toldOf M (v_X7_intAt M v1 v4)) &&& 31))) (v4 + 1) hp hv)
                    refine z_if_ne (tgt := 225) dX7_wrongIn_209 (by decide) (fun c24 => ?_) (fun c24 => ?_)
                    · have hp := ip_f hpm c24
                      refine z_aload_n dX7_wrongIn_225 rfl ?_
                      refine mg_34 wr_P rfl dX7_wrongIn_226 ?_
                      refine z_iload dX7_wrongIn_229 rfl ?_
                      have q25 := hp
                      refine ml_34 (x := (upd (M.2.1 34) v4.toNatClampNeg (v_X7_goes (msa M 33 (upd (M.2.1 33) v4.toNatClampNeg (v_X7_toldOf M (v_X7_intAt M v1 v4)))) (v_X7_toldOf M (v_X7_intAt M v1 v4)) (if v4 = 0 then (-1) else (M.2.1 33) (v4 - 1).toNatClampNeg) (if (if v4 = (v2 - 1) then (-1) else (v_X7_toldOf M (v_X7_intAt M v1 (v4 + 1)))) = (-1) then (if v4 = (v2 - 1) then (-1) else (v_X7_toldOf M (v_X7_intAt M v1 (v4 + 1)))) else (if (((v3 + (1 <<< ((v_X7_toldOf M (v_X7_intAt M v1 v4)) &&& 31))) >>> ((if v4 = (v2 - 1) then (-1) else (v_X7_toldOf M (v_X7_intAt M v1 (v4 + 1)))) &&& 31)) &&& 1) = 1 then (-1) else (if v4 = (v2 - 1) then (-1) else (v_X7_toldOf M (v_X7_intAt M v1 (v4 + 1)))))) (if 0 ≤ ((M.1 38) - (M.1 37)) then (M.1 38) - (M.1 37) else 0))) v4.toNatClampNeg) wr_P q25 rfl dX7_wrongIn_231 ?_
                      refine z_iconst (v := 1) dX7_wrongIn_232 rfl ?_
                      have J34 : ∀ M27 : mT, M27 = (if ((upd (M.2.1 34) v4.toNatClampNeg (v_X7_goes (msa M 33 (upd (M.2.1 33) v4.toNatClampNeg (v_X7_toldOf M (v_X7_intAt M v1 v4)))) (v_X7_toldOf M (v_X7_intAt M v1 v4)) (if v4 = 0 then (-1) else (M.2.1 33) (v4 - 1).toNatClampNeg) (if (if v4 = (v2 - 1) then (-1) else (v_X7_toldOf M (v_X7_intAt M v1 (v4 + 1)))) = (-1) then (if v4 = (v2 - 1) then (-1) else (v_X7_toldOf M (v_X7_intAt M v1 (v4 + 1)))) else (if (((v3 + (1 <<< ((v_X7_toldOf M (v_X7_intAt M v1 v4)) &&& 31))) >>> ((if v4 = (v2 - 1) then (-1) else (v_X7_toldOf M (v_X7_intAt M v1 (v4 + 1)))) &&& 31)) &&& 1) = 1 then (-1) else (if v4 = (v2 - 1) then (-1) else (v_X7_toldOf M (v_X7_intAt M v1 (v4 + 1)))))) (if 0 ≤ ((M.1 38) - (M.1 37)) then (M.1 38) - (M.1 37) else 0))) v4.toNatClampNeg) = 1 then msf (msa (msa M 33 (upd (M.2.1 33) v4.toNatClampNeg (v_X7_toldOf M (v_X7_intAt M v1 v4)))) 34 (upd (M.2.1 34) v4.toNatClampNeg (v_X7_goes (msa M 33 (upd (M.2.1 33) v4.toNatClampNeg (v_X7_toldOf M (v_X7_intAt M v1 v4)))) (v_X7_toldOf M (v_X7_intAt M v1 v4)) (if v4 = 0 then (-1) else (M.2.1 33) (v4 - 1).toNatClampNeg) (if (if v4 = (v2 - 1) then (-1) else (v_X7_toldOf M (v_X7_intAt M v1 (v4 + 1)))) = (-1) then (if v4 = (v2 - 1) then (-1) else (v_X7_toldOf M (v_X7_intAt M v1 (v4 + 1)))) else (if (((v3 + (1 <<< ((v_X7_toldOf M (v_X7_intAt M v1 v4)) &&& 31))) >>> ((if v4 = (v2 - 1) then (-1) else (v_X7_toldOf M (v_X7_intAt M v1 (v4 + 1)))) &&& 31)) &&& 1) = 1 then (-1) else (if v4 = (v2 - 1) then (-1) else (v_X7_toldOf M (v_X7_intAt M v1 (v4 + 1)))))) (if 0 ≤ ((M.1 38) - (M.1 37)) then (M.1 38) - (M.1 37) else 0)))) 38 ((M.1 38) + 1) else msf (msa (msa M 33 (upd (M.2.1 33) v4.toNatClampNeg (v_X7_toldOf M (v_X7_intAt M v1 v4)))) 34 (upd (M.2.1 34) v4.toNatClampNeg (v_X7_goes (msa M 33 (upd (M.2.1 33) v4.toNatClampNeg (v_X7_toldOf M (v_X7_intAt M v1 v4)))) (v_X7_toldOf M (v_X7_intAt M v1 v4)) (if v4 = 0 then (-1) else (M.2.1 33) (v4 - 1).toNatClampNeg) (if (if v4 = (v2 - 1) then (-1) else (v_X7_toldOf M (v_X7_intAt M v1 (v4 + 1)))) = (-1) then (if v4 = (v2 - 1) then (-1) else (v_X7_toldOf M (v_X7_intAt M v1 (v4 + 1)))) else (if (((v3 + (1 <<< ((v_X7_toldOf M (v_X7_intAt M v1 v4)) &&& 31))) >>> ((if v4 = (v2 - 1) then (-1) else (v_X7_toldOf M (v_X7_intAt M v1 (v4 + 1)))) &&& 31)) &&& 1) = 1 then (-1) else (if v4 = (v2 - 1) then (-1) else (v_X7_toldOf M (v_X7_intAt M v1 (v4 + 1)))))) (if 0 ≤ ((M.1 38) - (M.1 37)) then (M.1 38) - (M.1 37) else 0)))) 39 ((M.1 39) + 1)) → Z k_X7_wrongIn G Γ (wr G A Γ.2.2.1.1.heap (mW G a M27)) 0 0 [(8, .int ((M.1 38) - (M.1 37))), (7, .int (if v4 = 0 then (-1) else (M.2.1 33) (v4 - 1).toNatClampNeg)), (6, .int (if (if v4 = (v2 - 1) then (-1) else (v_X7_toldOf M (v_X7_intAt M v1 (v4 + 1)))) = (-1) then (if v4 = (v2 - 1) then (-1) else (v_X7_toldOf M (v_X7_intAt M v1 (v4 + 1)))) else (if (((v3 + (1 <<< ((v_X7_toldOf M (v_X7_intAt M v1 v4)) &&& 31))) >>> ((if v4 = (v2 - 1) then (-1) else (v_X7_toldOf M (v_X7_intAt M v1 (v4 + 1)))) &&& 31)) &&& 1) = 1 then (-1) else (if v4 = (v2 - 1) then (-1) else (v_X7_toldOf M (v_X7_intAt M v1 (v4 + 1))))))), (3, .int (v3 + (1 <<< ((v_X7_toldOf M (v_X7_intAt M v1 v4)) &&& 31)))), (5, .int (v_X7_toldOf M (v_X7_intAt M v1 v4))), (0, .ref (a 0)), (1, .int v1), (2, .int v2), (4, .int v4)] 259 [] := by
                        intro M27 eM27
                        have hv := kk_vq hv eM27
                        clear eM27
                        exact z_lv rfl (J33 M27 (if_neg c24).symm)
                      refine z_icmp_ne (tgt := 249) dX7_wrongIn_233 (by decide) (fun c26 => ?_) (fun c26 => ?_)
                      · skip
                        refine z_aload_n dX7_wrongIn_249 rfl ?_
                        refine z_dup dX7_wrongIn_250 rfl ?_
                        refine mg_39 (v := M.1 39) wr_P rfl rfl dX7_wrongIn_251 ?_
                        refine z_iconst (v := 1) dX7_wrongIn_254 rfl ?_
                        refine z_iadd dX7_wrongIn_255 ?_
                        refine mp_39 (v := (M.1 39) + 1) rfl dX7_wrongIn_256 ?_
                        exact z_lv rfl (J34 (msf (msa (msa M 33 (upd (M.2.1 33) v4.toNatClampNeg (v_X7_toldOf M (v_X7_intAt M v1 v4)))) 34 (upd (M.2.1 34) v4.toNatClampNeg (v_X7_goes (msa M 33 (upd (M.2.1 33) v4.toNatClampNeg (v_X7_toldOf M (v_X7_intAt M v1 v4)))) (v_X7_toldOf M (v_X7_intAt M v1 v4)) (if v4 = 0 then (-1) else (M.2.1 33) (v4 - 1).toNatClampNeg) (if (if v4 = (v2 - 1) then (-1) else (v_X7_toldOf M (v_X7_intAt M v1 (v4 + 1)))) = (-1) then (if v4 = (v2 - 1) then (-1) else (v_X7_toldOf M (v_X7_intAt M v1 (v4 + 1)))) else (if (((v3 + (1 <<< ((v_X7_toldOf M (v_X7_intAt M v1 v4)) &&& 31))) >>> ((if v4 = (v2 - 1) then (-1) else (v_X7_toldOf M (v_X7_intAt M v1 (v4 + 1)))) &&& 31)) &&& 1) = 1 then (-1) else (if v4 = (v2 - 1) then (-1) else (v_X7_toldOf M (v_X7_intAt M v1 (v4 + 1)))))) (if 0 ≤ ((M.1 38) - (M.1 37)) then (M.1 38) - (M.1 37) else 0)))) 39 ((M.1 39) + 1)) (if_neg c26).symm)
                      · skip
                        refine z_aload_n dX7_wrongIn_236 rfl ?_
                        refine z_dup dX7_wrongIn_237 rfl ?_
                        refine mg_38 (v := M.1 38) wr_P rfl rfl dX7_wrongIn_238 ?_
                        refine z_iconst (v := 1) dX7_wrongIn_241 rfl ?_
                        refine z_iadd dX7_wrongIn_242 ?_
                        refine mp_38 (v := (M.1 38) + 1) rfl dX7_wrongIn_243 ?_
                        refine z_goto (tgt := 259) dX7_wrongIn_246 (by decide) ?_
                        exact z_lv rfl (J34 (msf (msa (msa M 33 (upd (M.2.1 33) v4.toNatClampNeg (v_X7_toldOf M (v_X7_intAt M v1 v4)))) 34 (upd (M.2.1 34) v4.toNatClampNeg (v_X7_goes (msa M 33 (upd (M.2.1 33) v4.toNatClampNeg (v_X7_toldOf M (v_X7_intAt M v1 v4)))) (v_X7_toldOf M (v_X7_intAt M v1 v4)) (if v4 = 0 then (-1) else (M.2.1 33) (v4 - 1).toNatClampNeg) (if (if v4 = (v2 - 1) then (-1) else (v_X7_toldOf M (v_X7_intAt M v1 (v4 + 1)))) = (-1) then (if v4 = (v2 - 1) then (-1) else (v_X7_toldOf M (v_X7_intAt M v1 (v4 + 1)))) else (if (((v3 + (1 <<< ((v_X7_toldOf M (v_X7_intAt M v1 v4)) &&& 31))) >>> ((if v4 = (v2 - 1) then (-1) else (v_X7_toldOf M (v_X7_intAt M v1 (v4 + 1)))) &&& 31)) &&& 1) = 1 then (-1) else (if v4 = (v2 - 1) then (-1) else (v_X7_toldOf M (v_X7_intAt M v1 (v4 + 1)))))) (if 0 ≤ ((M.1 38) - (M.1 37)) then (M.1 38) - (M.1 37) else 0)))) 38 ((M.1 38) + 1)) (if_pos c26).symm)
                    · have hp := ip_t hpm c24
                      refine z_aload_n dX7_wrongIn_212 rfl ?_
                      refine z_dup dX7_wrongIn_213 rfl ?_
                      refine mg_37 (v := M.1 37) wr_P rfl rfl dX7_wrongIn_214 ?_
                      refine z_iconst (v := 1) dX7_wrongIn_217 rfl ?_
                      refine z_iadd dX7_wrongIn_218 ?_
                      refine mp_37 (v := (M.1 37) + 1) rfl dX7_wrongIn_219 ?_
                      refine z_goto (tgt := 259) dX7_wrongIn_222 (by decide) ?_
                      exact z_lv rfl (J33 (msf (msa (msa M 33 (upd (M.2.1 33) v4.toNatClampNeg (v_X7_toldOf M (v_X7_intAt M v1 v4)))) 34 (upd (M.2.1 34) v4.toNatClampNeg (v_X7_goes (msa M 33 (upd (M.2.1 33) v4.toNatClampNeg (v_X7_toldOf M (v_X7_intAt M v1 v4)))) (v_X7_toldOf M (v_X7_intAt M v1 v4)) (if v4 = 0 then (-1) else (M.2.1 33) (v4 - 1).toNatClampNeg) (if (if v4 = (v2 - 1) then (-1) else (v_X7_toldOf M (v_X7_intAt M v1 (v4 + 1)))) = (-1) then (if v4 = (v2 - 1) then (-1) else (v_X7_toldOf M (v_X7_intAt M v1 (v4 + 1)))) else (if (((v3 + (1 <<< ((v_X7_toldOf M (v_X7_intAt M v1 v4)) &&& 31))) >>> ((if v4 = (v2 - 1) then (-1) else (v_X7_toldOf M (v_X7_intAt M v1 (v4 + 1)))) &&& 31)) &&& 1) = 1 then (-1) else (if v4 = (v2 - 1) then (-1) else (v_X7_toldOf M (v_X7_intAt M v1 (v4 + 1)))))) (if 0 ≤ ((M.1 38) - (M.1 37)) then (M.1 38) - (M.1 37) else 0)))) 37 ((M.1 37) + 1)) (if_pos c24).symm)
                  · have hp := ip_f hp c22; have hv := it_f hv c22
                    refine z_iload dX7_wrongIn_199 rfl ?_
                    subst hv; exact z_iret_W hQ rfl rfl rfl ⟨rfl, rfl⟩ dX7_wrongIn_201
                refine z_if_ge (tgt := 173) dX7_wrongIn_166 (by decide) (fun c16 => ?_) (fun c16 => ?_)
                · skip
                  refine z_iload dX7_wrongIn_173 rfl ?_
                  exact z_lv rfl (J32 ((M.1 38) - (M.1 37)) (if_pos c16).symm)
                · skip
                  refine z_iconst (v := 0) dX7_wrongIn_169 rfl ?_
                  refine z_goto (tgt := 175) dX7_wrongIn_170 (by decide) ?_
                  exact z_lv rfl (J32 0 (if_neg c16).symm)
              refine z_icmp_eq (tgt := 142) dX7_wrongIn_126 (by decide) (fun c11 => ?_) (fun c11 => ?_)
              · skip
                exact z_lv rfl (J31 (if v4 = (v2 - 1) then (-1) else (v_X7_toldOf M (v_X7_intAt M v1 (v4 + 1)))) (if_pos c11).symm)
              · skip
                refine z_iload_n dX7_wrongIn_129 rfl ?_
                refine z_iload dX7_wrongIn_130 rfl ?_
                refine z_ishr dX7_wrongIn_132 ?_
                refine z_iconst (v := 1) dX7_wrongIn_133 rfl ?_
                refine z_iand dX7_wrongIn_134 ?_
                refine z_iconst (v := 1) dX7_wrongIn_135 rfl ?_
                have J35 : ∀ m13 : Int32, m13 = (if (((v3 + (1 <<< ((v_X7_toldOf M (v_X7_intAt M v1 v4)) &&& 31))) >>> ((if v4 = (v2 - 1) then (-1) else (v_X7_toldOf M (v_X7_intAt M v1 (v4 + 1)))) &&& 31)) &&& 1) = 1 then (-1) else (if v4 = (v2 - 1) then (-1) else (v_X7_toldOf M (v_X7_intAt M v1 (v4 + 1))))) → Z k_X7_wrongIn G Γ (wr G A Γ.2.2.1.1.heap (mW G a M)) 0 0 [(6, .int m13), (8, .int ((M.1 38) - (M.1 37))), (7, .int (if v4 = 0 then (-1) else (M.2.1 33) (v4 - 1).toNatClampNeg)), (3, .int (v3 + (1 <<< ((v_X7_toldOf M (v_X7_intAt M v1 v4)) &&& 31)))), (5, .int (v_X7_toldOf M (v_X7_intAt M v1 v4))), (0, .ref (a 0)), (1, .int v1), (2, .int v2), (4, .int v4)] 142 [] := by
                  intro m13 em13
                  subst em13
                  exact z_lv rfl (J31 (if (((v3 + (1 <<< ((v_X7_toldOf M (v_X7_intAt M v1 v4)) &&& 31))) >>> ((if v4 = (v2 - 1) then (-1) else (v_X7_toldOf M (v_X7_intAt M v1 (v4 + 1)))) &&& 31)) &&& 1) = 1 then (-1) else (if v4 = (v2 - 1) then (-1) else (v_X7_toldOf M (v_X7_intAt M v1 (v4 + 1))))) (if_neg c11).symm)
                refine z_icmp_ne (tgt := 142) dX7_wrongIn_136 (by decide) (fun c12 => ?_) (fun c12 => ?_)
                · skip
                  exact z_lv rfl (J35 (if v4 = (v2 - 1) then (-1) else (v_X7_toldOf M (v_X7_intAt M v1 (v4 + 1)))) (if_neg c12).symm)
                · skip
                  refine z_iconst (v := (-1)) dX7_wrongIn_139 rfl ?_
                  refine z_istore (lv' := [(6, .int (-1)), (8, .int ((M.1 38) - (M.1 37))), (7, .int (if v4 = 0 then (-1) else (M.2.1 33) (v4 - 1).toNatClampNeg)), (3, .int (v3 + (1 <<< ((v_X7_toldOf M (v_X7_intAt M v1 v4)) &&& 31)))), (5, .int (v_X7_toldOf M (v_X7_intAt M v1 v4))), (0, .ref (a 0)), (1, .int v1), (2, .int v2), (4, .int v4)]) dX7_wrongIn_140 (Nat.le_of_ble_eq_true rfl) rfl ?_
                  exact z_lv rfl (J35 (-1) (if_pos c12).symm)
            refine z_if_ne (tgt := 101) dX7_wrongIn_94 (by decide) (fun c8 => ?_) (fun c8 => ?_)
            · have hp := ip_f hpm c8
              refine z_aload_n dX7_wrongIn_101 rfl ?_
              refine mg_33 wr_P rfl dX7_wrongIn_102 ?_
              refine z_iload dX7_wrongIn_105 rfl ?_
              refine z_iconst (v := 1) dX7_wrongIn_107 rfl ?_
              refine z_isub dX7_wrongIn_108 ?_
              have q9 := hp
              refine ml_33 (x := (M.2.1 33) (v4 - 1).toNatClampNeg) wr_P q9 rfl dX7_wrongIn_109 ?_
              exact z_lv rfl (J30 ((M.2.1 33) (v4 - 1).toNatClampNeg) (if_neg c8).symm)
            · have hp := ip_t hpm c8
              refine z_iconst (v := (-1)) dX7_wrongIn_97 rfl ?_
              refine z_goto (tgt := 110) dX7_wrongIn_98 (by decide) ?_
              exact z_lv rfl (J30 (-1) (if_pos c8).symm)
          refine z_icmp_ne (tgt := 77) dX7_wrongIn_70 (by decide) (fun c5 => ?_) (fun c5 => ?_)
          · have hp := ip_f hpm c5
            refine z_aload_n dX7_wrongIn_77 rfl ?_
            refine z_aload_n dX7_wrongIn_78 rfl ?_
            refine z_iload_n dX7_wrongIn_79 rfl ?_
            refine z_iload dX7_wrongIn_80 rfl ?_
            refine z_iconst (v := 1) dX7_wrongIn_82 rfl ?_
            refine z_iadd dX7_wrongIn_83 ?_
            have q6 := hp
            refine z_cvi (c_X7_intAt G a M v1 (v4 + 1) q6) zc_X7_intAt zv_X7_intAt tw_m_RX7_233 (mrec wr_P) wr_P (zroom_of rfl) rfl (Nat.le_of_ble_eq_true rfl) dX7_wrongIn_84 ?_
            refine z_cvi (c_X7_toldOf G a M (v_X7_intAt M v1 (v4 + 1)) ) zc_X7_toldOf zv_X7_toldOf tw_m_RX7_263 (mrec wr_P) wr_P (zroom_of rfl) rfl (Nat.le_of_ble_eq_true rfl) dX7_wrongIn_87 ?_
            exact z_lv rfl (J29 (v_X7_toldOf M (v_X7_intAt M v1 (v4 + 1))) (if_neg c5).symm)
          · have hp := ip_t hpm c5
            refine z_iconst (v := (-1)) dX7_wrongIn_73 rfl ?_
            refine z_goto (tgt := 90) dX7_wrongIn_74 (by decide) ?_
            exact z_lv rfl (J29 (-1) (if_pos c5).symm)
        · have hp := ip_t hp c4; have hv := it_t hv c4
          refine z_iload dX7_wrongIn_55 rfl ?_
          subst hv; exact z_iret_W hQ rfl rfl rfl ⟨rfl, rfl⟩ dX7_wrongIn_57
def v_X7_wrongIn (M : mT) (x1 : Int32) (x2 : Int32) : Int32 × mT := v_X7_wrongIn_r 200 (msf (msf (msf M 37 0) 38 0) 39 0) x1 x2 0 0
def p_X7_wrongIn (M : mT) (x1 : Int32) (x2 : Int32) : Prop := p_X7_wrongIn_r 200 (msf (msf (msf M 37 0) 38 0) 39 0) x1 x2 0 0
set_option maxHeartbeats 4000000 in
theorem c_X7_wrongIn {l : Launch} (G : zG) (a : Nat → Nat) {X : zX} (hX : XOK X) (sz : Nat) (M : mT) (x1 : Int32) (x2 : Int32) (hp : p_X7_wrongIn M x1 x2) : Met l yX7_wrongIn (.code yX7_wrongIn k_X7_wrongIn.1 k_X7_wrongIn.2.1 k_X7_wrongIn.2.2.2.1 :: TS) k_X7_wrongIn.2.2.2.2 (Pz G [.ref (a 0), .int x1, .int x2] (Fw G X (mW G a M) sz)) (Qwi G (fun r w => r = (v_X7_wrongIn M x1 x2).1 ∧ w = mW G a (v_X7_wrongIn M x1 x2).2) (va_A (mW G a M) sz)) 0 0 (va_A (mW G a M) sz) := by
  refine zmet (by decide +kernel) rfl rfl (fun Γ hl0 hQ hN hF => ?_)
  refine z_start hX hF (fun hw => ?_)
  generalize va_A (mW G a M) sz = A at hQ hw ⊢
  obtain ⟨res, hv⟩ : ∃ res, v_X7_wrongIn M x1 x2 = res := ⟨_, rfl⟩
  rw [hv] at hQ
  unfold v_X7_wrongIn at hv
  unfold p_X7_wrongIn at hp
  show Z k_X7_wrongIn G Γ _ 0 0 [(0, .ref (a 0)), (1, .int x1), (2, .int x2)] 0 []
  refine z_iconst (v := 0) dX7_wrongIn_0 rfl ?_
  refine z_istore_n (lv' := [(3, .int 0), (0, .ref (a 0)), (1, .int x1), (2, .int x2)]) dX7_wrongIn_1 (Nat.le_of_ble_eq_true rfl) rfl ?_
  refine z_aload_n dX7_wrongIn_2 rfl ?_
  refine z_iconst (v := 0) dX7_wrongIn_3 rfl ?_
  refine mp_37 (v := 0) rfl dX7_wrongIn_4 ?_
  refine z_aload_n dX7_wrongIn_7 rfl ?_
  refine z_iconst (v := 0) dX7_wrongIn_8 rfl ?_
  refine mp_38 (v := 0) rfl dX7_wrongIn_9 ?_
  refine z_aload_n dX7_wrongIn_12 rfl ?_
  refine z_iconst (v := 0) dX7_wrongIn_13 rfl ?_
  refine mp_39 (v := 0) rfl dX7_wrongIn_14 ?_
  refine z_iconst (v := 0) dX7_wrongIn_17 rfl ?_
  refine z_istore (lv' := [(4, .int 0), (3, .int 0), (0, .ref (a 0)), (1, .int x1), (2, .int x2)]) dX7_wrongIn_18 (Nat.le_of_ble_eq_true rfl) rfl ?_
  exact z_lv rfl ((w_X7_wrongIn hw hQ 200) (msf (msf (msf M 37 0) 38 0) 39 0) x1 x2 0 0 hp hv)
theorem dX7_barsOfDay_0 : decode cX7_barsOfDay 0 = .ok (.aload_n 0, 1) := by decide +kernel
theorem dX7_barsOfDay_1 : decode cX7_barsOfDay 1 = .ok (.iload_n 1, 1) := by decide +kernel
theorem dX7_barsOfDay_2 : decode cX7_barsOfDay 2 = .ok (.invokevirtual 180, 3) := by decide +kernel
theorem dX7_barsOfDay_5 : decode cX7_barsOfDay 5 = .ok (.istore_n 3, 1) := by decide +kernel
theorem dX7_barsOfDay_6 : decode cX7_barsOfDay 6 = .ok (.iload_n 3, 1) := by decide +kernel
theorem dX7_barsOfDay_7 : decode cX7_barsOfDay 7 = .ok (.ifCond .eq 7, 3) := by decide +kernel
theorem dX7_barsOfDay_10 : decode cX7_barsOfDay 10 = .ok (.iload_n 3, 1) := by decide +kernel
theorem dX7_barsOfDay_11 : decode cX7_barsOfDay 11 = .ok (.goto 39, 3) := by decide +kernel
theorem dX7_barsOfDay_14 : decode cX7_barsOfDay 14 = .ok (.iload_n 2, 1) := by decide +kernel
theorem dX7_barsOfDay_15 : decode cX7_barsOfDay 15 = .ok (.ifCond .ge 8, 3) := by decide +kernel
theorem dX7_barsOfDay_18 : decode cX7_barsOfDay 18 = .ok (.bipush (-4), 2) := by decide +kernel
theorem dX7_barsOfDay_20 : decode cX7_barsOfDay 20 = .ok (.goto 30, 3) := by decide +kernel
theorem dX7_barsOfDay_23 : decode cX7_barsOfDay 23 = .ok (.iload_n 2, 1) := by decide +kernel
theorem dX7_barsOfDay_24 : decode cX7_barsOfDay 24 = .ok (.aload_n 0, 1) := by decide +kernel
theorem dX7_barsOfDay_25 : decode cX7_barsOfDay 25 = .ok (.getfield 56, 3) := by decide +kernel
theorem dX7_barsOfDay_28 : decode cX7_barsOfDay 28 = .ok (.iload_n 1, 1) := by decide +kernel
theorem dX7_barsOfDay_29 : decode cX7_barsOfDay 29 = .ok (.iaload, 1) := by decide +kernel
theorem dX7_barsOfDay_30 : decode cX7_barsOfDay 30 = .ok (.if_icmp .le 8, 3) := by decide +kernel
theorem dX7_barsOfDay_33 : decode cX7_barsOfDay 33 = .ok (.bipush (-5), 2) := by decide +kernel
theorem dX7_barsOfDay_35 : decode cX7_barsOfDay 35 = .ok (.goto 15, 3) := by decide +kernel
theorem dX7_barsOfDay_38 : decode cX7_barsOfDay 38 = .ok (.iload_n 2, 1) := by decide +kernel
theorem dX7_barsOfDay_39 : decode cX7_barsOfDay 39 = .ok (.bipush 7, 2) := by decide +kernel
theorem dX7_barsOfDay_41 : decode cX7_barsOfDay 41 = .ok (.if_icmp .le 8, 3) := by decide +kernel
theorem dX7_barsOfDay_44 : decode cX7_barsOfDay 44 = .ok (.bipush (-6), 2) := by decide +kernel
theorem dX7_barsOfDay_46 : decode cX7_barsOfDay 46 = .ok (.goto 4, 3) := by decide +kernel
theorem dX7_barsOfDay_49 : decode cX7_barsOfDay 49 = .ok (.iconst 0, 1) := by decide +kernel
theorem dX7_barsOfDay_50 : decode cX7_barsOfDay 50 = .ok (.ireturn, 1) := by decide +kernel
abbrev k_X7_barsOfDay : zK := (cX7_barsOfDay, 4, RX7, (some .int), ({ frames := 2, cells := 0, slots := 0, locals := 42 } : Room))
theorem zc_X7_barsOfDay : zcal yX7_barsOfDay k_X7_barsOfDay.1 k_X7_barsOfDay.2.1 k_X7_barsOfDay.2.2.2.1 2 := ⟨tw_code_yX7_barsOfDay, tw_i_TollForHesitatorsModel, ⟨by decide +kernel, by decide +kernel⟩, by decide +kernel⟩
theorem zv_X7_barsOfDay : Cond.instanceMethod yX7_barsOfDay ∈ TS ∧ Cond.selects RX7 yX7_barsOfDay yX7_barsOfDay ∈ TS := ⟨tw_inst_yX7_barsOfDay, tw_s_yX7_barsOfDay⟩
def v_X7_barsOfDay (M : mT) (x1 : Int32) (x2 : Int32) : Int32 := (if (v_X7_wanted M x1) = 0 then (if 0 ≤ x2 then (if x2 ≤ ((M.2.1 18) x1.toNatClampNeg) then (if x2 ≤ 7 then 0 else (-6)) else (-5)) else (-4)) else (v_X7_wanted M x1))
def p_X7_barsOfDay (M : mT) (x1 : Int32) (x2 : Int32) : Prop := p_X7_wanted M x1 ∧ (if (v_X7_wanted M x1) = 0 then if 0 ≤ x2 then vp_in x1 8 else True else True)
set_option maxHeartbeats 4000000 in
theorem c_X7_barsOfDay {l : Launch} (G : zG) (a : Nat → Nat) (M : mT) (x1 : Int32) (x2 : Int32) (hp : p_X7_barsOfDay M x1 x2) : Met l yX7_barsOfDay (.code yX7_barsOfDay k_X7_barsOfDay.1 k_X7_barsOfDay.2.1 k_X7_barsOfDay.2.2.2.1 :: TS) k_X7_barsOfDay.2.2.2.2 (Pz G [.ref (a 0), .int x1, .int x2] (va_P G.2.1 CL (mW G a M))) (vp_Si (fun r => r = v_X7_barsOfDay M x1 x2)) 0 0 (fun _ => False) := by
  refine zmet (by decide +kernel) rfl rfl (fun Γ hl0 hQ hN hF => ?_)
  have hI := rd_P (G := G) hF
  obtain ⟨res, hv⟩ : ∃ res, v_X7_barsOfDay M x1 x2 = res := ⟨_, rfl⟩
  rw [hv] at hQ
  unfold v_X7_barsOfDay at hv
  unfold p_X7_barsOfDay at hp
  show Z k_X7_barsOfDay G Γ _ 0 0 [(0, .ref (a 0)), (1, .int x1), (2, .int x2)] 0 []
  refine z_aload_n dX7_barsOfDay_0 rfl ?_
  refine z_iload_n dX7_barsOfDay_1 rfl ?_
  obtain ⟨q1, hp⟩ := hp
  refine z_cvi (c_X7_wanted G a M x1 q1) zc_X7_wanted zv_X7_wanted tw_m_RX7_180 (mrec hI) hI (zroom_of rfl) rfl (Nat.le_of_ble_eq_true rfl) dX7_barsOfDay_2 ?_
  refine z_istore_n (lv' := [(3, .int (v_X7_wanted M x1)), (0, .ref (a 0)), (1, .int x1), (2, .int x2)]) dX7_barsOfDay_5 (Nat.le_of_ble_eq_true rfl) rfl ?_
  refine z_iload_n dX7_barsOfDay_6 rfl ?_
  have hpm := hp
  have J11 : ∀ m10 : Int32, m10 = (if (v_X7_wanted M x1) = 0 then (if 0 ≤ x2 then (if x2 ≤ ((M.2.1 18) x1.toNatClampNeg) then (if x2 ≤ 7 then 0 else (-6)) else (-5)) else (-4)) else (v_X7_wanted M x1)) → Z k_X7_barsOfDay G Γ (rd Γ.2.2.1.1.heap) 0 0 [(3, .int (v_X7_wanted M x1)), (0, .ref (a 0)), (1, .int x1), (2, .int x2)] 50 [.int m10] := by
    intro m10 em10
    subst em10
    exact z_iret_S hQ rfl hv dX7_barsOfDay_50
  refine z_if_eq (tgt := 14) dX7_barsOfDay_7 (by decide) (fun c2 => ?_) (fun c2 => ?_)
  · have hp := ip_t hpm c2
    refine z_iload_n dX7_barsOfDay_14 rfl ?_
    have hpm := hp
    have J12 : ∀ m9 : Int32, m9 = (if 0 ≤ x2 then (if x2 ≤ ((M.2.1 18) x1.toNatClampNeg) then (if x2 ≤ 7 then 0 else (-6)) else (-5)) else (-4)) → Z k_X7_barsOfDay G Γ (rd Γ.2.2.1.1.heap) 0 0 [(3, .int (v_X7_wanted M x1)), (0, .ref (a 0)), (1, .int x1), (2, .int x2)] 50 [.int m9] := by
      intro m9 em9
      subst em9
      exact z_lv rfl (J11 (if 0 ≤ x2 then (if x2 ≤ ((M.2.1 18) x1.toNatClampNeg) then (if x2 ≤ 7 then 0 else (-6)) else (-5)) else (-4)) (if_pos c2).symm)
    refine z_if_ge (tgt := 23) dX7_barsOfDay_15 (by decide) (fun c3 => ?_) (fun c3 => ?_)
    · have hp := ip_t hpm c3
      refine z_iload_n dX7_barsOfDay_23 rfl ?_
      refine z_aload_n dX7_barsOfDay_24 rfl ?_
      refine mg_18 hI rfl dX7_barsOfDay_25 ?_
      refine z_iload_n dX7_barsOfDay_28 rfl ?_
      have q4 := hp
      refine ml_18 (x := (M.2.1 18) x1.toNatClampNeg) hI q4 rfl dX7_barsOfDay_29 ?_
      have J13 : ∀ m8 : Int32, m8 = (if x2 ≤ ((M.2.1 18) x1.toNatClampNeg) then (if x2 ≤ 7 then 0 else (-6)) else (-5)) → Z k_X7_barsOfDay G Γ (rd Γ.2.2.1.1.heap) 0 0 [(3, .int (v_X7_wanted M x1)), (0, .ref (a 0)), (1, .int x1), (2, .int x2)] 50 [.int m8] := by
        intro m8 em8
        subst em8
        exact z_lv rfl (J12 (if x2 ≤ ((M.2.1 18) x1.toNatClampNeg) then (if x2 ≤ 7 then 0 else (-6)) else (-5)) (if_pos c3).symm)
      refine z_icmp_le (tgt := 38) dX7_barsOfDay_30 (by decide) (fun c5 => ?_) (fun c5 => ?_)
      · skip
        refine z_iload_n dX7_barsOfDay_38 rfl ?_
        refine z_bipush (v := 7) dX7_barsOfDay_39 rfl ?_
        have J14 : ∀ m7 : Int32, m7 = (if x2 ≤ 7 then 0 else (-6)) → Z k_X7_barsOfDay G Γ (rd Γ.2.2.1.1.heap) 0 0 [(3, .int (v_X7_wanted M x1)), (0, .ref (a 0)), (1, .int x1), (2, .int x2)] 50 [.int m7] := by
          intro m7 em7
          subst em7
          exact z_lv rfl (J13 (if x2 ≤ 7 then 0 else (-6)) (if_pos c5).symm)
        refine z_icmp_le (tgt := 49) dX7_barsOfDay_41 (by decide) (fun c6 => ?_) (fun c6 => ?_)
        · skip
          refine z_iconst (v := 0) dX7_barsOfDay_49 rfl ?_
          exact z_lv rfl (J14 0 (if_pos c6).symm)
        · skip
          refine z_bipush (v := (-6)) dX7_barsOfDay_44 rfl ?_
          refine z_goto (tgt := 50) dX7_barsOfDay_46 (by decide) ?_
          exact z_lv rfl (J14 (-6) (if_neg c6).symm)
      · skip
        refine z_bipush (v := (-5)) dX7_barsOfDay_33 rfl ?_
        refine z_goto (tgt := 50) dX7_barsOfDay_35 (by decide) ?_
        exact z_lv rfl (J13 (-5) (if_neg c5).symm)
    · have hp := ip_f hpm c3
      refine z_bipush (v := (-4)) dX7_barsOfDay_18 rfl ?_
      refine z_goto (tgt := 50) dX7_barsOfDay_20 (by decide) ?_
      exact z_lv rfl (J12 (-4) (if_neg c3).symm)
  · have hp := ip_f hpm c2
    refine z_iload_n dX7_barsOfDay_10 rfl ?_
    refine z_goto (tgt := 50) dX7_barsOfDay_11 (by decide) ?_
    exact z_lv rfl (J11 (v_X7_wanted M x1) (if_neg c2).symm)
theorem dX7_judge_0 : decode cX7_judge 0 = .ok (.aload_n 0, 1) := by decide +kernel
theorem dX7_judge_1 : decode cX7_judge 1 = .ok (.iload_n 1, 1) := by decide +kernel
theorem dX7_judge_2 : decode cX7_judge 2 = .ok (.iload_n 2, 1) := by decide +kernel
theorem dX7_judge_3 : decode cX7_judge 3 = .ok (.invokevirtual 266, 3) := by decide +kernel
theorem dX7_judge_6 : decode cX7_judge 6 = .ok (.istore_n 3, 1) := by decide +kernel
theorem dX7_judge_7 : decode cX7_judge 7 = .ok (.iload_n 3, 1) := by decide +kernel
theorem dX7_judge_8 : decode cX7_judge 8 = .ok (.ifCond .eq 11, 3) := by decide +kernel
theorem dX7_judge_11 : decode cX7_judge 11 = .ok (.aload_n 0, 1) := by decide +kernel
theorem dX7_judge_12 : decode cX7_judge 12 = .ok (.iload_n 3, 1) := by decide +kernel
theorem dX7_judge_13 : decode cX7_judge 13 = .ok (.invokevirtual 211, 3) := by decide +kernel
theorem dX7_judge_16 : decode cX7_judge 16 = .ok (.goto 9, 3) := by decide +kernel
theorem dX7_judge_19 : decode cX7_judge 19 = .ok (.aload_n 0, 1) := by decide +kernel
theorem dX7_judge_20 : decode cX7_judge 20 = .ok (.iload_n 1, 1) := by decide +kernel
theorem dX7_judge_21 : decode cX7_judge 21 = .ok (.iload_n 2, 1) := by decide +kernel
theorem dX7_judge_22 : decode cX7_judge 22 = .ok (.invokevirtual 269, 3) := by decide +kernel
theorem dX7_judge_25 : decode cX7_judge 25 = .ok (.ireturn, 1) := by decide +kernel
abbrev k_X7_judge : zK := (cX7_judge, 4, RX7, (some .int), ({ frames := 5, cells := 0, slots := 0, locals := 123 } : Room))
theorem zc_X7_judge : zcal yX7_judge k_X7_judge.1 k_X7_judge.2.1 k_X7_judge.2.2.2.1 2 := ⟨tw_code_yX7_judge, tw_i_TollForHesitatorsModel, ⟨by decide +kernel, by decide +kernel⟩, by decide +kernel⟩
theorem zv_X7_judge : Cond.instanceMethod yX7_judge ∈ TS ∧ Cond.selects RX7 yX7_judge yX7_judge ∈ TS := ⟨tw_inst_yX7_judge, tw_s_yX7_judge⟩
def v_X7_judge (M : mT) (x1 : Int32) (x2 : Int32) : Int32 × mT := kk (if (v_X7_barsOfDay M x1 x2) = 0 then (v_X7_wrongIn M x1 x2).2 else (v_X7_noTen M (v_X7_barsOfDay M x1 x2)).2) (fun M7 : mT => ((if (v_X7_barsOfDay M x1 x2) = 0 then (v_X7_wrongIn M x1 x2).1 else (v_X7_noTen M (v_X7_barsOfDay M x1 x2)).1), M7))
def p_X7_judge (M : mT) (x1 : Int32) (x2 : Int32) : Prop := p_X7_barsOfDay M x1 x2 ∧ (if (v_X7_barsOfDay M x1 x2) = 0 then p_X7_wrongIn M x1 x2 else p_X7_noTen M (v_X7_barsOfDay M x1 x2))
set_option maxHeartbeats 4000000 in
theorem c_X7_judge {l : Launch} (G : zG) (a : Nat → Nat) {X : zX} (hX : XOK X) (sz : Nat) (M : mT) (x1 : Int32) (x2 : Int32) (hp : p_X7_judge M x1 x2) : Met l yX7_judge (.code yX7_judge k_X7_judge.1 k_X7_judge.2.1 k_X7_judge.2.2.2.1 :: TS) k_X7_judge.2.2.2.2 (Pz G [.ref (a 0), .int x1, .int x2] (Fw G X (mW G a M) sz)) (Qwi G (fun r w => r = (v_X7_judge M x1 x2).1 ∧ w = mW G a (v_X7_judge M x1 x2).2) (va_A (mW G a M) sz)) 0 0 (va_A (mW G a M) sz) := by
  refine zmet (by decide +kernel) rfl rfl (fun Γ hl0 hQ hN hF => ?_)
  refine z_start hX hF (fun hw => ?_)
  generalize va_A (mW G a M) sz = A at hQ hw ⊢
  obtain ⟨res, hv⟩ : ∃ res, v_X7_judge M x1 x2 = res := ⟨_, rfl⟩
  rw [hv] at hQ
  unfold v_X7_judge at hv
  unfold p_X7_judge at hp
  show Z k_X7_judge G Γ _ 0 0 [(0, .ref (a 0)), (1, .int x1), (2, .int x2)] 0 []
  refine z_aload_n dX7_judge_0 rfl ?_
  refine z_iload_n dX7_judge_1 rfl ?_
  refine z_iload_n dX7_judge_2 rfl ?_
  obtain ⟨q1, hp⟩ := hp
  refine z_cvi (c_X7_barsOfDay G a M x1 x2 q1) zc_X7_barsOfDay zv_X7_barsOfDay tw_m_RX7_266 (mrec wr_P) wr_P (zroom_of rfl) rfl (Nat.le_of_ble_eq_true rfl) dX7_judge_3 ?_
  refine z_istore_n (lv' := [(3, .int (v_X7_barsOfDay M x1 x2)), (0, .ref (a 0)), (1, .int x1), (2, .int x2)]) dX7_judge_6 (Nat.le_of_ble_eq_true rfl) rfl ?_
  refine z_iload_n dX7_judge_7 rfl ?_
  have hpm := hp
  have J9 : ∀ M7 : mT, M7 = (if (v_X7_barsOfDay M x1 x2) = 0 then (v_X7_wrongIn M x1 x2).2 else (v_X7_noTen M (v_X7_barsOfDay M x1 x2)).2) → ∀ m8 : Int32, m8 = (if (v_X7_barsOfDay M x1 x2) = 0 then (v_X7_wrongIn M x1 x2).1 else (v_X7_noTen M (v_X7_barsOfDay M x1 x2)).1) → Z k_X7_judge G Γ (wr G A Γ.2.2.1.1.heap (mW G a M7)) 0 0 [(3, .int (v_X7_barsOfDay M x1 x2)), (0, .ref (a 0)), (1, .int x1), (2, .int x2)] 25 [.int m8] := by
    intro M7 eM7 m8 em8
    have hv := kk_vq hv eM7
    clear eM7
    subst em8
    subst hv; exact z_iret_W hQ rfl rfl rfl ⟨rfl, rfl⟩ dX7_judge_25
  refine z_if_eq (tgt := 19) dX7_judge_8 (by decide) (fun c2 => ?_) (fun c2 => ?_)
  · have hp := ip_t hpm c2
    refine z_aload_n dX7_judge_19 rfl ?_
    refine z_iload_n dX7_judge_20 rfl ?_
    refine z_iload_n dX7_judge_21 rfl ?_
    have q3 := hp
    refine z_cavi hw (fun sz => c_X7_wrongIn G a hw.1 sz M x1 x2 q3) zc_X7_wrongIn zv_X7_wrongIn tw_m_RX7_269 (mrec wr_P) (zroom_of rfl) rfl (Nat.le_of_ble_eq_true rfl) dX7_judge_22 ?_
    intro r0 w0 hw0; obtain ⟨rfl, rfl⟩ := hw0
    exact z_lv rfl (J9 ((v_X7_wrongIn M x1 x2).2) (if_pos c2).symm ((v_X7_wrongIn M x1 x2).1) (if_pos c2).symm)
  · have hp := ip_f hpm c2
    refine z_aload_n dX7_judge_11 rfl ?_
    refine z_iload_n dX7_judge_12 rfl ?_
    have q5 := hp
    refine z_cavi hw (fun sz => c_X7_noTen G a hw.1 sz M (v_X7_barsOfDay M x1 x2) q5) zc_X7_noTen zv_X7_noTen tw_m_RX7_211 (mrec wr_P) (zroom_of rfl) rfl (Nat.le_of_ble_eq_true rfl) dX7_judge_13 ?_
    intro r0 w0 hw0; obtain ⟨rfl, rfl⟩ := hw0
    refine z_goto (tgt := 25) dX7_judge_16 (by decide) ?_
    exact z_lv rfl (J9 ((v_X7_noTen M (v_X7_barsOfDay M x1 x2)).2) (if_neg c2).symm ((v_X7_noTen M (v_X7_barsOfDay M x1 x2)).1) (if_neg c2).symm)
theorem dX7_behind_0 : decode cX7_behind 0 = .ok (.aload_n 0, 1) := by decide +kernel
theorem dX7_behind_1 : decode cX7_behind 1 = .ok (.iload_n 1, 1) := by decide +kernel
theorem dX7_behind_2 : decode cX7_behind 2 = .ok (.iload_n 2, 1) := by decide +kernel
theorem dX7_behind_3 : decode cX7_behind 3 = .ok (.invokevirtual 266, 3) := by decide +kernel
theorem dX7_behind_6 : decode cX7_behind 6 = .ok (.istore 4, 2) := by decide +kernel
theorem dX7_behind_8 : decode cX7_behind 8 = .ok (.iload 4, 2) := by decide +kernel
theorem dX7_behind_10 : decode cX7_behind 10 = .ok (.ifCond .eq 10, 3) := by decide +kernel
theorem dX7_behind_13 : decode cX7_behind 13 = .ok (.iload 4, 2) := by decide +kernel
theorem dX7_behind_15 : decode cX7_behind 15 = .ok (.bipush (-6), 2) := by decide +kernel
theorem dX7_behind_17 : decode cX7_behind 17 = .ok (.if_icmp .ne 16, 3) := by decide +kernel
theorem dX7_behind_20 : decode cX7_behind 20 = .ok (.iload_n 3, 1) := by decide +kernel
theorem dX7_behind_21 : decode cX7_behind 21 = .ok (.ifCond .lt 8, 3) := by decide +kernel
theorem dX7_behind_24 : decode cX7_behind 24 = .ok (.iload_n 3, 1) := by decide +kernel
theorem dX7_behind_25 : decode cX7_behind 25 = .ok (.iconst 2, 1) := by decide +kernel
theorem dX7_behind_26 : decode cX7_behind 26 = .ok (.if_icmp .le 7, 3) := by decide +kernel
theorem dX7_behind_29 : decode cX7_behind 29 = .ok (.bipush (-5), 2) := by decide +kernel
theorem dX7_behind_31 : decode cX7_behind 31 = .ok (.istore 4, 2) := by decide +kernel
theorem dX7_behind_33 : decode cX7_behind 33 = .ok (.iload 4, 2) := by decide +kernel
theorem dX7_behind_35 : decode cX7_behind 35 = .ok (.ifCond .ne 17, 3) := by decide +kernel
theorem dX7_behind_38 : decode cX7_behind 38 = .ok (.aload_n 0, 1) := by decide +kernel
theorem dX7_behind_39 : decode cX7_behind 39 = .ok (.iload_n 1, 1) := by decide +kernel
theorem dX7_behind_40 : decode cX7_behind 40 = .ok (.iload_n 2, 1) := by decide +kernel
theorem dX7_behind_41 : decode cX7_behind 41 = .ok (.invokevirtual 269, 3) := by decide +kernel
theorem dX7_behind_44 : decode cX7_behind 44 = .ok (.iconst (-1), 1) := by decide +kernel
theorem dX7_behind_45 : decode cX7_behind 45 = .ok (.if_icmp .eq 7, 3) := by decide +kernel
theorem dX7_behind_48 : decode cX7_behind 48 = .ok (.bipush (-6), 2) := by decide +kernel
theorem dX7_behind_50 : decode cX7_behind 50 = .ok (.istore 4, 2) := by decide +kernel
theorem dX7_behind_52 : decode cX7_behind 52 = .ok (.iload 4, 2) := by decide +kernel
theorem dX7_behind_54 : decode cX7_behind 54 = .ok (.ifCond .eq 10, 3) := by decide +kernel
theorem dX7_behind_57 : decode cX7_behind 57 = .ok (.aload_n 0, 1) := by decide +kernel
theorem dX7_behind_58 : decode cX7_behind 58 = .ok (.iload 4, 2) := by decide +kernel
theorem dX7_behind_60 : decode cX7_behind 60 = .ok (.invokevirtual 106, 3) := by decide +kernel
theorem dX7_behind_63 : decode cX7_behind 63 = .ok (.ireturn, 1) := by decide +kernel
theorem dX7_behind_64 : decode cX7_behind 64 = .ok (.iload_n 3, 1) := by decide +kernel
theorem dX7_behind_65 : decode cX7_behind 65 = .ok (.ifCond .ne 15, 3) := by decide +kernel
theorem dX7_behind_68 : decode cX7_behind 68 = .ok (.aload_n 0, 1) := by decide +kernel
theorem dX7_behind_69 : decode cX7_behind 69 = .ok (.getfield 223, 3) := by decide +kernel
theorem dX7_behind_72 : decode cX7_behind 72 = .ok (.aload_n 0, 1) := by decide +kernel
theorem dX7_behind_73 : decode cX7_behind 73 = .ok (.getfield 13, 3) := by decide +kernel
theorem dX7_behind_76 : decode cX7_behind 76 = .ok (.imul, 1) := by decide +kernel
theorem dX7_behind_77 : decode cX7_behind 77 = .ok (.goto 19, 3) := by decide +kernel
theorem dX7_behind_80 : decode cX7_behind 80 = .ok (.iload_n 3, 1) := by decide +kernel
theorem dX7_behind_81 : decode cX7_behind 81 = .ok (.iconst 1, 1) := by decide +kernel
theorem dX7_behind_82 : decode cX7_behind 82 = .ok (.if_icmp .ne 10, 3) := by decide +kernel
theorem dX7_behind_85 : decode cX7_behind 85 = .ok (.aload_n 0, 1) := by decide +kernel
theorem dX7_behind_86 : decode cX7_behind 86 = .ok (.getfield 220, 3) := by decide +kernel
theorem dX7_behind_89 : decode cX7_behind 89 = .ok (.goto 7, 3) := by decide +kernel
theorem dX7_behind_92 : decode cX7_behind 92 = .ok (.aload_n 0, 1) := by decide +kernel
theorem dX7_behind_93 : decode cX7_behind 93 = .ok (.getfield 226, 3) := by decide +kernel
theorem dX7_behind_96 : decode cX7_behind 96 = .ok (.ireturn, 1) := by decide +kernel
abbrev k_X7_behind : zK := (cX7_behind, 5, RX7, (some .int), ({ frames := 5, cells := 0, slots := 0, locals := 123 } : Room))
theorem zc_X7_behind : zcal yX7_behind k_X7_behind.1 k_X7_behind.2.1 k_X7_behind.2.2.2.1 3 := ⟨tw_code_yX7_behind, tw_i_TollForHesitatorsModel, ⟨by decide +kernel, by decide +kernel⟩, by decide +kernel⟩
theorem zv_X7_behind : Cond.instanceMethod yX7_behind ∈ TS ∧ Cond.selects RX7 yX7_behind yX7_behind ∈ TS := ⟨tw_inst_yX7_behind, tw_s_yX7_behind⟩
def v_X7_behind (M : mT) (x1 : Int32) (x2 : Int32) (x3 : Int32) : Int32 × mT := kk (if (if (v_X7_barsOfDay M x1 x2) = 0 then (if x3 < 0 then (-5) else (if x3 ≤ 2 then (v_X7_barsOfDay M x1 x2) else (-5))) else (if (v_X7_barsOfDay M x1 x2) = (-6) then (if x3 < 0 then (-5) else (if x3 ≤ 2 then (v_X7_barsOfDay M x1 x2) else (-5))) else (v_X7_barsOfDay M x1 x2))) = 0 then (v_X7_wrongIn M x1 x2).2 else M) (fun M19 : mT => if (if (if (v_X7_barsOfDay M x1 x2) = 0 then (if x3 < 0 then (-5) else (if x3 ≤ 2 then (v_X7_barsOfDay M x1 x2) else (-5))) else (if (v_X7_barsOfDay M x1 x2) = (-6) then (if x3 < 0 then (-5) else (if x3 ≤ 2 then (v_X7_barsOfDay M x1 x2) else (-5))) else (v_X7_barsOfDay M x1 x2))) = 0 then (if ((v_X7_wrongIn M x1 x2).1) = (-1) then (if (v_X7_barsOfDay M x1 x2) = 0 then (if x3 < 0 then (-5) else (if x3 ≤ 2 then (v_X7_barsOfDay M x1 x2) else (-5))) else (if (v_X7_barsOfDay M x1 x2) = (-6) then (if x3 < 0 then (-5) else (if x3 ≤ 2 then (v_X7_barsOfDay M x1 x2) else (-5))) else (v_X7_barsOfDay M x1 x2))) else (-6)) else (if (v_X7_barsOfDay M x1 x2) = 0 then (if x3 < 0 then (-5) else (if x3 ≤ 2 then (v_X7_barsOfDay M x1 x2) else (-5))) else (if (v_X7_barsOfDay M x1 x2) = (-6) then (if x3 < 0 then (-5) else (if x3 ≤ 2 then (v_X7_barsOfDay M x1 x2) else (-5))) else (v_X7_barsOfDay M x1 x2)))) = 0 then ((if x3 = 0 then (M19.1 38) * (M19.1 3) else (if x3 = 1 then M19.1 37 else M19.1 39)), M19) else kk (v_X7_no M19 (if (if (v_X7_barsOfDay M x1 x2) = 0 then (if x3 < 0 then (-5) else (if x3 ≤ 2 then (v_X7_barsOfDay M x1 x2) else (-5))) else (if (v_X7_barsOfDay M x1 x2) = (-6) then (if x3 < 0 then (-5) else (if x3 ≤ 2 then (v_X7_barsOfDay M x1 x2) else (-5))) else (v_X7_barsOfDay M x1 x2))) = 0 then (if ((v_X7_wrongIn M x1 x2).1) = (-1) then (if (v_X7_barsOfDay M x1 x2) = 0 then (if x3 < 0 then (-5) else (if x3 ≤ 2 then (v_X7_barsOfDay M x1 x2) else (-5))) else (if (v_X7_barsOfDay M x1 x2) = (-6) then (if x3 < 0 then (-5) else (if x3 ≤ 2 then (v_X7_barsOfDay M x1 x2) else (-5))) else (v_X7_barsOfDay M x1 x2))) else (-6)) else (if (v_X7_barsOfDay M x1 x2) = 0 then (if x3 < 0 then (-5) else (if x3 ≤ 2 then (v_X7_barsOfDay M x1 x2) else (-5))) else (if (v_X7_barsOfDay M x1 x2) = (-6) then (if x3 < 0 then (-5) else (if x3 ≤ 2 then (v_X7_barsOfDay M x1 x2) else (-5))) else (v_X7_barsOfDay M x1 x2))))) (fun q27 : Int32 × mT => (q27.1, q27.2)))
def p_X7_behind (M : mT) (x1 : Int32) (x2 : Int32) (x3 : Int32) : Prop := p_X7_barsOfDay M x1 x2 ∧ ((if (if (v_X7_barsOfDay M x1 x2) = 0 then (if x3 < 0 then (-5) else (if x3 ≤ 2 then (v_X7_barsOfDay M x1 x2) else (-5))) else (if (v_X7_barsOfDay M x1 x2) = (-6) then (if x3 < 0 then (-5) else (if x3 ≤ 2 then (v_X7_barsOfDay M x1 x2) else (-5))) else (v_X7_barsOfDay M x1 x2))) = 0 then p_X7_wrongIn M x1 x2 else True) ∧ (kk (if (if (v_X7_barsOfDay M x1 x2) = 0 then (if x3 < 0 then (-5) else (if x3 ≤ 2 then (v_X7_barsOfDay M x1 x2) else (-5))) else (if (v_X7_barsOfDay M x1 x2) = (-6) then (if x3 < 0 then (-5) else (if x3 ≤ 2 then (v_X7_barsOfDay M x1 x2) else (-5))) else (v_X7_barsOfDay M x1 x2))) = 0 then (v_X7_wrongIn M x1 x2).2 else M) (fun M19 : mT => if (if (if (v_X7_barsOfDay M x1 x2) = 0 then (if x3 < 0 then (-5) else (if x3 ≤ 2 then (v_X7_barsOfDay M x1 x2) else (-5))) else (if (v_X7_barsOfDay M x1 x2) = (-6) then (if x3 < 0 then (-5) else (if x3 ≤ 2 then (v_X7_barsOfDay M x1 x2) else (-5))) else (v_X7_barsOfDay M x1 x2))) = 0 then (if ((v_X7_wrongIn M x1 x2).1) = (-1) then (if (v_X7_barsOfDay M x1 x2) = 0 then (if x3 < 0 then (-5) else (if x3 ≤ 2 then (v_X7_barsOfDay M x1 x2) else (-5))) else (if (v_X7_barsOfDay M x1 x2) = (-6) then (if x3 < 0 then (-5) else (if x3 ≤ 2 then (v_X7_barsOfDay M x1 x2) else (-5))) else (v_X7_barsOfDay M x1 x2))) else (-6)) else (if (v_X7_barsOfDay M x1 x2) = 0 then (if x3 < 0 then (-5) else (if x3 ≤ 2 then (v_X7_barsOfDay M x1 x2) else (-5))) else (if (v_X7_barsOfDay M x1 x2) = (-6) then (if x3 < 0 then (-5) else (if x3 ≤ 2 then (v_X7_barsOfDay M x1 x2) else (-5))) else (v_X7_barsOfDay M x1 x2)))) = 0 then True else p_X7_no M19 (if (if (v_X7_barsOfDay M x1 x2) = 0 then (if x3 < 0 then (-5) else (if x3 ≤ 2 then (v_X7_barsOfDay M x1 x2) else (-5))) else (if (v_X7_barsOfDay M x1 x2) = (-6) then (if x3 < 0 then (-5) else (if x3 ≤ 2 then (v_X7_barsOfDay M x1 x2) else (-5))) else (v_X7_barsOfDay M x1 x2))) = 0 then (if ((v_X7_wrongIn M x1 x2).1) = (-1) then (if (v_X7_barsOfDay M x1 x2) = 0 then (if x3 < 0 then (-5) else (if x3 ≤ 2 then (v_X7_barsOfDay M x1 x2) else (-5))) else (if (v_X7_barsOfDay M x1 x2) = (-6) then (if x3 < 0 then (-5) else (if x3 ≤ 2 then (v_X7_barsOfDay M x1 x2) else (-5))) else (v_X7_barsOfDay M x1 x2))) else (-6)) else (if (v_X7_barsOfDay M x1 x2) = 0 then (if x3 < 0 then (-5) else (if x3 ≤ 2 then (v_X7_barsOfDay M x1 x2) else (-5))) else (if (v_X7_barsOfDay M x1 x2) = (-6) then (if x3 < 0 then (-5) else (if x3 ≤ 2 then (v_X7_barsOfDay M x1 x2) else (-5))) else (v_X7_barsOfDay M x1 x2)))))))
set_option maxHeartbeats 4000000 in
theorem c_X7_behind {l : Launch} (G : zG) (a : Nat → Nat) {X : zX} (hX : XOK X) (sz : Nat) (M : mT) (x1 : Int32) (x2 : Int32) (x3 : Int32) (hp : p_X7_behind M x1 x2 x3) : Met l yX7_behind (.code yX7_behind k_X7_behind.1 k_X7_behind.2.1 k_X7_behind.2.2.2.1 :: TS) k_X7_behind.2.2.2.2 (Pz G [.ref (a 0), .int x1, .int x2, .int x3] (Fw G X (mW G a M) sz)) (Qwi G (fun r w => r = (v_X7_behind M x1 x2 x3).1 ∧ w = mW G a (v_X7_behind M x1 x2 x3).2) (va_A (mW G a M) sz)) 0 0 (va_A (mW G a M) sz) := by
  refine zmet (by decide +kernel) rfl rfl (fun Γ hl0 hQ hN hF => ?_)
  refine z_start hX hF (fun hw => ?_)
  generalize va_A (mW G a M) sz = A at hQ hw ⊢
  obtain ⟨res, hv⟩ : ∃ res, v_X7_behind M x1 x2 x3 = res := ⟨_, rfl⟩
  rw [hv] at hQ
  unfold v_X7_behind at hv
  unfold p_X7_behind at hp
  show Z k_X7_behind G Γ _ 0 0 [(0, .ref (a 0)), (1, .int x1), (2, .int x2), (3, .int x3)] 0 []
  refine z_aload_n dX7_behind_0 rfl ?_
  refine z_iload_n dX7_behind_1 rfl ?_
  refine z_iload_n dX7_behind_2 rfl ?_
  obtain ⟨q1, hp⟩ := hp
  refine z_cvi (c_X7_barsOfDay G a M x1 x2 q1) zc_X7_barsOfDay zv_X7_barsOfDay tw_m_RX7_266 (mrec wr_P) wr_P (zroom_of rfl) rfl (Nat.le_of_ble_eq_true rfl) dX7_behind_3 ?_
  refine z_istore (lv' := [(4, .int (v_X7_barsOfDay M x1 x2)), (0, .ref (a 0)), (1, .int x1), (2, .int x2), (3, .int x3)]) dX7_behind_6 (Nat.le_of_ble_eq_true rfl) rfl ?_
  refine z_iload dX7_behind_8 rfl ?_
  have J28 : ∀ m13 : Int32, m13 = (if (v_X7_barsOfDay M x1 x2) = 0 then (if x3 < 0 then (-5) else (if x3 ≤ 2 then (v_X7_barsOfDay M x1 x2) else (-5))) else (if (v_X7_barsOfDay M x1 x2) = (-6) then (if x3 < 0 then (-5) else (if x3 ≤ 2 then (v_X7_barsOfDay M x1 x2) else (-5))) else (v_X7_barsOfDay M x1 x2))) → Z k_X7_behind G Γ (wr G A Γ.2.2.1.1.heap (mW G a M)) 0 0 [(4, .int m13), (0, .ref (a 0)), (1, .int x1), (2, .int x2), (3, .int x3)] 33 [] := by
    intro m13 em13
    subst em13
    refine z_iload dX7_behind_33 rfl ?_
    obtain ⟨hpm, hp⟩ := hp
    have J29 : ∀ M19 : mT, M19 = (if (if (v_X7_barsOfDay M x1 x2) = 0 then (if x3 < 0 then (-5) else (if x3 ≤ 2 then (v_X7_barsOfDay M x1 x2) else (-5))) else (if (v_X7_barsOfDay M x1 x2) = (-6) then (if x3 < 0 then (-5) else (if x3 ≤ 2 then (v_X7_barsOfDay M x1 x2) else (-5))) else (v_X7_barsOfDay M x1 x2))) = 0 then (v_X7_wrongIn M x1 x2).2 else M) → ∀ m20 : Int32, m20 = (if (if (v_X7_barsOfDay M x1 x2) = 0 then (if x3 < 0 then (-5) else (if x3 ≤ 2 then (v_X7_barsOfDay M x1 x2) else (-5))) else (if (v_X7_barsOfDay M x1 x2) = (-6) then (if x3 < 0 then (-5) else (if x3 ≤ 2 then (v_X7_barsOfDay M x1 x2) else (-5))) else (v_X7_barsOfDay M x1 x2))) = 0 then (if ((v_X7_wrongIn M x1 x2).1) = (-1) then (if (v_X7_barsOfDay M x1 x2) = 0 then (if x3 < 0 then (-5) else (if x3 ≤ 2 then (v_X7_barsOfDay M x1 x2) else (-5))) else (if (v_X7_barsOfDay M x1 x2) = (-6) then (if x3 < 0 then (-5) else (if x3 ≤ 2 then (v_X7_barsOfDay M x1 x2) else (-5))) else (v_X7_barsOfDay M x1 x2))) else (-6)) else (if (v_X7_barsOfDay M x1 x2) = 0 then (if x3 < 0 then (-5) else (if x3 ≤ 2 then (v_X7_barsOfDay M x1 x2) else (-5))) else (if (v_X7_barsOfDay M x1 x2) = (-6) then (if x3 < 0 then (-5) else (if x3 ≤ 2 then (v_X7_barsOfDay M x1 x2) else (-5))) else (v_X7_barsOfDay M x1 x2)))) → Z k_X7_behind G Γ (wr G A Γ.2.2.1.1.heap (mW G a M19)) 0 0 [(4, .int m20), (0, .ref (a 0)), (1, .int x1), (2, .int x2), (3, .int x3)] 52 [] := by
      intro M19 eM19 m20 em20
      have hp := kk_pq hp eM19
      have hv := kk_vq hv eM19
      clear eM19
      subst em20
      refine z_iload dX7_behind_52 rfl ?_
      refine z_if_eq (tgt := 64) dX7_behind_54 (by decide) (fun c21 => ?_) (fun c21 => ?_)
      · have hp := ip_t hp c21; have hv := it_t hv c21
        refine z_iload_n dX7_behind_64 rfl ?_
        have J30 : ∀ m25 : Int32, m25 = (if x3 = 0 then (M19.1 38) * (M19.1 3) else (if x3 = 1 then M19.1 37 else M19.1 39)) → Z k_X7_behind G Γ (wr G A Γ.2.2.1.1.heap (mW G a M19)) 0 0 [(4, .int (if (if (v_X7_barsOfDay M x1 x2) = 0 then (if x3 < 0 then (-5) else (if x3 ≤ 2 then (v_X7_barsOfDay M x1 x2) else (-5))) else (if (v_X7_barsOfDay M x1 x2) = (-6) then (if x3 < 0 then (-5) else (if x3 ≤ 2 then (v_X7_barsOfDay M x1 x2) else (-5))) else (v_X7_barsOfDay M x1 x2))) = 0 then (if ((v_X7_wrongIn M x1 x2).1) = (-1) then (if (v_X7_barsOfDay M x1 x2) = 0 then (if x3 < 0 then (-5) else (if x3 ≤ 2 then (v_X7_barsOfDay M x1 x2) else (-5))) else (if (v_X7_barsOfDay M x1 x2) = (-6) then (if x3 < 0 then (-5) else (if x3 ≤ 2 then (v_X7_barsOfDay M x1 x2) else (-5))) else (v_X7_barsOfDay M x1 x2))) else (-6)) else (if (v_X7_barsOfDay M x1 x2) = 0 then (if x3 < 0 then (-5) else (if x3 ≤ 2 then (v_X7_barsOfDay M x1 x2) else (-5))) else (if (v_X7_barsOfDay M x1 x2) = (-6) then (if x3 < 0 then (-5) else (if x3 ≤ 2 then (v_X7_barsOfDay M x1 x2) else (-5))) else (v_X7_barsOfDay M x1 x2))))), (0, .ref (a 0)), (1, .int x1), (2, .int x2), (3, .int x3)] 96 [.int m25] := by
          intro m25 em25
          subst em25
          subst hv; exact z_iret_W hQ rfl rfl rfl ⟨rfl, rfl⟩ dX7_behind_96
        refine z_if_ne (tgt := 80) dX7_behind_65 (by decide) (fun c22 => ?_) (fun c22 => ?_)
        · skip
          refine z_iload_n dX7_behind_80 rfl ?_
          refine z_iconst (v := 1) dX7_behind_81 rfl ?_
          have J31 : ∀ m24 : Int32, m24 = (if x3 = 1 then M19.1 37 else M19.1 39) → Z k_X7_behind G Γ (wr G A Γ.2.2.1.1.heap (mW G a M19)) 0 0 [(4, .int (if (if (v_X7_barsOfDay M x1 x2) = 0 then (if x3 < 0 then (-5) else (if x3 ≤ 2 then (v_X7_barsOfDay M x1 x2) else (-5))) else (if (v_X7_barsOfDay M x1 x2) = (-6) then (if x3 < 0 then (-5) else (if x3 ≤ 2 then (v_X7_barsOfDay M x1 x2) else (-5))) else (v_X7_barsOfDay M x1 x2))) = 0 then (if ((v_X7_wrongIn M x1 x2).1) = (-1) then (if (v_X7_barsOfDay M x1 x2) = 0 then (if x3 < 0 then (-5) else (if x3 ≤ 2 then (v_X7_barsOfDay M x1 x2) else (-5))) else (if (v_X7_barsOfDay M x1 x2) = (-6) then (if x3 < 0 then (-5) else (if x3 ≤ 2 then (v_X7_barsOfDay M x1 x2) else (-5))) else (v_X7_barsOfDay M x1 x2))) else (-6)) else (if (v_X7_barsOfDay M x1 x2) = 0 then (if x3 < 0 then (-5) else (if x3 ≤ 2 then (v_X7_barsOfDay M x1 x2) else (-5))) else (if (v_X7_barsOfDay M x1 x2) = (-6) then (if x3 < 0 then (-5) else (if x3 ≤ 2 then (v_X7_barsOfDay M x1 x2) else (-5))) else (v_X7_barsOfDay M x1 x2))))), (0, .ref (a 0)), (1, .int x1), (2, .int x2), (3, .int x3)] 96 [.int m24] := by
            intro m24 em24
            subst em24
            exact z_lv rfl (J30 (if x3 = 1 then M19.1 37 else M19.1 39) (if_neg c22).symm)
          refine z_icmp_ne (tgt := 92) dX7_behind_82 (by decide) (fun c23 => ?_) (fun c23 => ?_)
          · skip
            refine z_aload_n dX7_behind_92 rfl ?_
            refine mg_39 (v := M19.1 39) wr_P rfl rfl dX7_behind_93 ?_
            exact z_lv rfl (J31 (M19.1 39) (if_neg c23).symm)
          · skip
            refine z_aload_n dX7_behind_85 rfl ?_
            refine mg_37 (v := M19.1 37) wr_P rfl rfl dX7_behind_86 ?_
            refine z_goto (tgt := 96) dX7_behind_89 (by decide) ?_
            exact z_lv rfl (J31 (M19.1 37) (if_pos c23).symm)
        · skip
          refine z_aload_n dX7_behind_68 rfl ?_
          refine mg_38 (v := M19.1 38) wr_P rfl rfl dX7_behind_69 ?_
          refine z_aload_n dX7_behind_72 rfl ?_
          refine mg_3 (v := M19.1 3) wr_P rfl rfl dX7_behind_73 ?_
          refine z_imul dX7_behind_76 ?_
          refine z_goto (tgt := 96) dX7_behind_77 (by decide) ?_
          exact z_lv rfl (J30 ((M19.1 38) * (M19.1 3)) (if_pos c22).symm)
      · have hp := ip_f hp c21; have hv := it_f hv c21
        refine z_aload_n dX7_behind_57 rfl ?_
        refine z_iload dX7_behind_58 rfl ?_
        have q26 := hp
        refine z_cavi hw (fun sz => c_X7_no G a hw.1 sz M19 (if (if (v_X7_barsOfDay M x1 x2) = 0 then (if x3 < 0 then (-5) else (if x3 ≤ 2 then (v_X7_barsOfDay M x1 x2) else (-5))) else (if (v_X7_barsOfDay M x1 x2) = (-6) then (if x3 < 0 then (-5) else (if x3 ≤ 2 then (v_X7_barsOfDay M x1 x2) else (-5))) else (v_X7_barsOfDay M x1 x2))) = 0 then (if ((v_X7_wrongIn M x1 x2).1) = (-1) then (if (v_X7_barsOfDay M x1 x2) = 0 then (if x3 < 0 then (-5) else (if x3 ≤ 2 then (v_X7_barsOfDay M x1 x2) else (-5))) else (if (v_X7_barsOfDay M x1 x2) = (-6) then (if x3 < 0 then (-5) else (if x3 ≤ 2 then (v_X7_barsOfDay M x1 x2) else (-5))) else (v_X7_barsOfDay M x1 x2))) else (-6)) else (if (v_X7_barsOfDay M x1 x2) = 0 then (if x3 < 0 then (-5) else (if x3 ≤ 2 then (v_X7_barsOfDay M x1 x2) else (-5))) else (if (v_X7_barsOfDay M x1 x2) = (-6) then (if x3 < 0 then (-5) else (if x3 ≤ 2 then (v_X7_barsOfDay M x1 x2) else (-5))) else (v_X7_barsOfDay M x1 x2)))) q26) zc_X7_no zv_X7_no tw_m_RX7_106 (mrec wr_P) (zroom_of rfl) rfl (Nat.le_of_ble_eq_true rfl) dX7_behind_60 ?_
        intro r0 w0 hw0
        generalize v_X7_no M19 (if (if (v_X7_barsOfDay M x1 x2) = 0 then (if x3 < 0 then (-5) else (if x3 ≤ 2 then (v_X7_barsOfDay M x1 x2) else (-5))) else (if (v_X7_barsOfDay M x1 x2) = (-6) then (if x3 < 0 then (-5) else (if x3 ≤ 2 then (v_X7_barsOfDay M x1 x2) else (-5))) else (v_X7_barsOfDay M x1 x2))) = 0 then (if ((v_X7_wrongIn M x1 x2).1) = (-1) then (if (v_X7_barsOfDay M x1 x2) = 0 then (if x3 < 0 then (-5) else (if x3 ≤ 2 then (v_X7_barsOfDay M x1 x2) else (-5))) else (if (v_X7_barsOfDay M x1 x2) = (-6) then (if x3 < 0 then (-5) else (if x3 ≤ 2 then (v_X7_barsOfDay M x1 x2) else (-5))) else (v_X7_barsOfDay M x1 x2))) else (-6)) else (if (v_X7_barsOfDay M x1 x2) = 0 then (if x3 < 0 then (-5) else (if x3 ≤ 2 then (v_X7_barsOfDay M x1 x2) else (-5))) else (if (v_X7_barsOfDay M x1 x2) = (-6) then (if x3 < 0 then (-5) else (if x3 ≤ 2 then (v_X7_barsOfDay M x1 x2) else (-5))) else (v_X7_barsOfDay M x1 x2)))) = q27 at hv hw0
        have hv := kk_v hv
        obtain ⟨rfl, rfl⟩ := hw0
        subst hv; exact z_iret_W hQ rfl rfl rfl ⟨rfl, rfl⟩ dX7_behind_63
    refine z_if_ne (tgt := 52) dX7_behind_35 (by decide) (fun c14 => ?_) (fun c14 => ?_)
    · have hp := ip_f hpm c14
      exact z_lv rfl (J29 M (if_neg c14).symm (if (v_X7_barsOfDay M x1 x2) = 0 then (if x3 < 0 then (-5) else (if x3 ≤ 2 then (v_X7_barsOfDay M x1 x2) else (-5))) else (if (v_X7_barsOfDay M x1 x2) = (-6) then (if x3 < 0 then (-5) else (if x3 ≤ 2 then (v_X7_barsOfDay M x1 x2) else (-5))) else (v_X7_barsOfDay M x1 x2))) (if_neg c14).symm)
    · have hp := ip_t hpm c14
      refine z_aload_n dX7_behind_38 rfl ?_
      refine z_iload_n dX7_behind_39 rfl ?_
      refine z_iload_n dX7_behind_40 rfl ?_
      have q15 := hp
      refine z_cavi hw (fun sz => c_X7_wrongIn G a hw.1 sz M x1 x2 q15) zc_X7_wrongIn zv_X7_wrongIn tw_m_RX7_269 (mrec wr_P) (zroom_of rfl) rfl (Nat.le_of_ble_eq_true rfl) dX7_behind_41 ?_
      intro r0 w0 hw0; obtain ⟨rfl, rfl⟩ := hw0
      refine z_iconst (v := (-1)) dX7_behind_44 rfl ?_
      have J32 : ∀ m18 : Int32, m18 = (if ((v_X7_wrongIn M x1 x2).1) = (-1) then (if (v_X7_barsOfDay M x1 x2) = 0 then (if x3 < 0 then (-5) else (if x3 ≤ 2 then (v_X7_barsOfDay M x1 x2) else (-5))) else (if (v_X7_barsOfDay M x1 x2) = (-6) then (if x3 < 0 then (-5) else (if x3 ≤ 2 then (v_X7_barsOfDay M x1 x2) else (-5))) else (v_X7_barsOfDay M x1 x2))) else (-6)) → Z k_X7_behind G Γ (wr G A Γ.2.2.1.1.heap (mW G a ((v_X7_wrongIn M x1 x2).2))) 0 0 [(4, .int m18), (0, .ref (a 0)), (1, .int x1), (2, .int x2), (3, .int x3)] 52 [] := by
        intro m18 em18
        subst em18
        exact z_lv rfl (J29 ((v_X7_wrongIn M x1 x2).2) (if_pos c14).symm (if ((v_X7_wrongIn M x1 x2).1) = (-1) then (if (v_X7_barsOfDay M x1 x2) = 0 then (if x3 < 0 then (-5) else (if x3 ≤ 2 then (v_X7_barsOfDay M x1 x2) else (-5))) else (if (v_X7_barsOfDay M x1 x2) = (-6) then (if x3 < 0 then (-5) else (if x3 ≤ 2 then (v_X7_barsOfDay M x1 x2) else (-5))) else (v_X7_barsOfDay M x1 x2))) else (-6)) (if_pos c14).symm)
      refine z_icmp_eq (tgt := 52) dX7_behind_45 (by decide) (fun c17 => ?_) (fun c17 => ?_)
      · skip
        exact z_lv rfl (J32 (if (v_X7_barsOfDay M x1 x2) = 0 then (if x3 < 0 then (-5) else (if x3 ≤ 2 then (v_X7_barsOfDay M x1 x2) else (-5))) else (if (v_X7_barsOfDay M x1 x2) = (-6) then (if x3 < 0 then (-5) else (if x3 ≤ 2 then (v_X7_barsOfDay M x1 x2) else (-5))) else (v_X7_barsOfDay M x1 x2))) (if_pos c17).symm)
      · skip
        refine z_bipush (v := (-6)) dX7_behind_48 rfl ?_
        refine z_istore (lv' := [(4, .int (-6)), (0, .ref (a 0)), (1, .int x1), (2, .int x2), (3, .int x3)]) dX7_behind_50 (Nat.le_of_ble_eq_true rfl) rfl ?_
        exact z_lv rfl (J32 (-6) (if_neg c17).symm)
  refine z_if_eq (tgt := 20) dX7_behind_10 (by decide) (fun c2 => ?_) (fun c2 => ?_)
  · skip
    refine z_iload_n dX7_behind_20 rfl ?_
    have J33 : ∀ m6 : Int32, m6 = (if x3 < 0 then (-5) else (if x3 ≤ 2 then (v_X7_barsOfDay M x1 x2) else (-5))) → Z k_X7_behind G Γ (wr G A Γ.2.2.1.1.heap (mW G a M)) 0 0 [(4, .int m6), (0, .ref (a 0)), (1, .int x1), (2, .int x2), (3, .int x3)] 33 [] := by
      intro m6 em6
      subst em6
      exact z_lv rfl (J28 (if x3 < 0 then (-5) else (if x3 ≤ 2 then (v_X7_barsOfDay M x1 x2) else (-5))) (if_pos c2).symm)
    refine z_if_lt (tgt := 29) dX7_behind_21 (by decide) (fun c3 => ?_) (fun c3 => ?_)
    · skip
      refine z_bipush (v := (-5)) dX7_behind_29 rfl ?_
      refine z_istore (lv' := [(4, .int (-5)), (0, .ref (a 0)), (1, .int x1), (2, .int x2), (3, .int x3)]) dX7_behind_31 (Nat.le_of_ble_eq_true rfl) rfl ?_
      exact z_lv rfl (J33 (-5) (if_pos c3).symm)
    · skip
      refine z_iload_n dX7_behind_24 rfl ?_
      refine z_iconst (v := 2) dX7_behind_25 rfl ?_
      have J34 : ∀ m5 : Int32, m5 = (if x3 ≤ 2 then (v_X7_barsOfDay M x1 x2) else (-5)) → Z k_X7_behind G Γ (wr G A Γ.2.2.1.1.heap (mW G a M)) 0 0 [(4, .int m5), (0, .ref (a 0)), (1, .int x1), (2, .int x2), (3, .int x3)] 33 [] := by
        intro m5 em5
        subst em5
        exact z_lv rfl (J33 (if x3 ≤ 2 then (v_X7_barsOfDay M x1 x2) else (-5)) (if_neg c3).symm)
      refine z_icmp_le (tgt := 33) dX7_behind_26 (by decide) (fun c4 => ?_) (fun c4 => ?_)
      · skip
        exact z_lv rfl (J34 (v_X7_barsOfDay M x1 x2) (if_pos c4).symm)
      · skip
        refine z_bipush (v := (-5)) dX7_behind_29 rfl ?_
        refine z_istore (lv' := [(4, .int (-5)), (0, .ref (a 0)), (1, .int x1), (2, .int x2), (3, .int x3)]) dX7_behind_31 (Nat.le_of_ble_eq_true rfl) rfl ?_
        exact z_lv rfl (J34 (-5) (if_neg c4).symm)
  · skip
    refine z_iload dX7_behind_13 rfl ?_
    refine z_bipush (v := (-6)) dX7_behind_15 rfl ?_
    have J35 : ∀ m12 : Int32, m12 = (if (v_X7_barsOfDay M x1 x2) = (-6) then (if x3 < 0 then (-5) else (if x3 ≤ 2 then (v_X7_barsOfDay M x1 x2) else (-5))) else (v_X7_barsOfDay M x1 x2)) → Z k_X7_behind G Γ (wr G A Γ.2.2.1.1.heap (mW G a M)) 0 0 [(4, .int m12), (0, .ref (a 0)), (1, .int x1), (2, .int x2), (3, .int x3)] 33 [] := by
      intro m12 em12
      subst em12
      exact z_lv rfl (J28 (if (v_X7_barsOfDay M x1 x2) = (-6) then (if x3 < 0 then (-5) else (if x3 ≤ 2 then (v_X7_barsOfDay M x1 x2) else (-5))) else (v_X7_barsOfDay M x1 x2)) (if_neg c2).symm)
    refine z_icmp_ne (tgt := 33) dX7_behind_17 (by decide) (fun c7 => ?_) (fun c7 => ?_)
    · skip
      exact z_lv rfl (J35 (v_X7_barsOfDay M x1 x2) (if_neg c7).symm)
    · skip
      refine z_iload_n dX7_behind_20 rfl ?_
      have J36 : ∀ m11 : Int32, m11 = (if x3 < 0 then (-5) else (if x3 ≤ 2 then (v_X7_barsOfDay M x1 x2) else (-5))) → Z k_X7_behind G Γ (wr G A Γ.2.2.1.1.heap (mW G a M)) 0 0 [(4, .int m11), (0, .ref (a 0)), (1, .int x1), (2, .int x2), (3, .int x3)] 33 [] := by
        intro m11 em11
        subst em11
        exact z_lv rfl (J35 (if x3 < 0 then (-5) else (if x3 ≤ 2 then (v_X7_barsOfDay M x1 x2) else (-5))) (if_pos c7).symm)
      refine z_if_lt (tgt := 29) dX7_behind_21 (by decide) (fun c8 => ?_) (fun c8 => ?_)
      · skip
        refine z_bipush (v := (-5)) dX7_behind_29 rfl ?_
        refine z_istore (lv' := [(4, .int (-5)), (0, .ref (a 0)), (1, .int x1), (2, .int x2), (3, .int x3)]) dX7_behind_31 (Nat.le_of_ble_eq_true rfl) rfl ?_
        exact z_lv rfl (J36 (-5) (if_pos c8).symm)
      · skip
        refine z_iload_n dX7_behind_24 rfl ?_
        refine z_iconst (v := 2) dX7_behind_25 rfl ?_
        have J37 : ∀ m10 : Int32, m10 = (if x3 ≤ 2 then (v_X7_barsOfDay M x1 x2) else (-5)) → Z k_X7_behind G Γ (wr G A Γ.2.2.1.1.heap (mW G a M)) 0 0 [(4, .int m10), (0, .ref (a 0)), (1, .int x1), (2, .int x2), (3, .int x3)] 33 [] := by
          intro m10 em10
          subst em10
          exact z_lv rfl (J36 (if x3 ≤ 2 then (v_X7_barsOfDay M x1 x2) else (-5)) (if_neg c8).symm)
        refine z_icmp_le (tgt := 33) dX7_behind_26 (by decide) (fun c9 => ?_) (fun c9 => ?_)
        · skip
          exact z_lv rfl (J37 (v_X7_barsOfDay M x1 x2) (if_pos c9).symm)
        · skip
          refine z_bipush (v := (-5)) dX7_behind_29 rfl ?_
          refine z_istore (lv' := [(4, .int (-5)), (0, .ref (a 0)), (1, .int x1), (2, .int x2), (3, .int x3)]) dX7_behind_31 (Nat.le_of_ble_eq_true rfl) rfl ?_
          exact z_lv rfl (J37 (-5) (if_neg c9).symm)
theorem dX7_passes_0 : decode cX7_passes 0 = .ok (.iconst 0, 1) := by decide +kernel
theorem dX7_passes_1 : decode cX7_passes 1 = .ok (.istore_n 2, 1) := by decide +kernel
theorem dX7_passes_2 : decode cX7_passes 2 = .ok (.iload_n 2, 1) := by decide +kernel
theorem dX7_passes_3 : decode cX7_passes 3 = .ok (.iload_n 1, 1) := by decide +kernel
theorem dX7_passes_4 : decode cX7_passes 4 = .ok (.if_icmp .ge 124, 3) := by decide +kernel
theorem dX7_passes_7 : decode cX7_passes 7 = .ok (.aload_n 0, 1) := by decide +kernel
theorem dX7_passes_8 : decode cX7_passes 8 = .ok (.getfield 87, 3) := by decide +kernel
theorem dX7_passes_11 : decode cX7_passes 11 = .ok (.iload_n 2, 1) := by decide +kernel
theorem dX7_passes_12 : decode cX7_passes 12 = .ok (.iaload, 1) := by decide +kernel
theorem dX7_passes_13 : decode cX7_passes 13 = .ok (.istore_n 3, 1) := by decide +kernel
theorem dX7_passes_14 : decode cX7_passes 14 = .ok (.aload_n 0, 1) := by decide +kernel
theorem dX7_passes_15 : decode cX7_passes 15 = .ok (.getfield 90, 3) := by decide +kernel
theorem dX7_passes_18 : decode cX7_passes 18 = .ok (.iload_n 2, 1) := by decide +kernel
theorem dX7_passes_19 : decode cX7_passes 19 = .ok (.iaload, 1) := by decide +kernel
theorem dX7_passes_20 : decode cX7_passes 20 = .ok (.iconst 1, 1) := by decide +kernel
theorem dX7_passes_21 : decode cX7_passes 21 = .ok (.if_icmp .ne 44, 3) := by decide +kernel
theorem dX7_passes_24 : decode cX7_passes 24 = .ok (.aload_n 0, 1) := by decide +kernel
theorem dX7_passes_25 : decode cX7_passes 25 = .ok (.getfield 44, 3) := by decide +kernel
theorem dX7_passes_28 : decode cX7_passes 28 = .ok (.iload_n 3, 1) := by decide +kernel
theorem dX7_passes_29 : decode cX7_passes 29 = .ok (.dup2, 1) := by decide +kernel
theorem dX7_passes_30 : decode cX7_passes 30 = .ok (.iaload, 1) := by decide +kernel
theorem dX7_passes_31 : decode cX7_passes 31 = .ok (.aload_n 0, 1) := by decide +kernel
theorem dX7_passes_32 : decode cX7_passes 32 = .ok (.getfield 13, 3) := by decide +kernel
theorem dX7_passes_35 : decode cX7_passes 35 = .ok (.isub, 1) := by decide +kernel
theorem dX7_passes_36 : decode cX7_passes 36 = .ok (.iastore, 1) := by decide +kernel
theorem dX7_passes_37 : decode cX7_passes 37 = .ok (.aload_n 0, 1) := by decide +kernel
theorem dX7_passes_38 : decode cX7_passes 38 = .ok (.getfield 47, 3) := by decide +kernel
theorem dX7_passes_41 : decode cX7_passes 41 = .ok (.iload_n 3, 1) := by decide +kernel
theorem dX7_passes_42 : decode cX7_passes 42 = .ok (.dup2, 1) := by decide +kernel
theorem dX7_passes_43 : decode cX7_passes 43 = .ok (.iaload, 1) := by decide +kernel
theorem dX7_passes_44 : decode cX7_passes 44 = .ok (.aload_n 0, 1) := by decide +kernel
theorem dX7_passes_45 : decode cX7_passes 45 = .ok (.getfield 47, 3) := by decide +kernel
theorem dX7_passes_48 : decode cX7_passes 48 = .ok (.iload_n 3, 1) := by decide +kernel
theorem dX7_passes_49 : decode cX7_passes 49 = .ok (.iaload, 1) := by decide +kernel
theorem dX7_passes_50 : decode cX7_passes 50 = .ok (.bipush 30, 2) := by decide +kernel
theorem dX7_passes_52 : decode cX7_passes 52 = .ok (.if_icmp .ge 7, 3) := by decide +kernel
theorem dX7_passes_55 : decode cX7_passes 55 = .ok (.iconst 1, 1) := by decide +kernel
theorem dX7_passes_56 : decode cX7_passes 56 = .ok (.goto 4, 3) := by decide +kernel
theorem dX7_passes_59 : decode cX7_passes 59 = .ok (.iconst 0, 1) := by decide +kernel
theorem dX7_passes_60 : decode cX7_passes 60 = .ok (.iadd, 1) := by decide +kernel
theorem dX7_passes_61 : decode cX7_passes 61 = .ok (.iastore, 1) := by decide +kernel
theorem dX7_passes_62 : decode cX7_passes 62 = .ok (.goto 60, 3) := by decide +kernel
theorem dX7_passes_65 : decode cX7_passes 65 = .ok (.aload_n 0, 1) := by decide +kernel
theorem dX7_passes_66 : decode cX7_passes 66 = .ok (.getfield 90, 3) := by decide +kernel
theorem dX7_passes_69 : decode cX7_passes 69 = .ok (.iload_n 2, 1) := by decide +kernel
theorem dX7_passes_70 : decode cX7_passes 70 = .ok (.iaload, 1) := by decide +kernel
theorem dX7_passes_71 : decode cX7_passes 71 = .ok (.ifCond .ne 51, 3) := by decide +kernel
theorem dX7_passes_74 : decode cX7_passes 74 = .ok (.aload_n 0, 1) := by decide +kernel
theorem dX7_passes_75 : decode cX7_passes 75 = .ok (.getfield 35, 3) := by decide +kernel
theorem dX7_passes_78 : decode cX7_passes 78 = .ok (.iload_n 3, 1) := by decide +kernel
theorem dX7_passes_79 : decode cX7_passes 79 = .ok (.dup2, 1) := by decide +kernel
theorem dX7_passes_80 : decode cX7_passes 80 = .ok (.iaload, 1) := by decide +kernel
theorem dX7_passes_81 : decode cX7_passes 81 = .ok (.aload_n 0, 1) := by decide +kernel
theorem dX7_passes_82 : decode cX7_passes 82 = .ok (.getfield 35, 3) := by decide +kernel
theorem dX7_passes_85 : decode cX7_passes 85 = .ok (.iload_n 3, 1) := by decide +kernel
theorem dX7_passes_86 : decode cX7_passes 86 = .ok (.iaload, 1) := by decide +kernel
theorem dX7_passes_87 : decode cX7_passes 87 = .ok (.bipush 30, 2) := by decide +kernel
theorem dX7_passes_89 : decode cX7_passes 89 = .ok (.if_icmp .ge 7, 3) := by decide +kernel
theorem dX7_passes_92 : decode cX7_passes 92 = .ok (.iconst 1, 1) := by decide +kernel
theorem dX7_passes_93 : decode cX7_passes 93 = .ok (.goto 4, 3) := by decide +kernel
theorem dX7_passes_96 : decode cX7_passes 96 = .ok (.iconst 0, 1) := by decide +kernel
theorem dX7_passes_97 : decode cX7_passes 97 = .ok (.iadd, 1) := by decide +kernel
theorem dX7_passes_98 : decode cX7_passes 98 = .ok (.iastore, 1) := by decide +kernel
theorem dX7_passes_99 : decode cX7_passes 99 = .ok (.aload_n 0, 1) := by decide +kernel
theorem dX7_passes_100 : decode cX7_passes 100 = .ok (.getfield 47, 3) := by decide +kernel
theorem dX7_passes_103 : decode cX7_passes 103 = .ok (.iload_n 3, 1) := by decide +kernel
theorem dX7_passes_104 : decode cX7_passes 104 = .ok (.dup2, 1) := by decide +kernel
theorem dX7_passes_105 : decode cX7_passes 105 = .ok (.iaload, 1) := by decide +kernel
theorem dX7_passes_106 : decode cX7_passes 106 = .ok (.aload_n 0, 1) := by decide +kernel
theorem dX7_passes_107 : decode cX7_passes 107 = .ok (.getfield 47, 3) := by decide +kernel
theorem dX7_passes_110 : decode cX7_passes 110 = .ok (.iload_n 3, 1) := by decide +kernel
theorem dX7_passes_111 : decode cX7_passes 111 = .ok (.iaload, 1) := by decide +kernel
theorem dX7_passes_112 : decode cX7_passes 112 = .ok (.ifCond .le 7, 3) := by decide +kernel
theorem dX7_passes_115 : decode cX7_passes 115 = .ok (.iconst 1, 1) := by decide +kernel
theorem dX7_passes_116 : decode cX7_passes 116 = .ok (.goto 4, 3) := by decide +kernel
theorem dX7_passes_119 : decode cX7_passes 119 = .ok (.iconst 0, 1) := by decide +kernel
theorem dX7_passes_120 : decode cX7_passes 120 = .ok (.isub, 1) := by decide +kernel
theorem dX7_passes_121 : decode cX7_passes 121 = .ok (.iastore, 1) := by decide +kernel
theorem dX7_passes_122 : decode cX7_passes 122 = .ok (.iinc 2 1, 3) := by decide +kernel
theorem dX7_passes_125 : decode cX7_passes 125 = .ok (.goto (-123), 3) := by decide +kernel
theorem dX7_passes_128 : decode cX7_passes 128 = .ok (.aload_n 0, 1) := by decide +kernel
theorem dX7_passes_129 : decode cX7_passes 129 = .ok (.dup, 1) := by decide +kernel
theorem dX7_passes_130 : decode cX7_passes 130 = .ok (.getfield 177, 3) := by decide +kernel
theorem dX7_passes_133 : decode cX7_passes 133 = .ok (.iconst 1, 1) := by decide +kernel
theorem dX7_passes_134 : decode cX7_passes 134 = .ok (.iadd, 1) := by decide +kernel
theorem dX7_passes_135 : decode cX7_passes 135 = .ok (.putfield 177, 3) := by decide +kernel
theorem dX7_passes_138 : decode cX7_passes 138 = .ok (.return_, 1) := by decide +kernel
abbrev k_X7_passes : zK := (cX7_passes, 4, RX7, none, ({ frames := 0, cells := 0, slots := 0, locals := 0 } : Room))
theorem zc_X7_passes : zcal yX7_passes k_X7_passes.1 k_X7_passes.2.1 k_X7_passes.2.2.2.1 1 := ⟨tw_code_yX7_passes, tw_i_TollForHesitatorsModel, ⟨by decide +kernel, by decide +kernel⟩, by decide +kernel⟩
theorem zv_X7_passes : Cond.instanceMethod yX7_passes ∈ TS ∧ Cond.selects RX7 yX7_passes yX7_passes ∈ TS := ⟨tw_inst_yX7_passes, tw_s_yX7_passes⟩
def v_X7_passes_r : Nat → mT → Int32 → Int32 → mT
  | 0, M, _, _ => M
  | n + 1, M, v1, v2 => if v1 ≤ v2 then msf M 5 ((M.1 5) + 1) else kk (if ((M.2.1 34) v2.toNatClampNeg) = 1 then msa (msa M 14 (upd (M.2.1 14) ((M.2.1 33) v2.toNatClampNeg).toNatClampNeg (((M.2.1 14) ((M.2.1 33) v2.toNatClampNeg).toNatClampNeg) - (M.1 3)))) 15 (upd (M.2.1 15) ((M.2.1 33) v2.toNatClampNeg).toNatClampNeg (((M.2.1 15) ((M.2.1 33) v2.toNatClampNeg).toNatClampNeg) + (if 30 ≤ ((M.2.1 15) ((M.2.1 33) v2.toNatClampNeg).toNatClampNeg) then 0 else 1))) else M41) (fun M49 : mT => v_X7_passes_r n M49 v1 (v2 + 1))
def p_X7_passes_r : Nat → mT → Int32 → Int32 → Prop
  | 0, _, _, _ => False
  | n + 1, M, v1, v2 => if v1 ≤ v2 then True else vp_in v2 7 ∧ (vp_in v2 7 ∧ ((if ((M.2.1 34) v2.toNatClampNeg) = 1 then (vp_in ((M.2.1 33) v2.toNatClampNeg) 7) ∧ ((vp_in ((M.2.1 33) v2.toNatClampNeg) 7) ∧ ((vp_in ((M.2.1 33) v2.toNatClampNeg) 7) ∧ ((vp_in ((M.2.1 33) v2.toNatClampNeg) 7) ∧ (vp_in ((M.2.1 33) v2.toNatClampNeg) 7)))) else vp_in v2 7 ∧ (if ((M.2.1 34) v2.toNatClampNeg) = 0 then (vp_in ((M.2.1 33) v2.toNatClampNeg) 7) ∧ ((vp_in ((M.2.1 33) v2.toNatClampNeg) 7) ∧ ((vp_in ((M.2.1 33) v2.toNatClampNeg) 7) ∧ ((vp_in ((M.2.1 33) v2.toNatClampNeg) 7) ∧ ((vp_in ((M.2.1 33) v2.toNatClampNeg) 7) ∧ (vp_in ((M.2.1 33) v2.toNatClampNeg) 7))))) else True)) ∧ (kk (if ((M.2.1 34) v2.toNatClampNeg) = 1 then msa (msa M 14 (upd (M.2.1 14) ((M.2.1 33) v2.toNatClampNeg).toNatClampNeg (((M.2.1 14) ((M.2.1 33) v2.toNatClampNeg).toNatClampNeg) - (M.1 3)))) 15 (upd (M.2.1 15) ((M.2.1 33) v2.toNatClampNeg).toNatClampNeg (((M.2.1 15) ((M.2.1 33) v2.toNatClampNeg).toNatClampNeg) + (if 30 ≤ ((M.2.1 15) ((M.2.1 33) v2.toNatClampNeg).toNatClampNeg) then 0 else 1))) else M41) (fun M49 : mT => p_X7_passes_r n M49 v1 (v2 + 1)))))
set_option maxHeartbeats 4000000 in
theorem w_X7_passes {G : zG} {Γ : zT} {a : Nat → Nat} {A : Nat → Prop} {res : mT} {X : zX} (hw : wk X A Γ.2.2.1.1.heap) (hQ : zQ Γ (Qwv G (fun w => w = mW G a res) A) 0 0 A) : ∀ n : Nat, (∀ (M : mT) (v1 : Int32) (v2 : Int32), p_X7_passes_r n M v1 v2 → v_X7_passes_r n M v1 v2 = res → Z k_X7_passes G Γ (wr G A Γ.2.2.1.1.heap (mW G a M)) 0 0 [(0, .ref (a 0)), (1, .int v1), (2, .int v2)] 2 []) := by
  intro n
  induction n with
  | zero => exact fun M v1 v2 hp => absurd hp (by rw [p_X7_passes_r]; exact not_false)
  | succ n ih =>
    intro M v1 v2 hp hv
    rw [p_X7_passes_r] at hp
    rw [v_X7_passes_r] at hv
    refine z_iload_n dX7_passes_2 rfl ?_
    refine z_iload_n dX7_passes_3 rfl ?_
    refine z_icmp_ge (tgt := 128) dX7_passes_4 (by decide) (fun c1 => ?_) (fun c1 => ?_)
    · have hp := ip_t hp c1; have hv := it_t hv c1
      refine z_aload_n dX7_passes_128 rfl ?_
      refine z_dup dX7_passes_129 rfl ?_
      refine mg_5 (v := M.1 5) wr_P rfl rfl dX7_passes_130 ?_
      refine z_iconst (v := 1) dX7_passes_133 rfl ?_
      refine z_iadd dX7_passes_134 ?_
      refine mp_5 (v := (M.1 5) + 1) rfl dX7_passes_135 ?_
      subst hv; exact z_vret_W hQ rfl rfl rfl rfl dX7_passes_138
    · have hp := ip_f hp c1; have hv := it_f hv c1
      refine z_aload_n dX7_passes_7 rfl ?_
      refine mg_33 wr_P rfl dX7_passes_8 ?_
      refine z_iload_n dX7_passes_11 rfl ?_
      obtain ⟨q26, hp⟩ := hp
      refine ml_33 (x := (M.2.1 33) v2.toNatClampNeg) wr_P q26 rfl dX7_passes_12 ?_
      refine z_istore_n (lv' := [(3, .int ((M.2.1 33) v2.toNatClampNeg)), (0, .ref (a 0)), (1, .int v1), (2, .int v2)]) dX7_passes_13 (Nat.le_of_ble_eq_true rfl) rfl ?_
      refine z_aload_n dX7_passes_14 rfl ?_
      refine mg_34 wr_P rfl dX7_passes_15 ?_
      refine z_iload_n dX7_passes_18 rfl ?_
      obtain ⟨q27, hp⟩ := hp
      refine ml_34 (x := (M.2.1 34) v2.toNatClampNeg) wr_P q27 rfl dX7_passes_19 ?_
      refine z_iconst (v := 1) dX7_passes_20 rfl ?_
      obtain ⟨hpm, hp⟩ := hp
      have J50 : ∀ M49 : mT, M49 = (if ((M.2.1 34) v2.toNatClampNeg) = 1 then msa (msa M 14 (upd (M.2.1 14) ((M.2.1 33) v2.toNatClampNeg).toNatClampNeg (((M.2.1 14) ((M.2.1 33) v2.toNatClampNeg).toNatClampNeg) - (M.1 3)))) 15 (upd (M.2.1 15) ((M.2.1 33) v2.toNatClampNeg).toNatClampNeg (((M.2.1 15) ((M.2.1 33) v2.toNatClampNeg).toNatClampNeg) + (if 30 ≤ ((M.2.1 15) ((M.2.1 33) v2.toNatClampNeg).toNatClampNeg) then 0 else 1))) else M41) → Z k_X7_passes G Γ (wr G A Γ.2.2.1.1.heap (mW G a M49)) 0 0 [(3, .int ((M.2.1 33) v2.toNatClampNeg)), (0, .ref (a 0)), (1, .int v1), (2, .int v2)] 122 [] := by
        intro M49 eM49
        have hp := kk_pq hp eM49
        have hv := kk_vq hv eM49
        clear eM49
        refine z_iinc (v := v2 + 1) (lv' := [(2, .int (v2 + 1)), (3, .int ((M.2.1 33) v2.toNatClampNeg)), (0, .ref (a 0)), (1, .int v1)]) dX7_passes_122 3 rfl rfl (Nat.le_of_ble_eq_true rfl) rfl ?_
        refine z_goto (tgt := 2) dX7_passes_125 (by decide) ?_
        exact z_lv rfl ((ih) M49 v1 (v2 + 1) hp hv)
      refine z_icmp_ne (tgt := 65) dX7_passes_21 (by decide) (fun c28 => ?_) (fun c28 => ?_)
      · have hp := ip_f hpm c28
        refine z_aload_n dX7_passes_65 rfl ?_
        refine mg_34 wr_P rfl dX7_passes_66 ?_
        refine z_iload_n dX7_passes_69 rfl ?_
        obtain ⟨q29, hp⟩ := hp
        refine ml_34 (x := (M.2.1 34) v2.toNatClampNeg) wr_P q29 rfl dX7_passes_70 ?_
        have hpm := hp
        have J51 : ∀ M41 : mT, M41 = (if ((M.2.1 34) v2.toNatClampNeg) = 0 then msa (msa M 11 (upd (M.2.1 11) ((M.2.1 33) v2.toNatClampNeg).toNatClampNeg (((M.2.1 11) ((M.2.1 33) v2.toNatClampNeg).toNatClampNeg) + (if 30 ≤ ((M.2.1 11) ((M.2.1 33) v2.toNatClampNeg).toNatClampNeg) then 0 else 1)))) 15 (upd (M.2.1 15) ((M.2.1 33) v2.toNatClampNeg).toNatClampNeg (((M.2.1 15) ((M.2.1 33) v2.toNatClampNeg).toNatClampNeg) - (if ((M.2.1 15) ((M.2.1 33) v2.toNatClampNeg).toNatClampNeg) ≤ 0 then 0 else 1))) else M) → Z k_X7_passes G Γ (wr G A Γ.2.2.1.1.heap (mW G a M41)) 0 0 [(3, .int ((M.2.1 33) v2.toNatClampNeg)), (0, .ref (a 0)), (1, .int v1), (2, .int v2)] 122 [] := by
          intro M41 eM41
          have hv := kk_vq hv eM41
          clear eM41
          exact z_lv rfl (J50 M41 (if_neg c28).symm)
        refine z_if_ne (tgt := 122) dX7_passes_71 (by decide) (fun c30 => ?_) (fun c30 => ?_)
        · have hp := ip_f hpm c30
          exact z_lv rfl (J51 M (if_neg c30).symm)
        · have hp := ip_t hpm c30
          refine z_aload_n dX7_passes_74 rfl ?_
          refine mg_11 wr_P rfl dX7_passes_75 ?_
          refine z_iload_n dX7_passes_78 rfl ?_
          refine z_dup2_11 dX7_passes_79 rfl rfl ?_
          obtain ⟨q31, hp⟩ := hp
          refine ml_11 (x := (M.2.1 11) ((M.2.1 33) v2.toNatClampNeg).toNatClampNeg) wr_P q31 rfl dX7_passes_80 ?_
          refine z_aload_n dX7_passes_81 rfl ?_
          refine mg_11 wr_P rfl dX7_passes_82 ?_
          refine z_iload_n dX7_passes_85 rfl ?_
          obtain ⟨q32, hp⟩ := hp
          refine ml_11 (x := (M.2.1 11) ((M.2.1 33) v2.toNatClampNeg).toNatClampNeg) wr_P q32 rfl dX7_passes_86 ?_
          refine z_bipush (v := 30) dX7_passes_87 rfl ?_
          have J52 : ∀ m34 : Int32, m34 = (if 30 ≤ ((M.2.1 11) ((M.2.1 33) v2.toNatClampNeg).toNatClampNeg) then 0 else 1) → Z k_X7_passes G Γ (wr G A Γ.2.2.1.1.heap (mW G a M)) 0 0 [(3, .int ((M.2.1 33) v2.toNatClampNeg)), (0, .ref (a 0)), (1, .int v1), (2, .int v2)] 97 [.int m34, .int ((M.2.1 11) ((M.2.1 33) v2.toNatClampNeg).toNatClampNeg), .int ((M.2.1 33) v2.toNatClampNeg), .ref (a 11)] := by
            intro m34 em34
            subst em34
            refine z_iadd dX7_passes_97 ?_
            obtain ⟨q35, hp⟩ := hp
            refine ms_11 (F := upd (M.2.1 11) ((M.2.1 33) v2.toNatClampNeg).toNatClampNeg (((M.2.1 11) ((M.2.1 33) v2.toNatClampNeg).toNatClampNeg) + (if 30 ≤ ((M.2.1 11) ((M.2.1 33) v2.toNatClampNeg).toNatClampNeg) then 0 else 1))) q35 rfl dX7_passes_98 ?_
            refine z_aload_n dX7_passes_99 rfl ?_
            refine mg_15 wr_P rfl dX7_passes_100 ?_
            refine z_iload_n dX7_passes_103 rfl ?_
            refine z_dup2_11 dX7_passes_104 rfl rfl ?_
            obtain ⟨q36, hp⟩ := hp
            refine ml_15 (x := (M.2.1 15) ((M.2.1 33) v2.toNatClampNeg).toNatClampNeg) wr_P q36 rfl dX7_passes_105 ?_
            refine z_aload_n dX7_passes_106 rfl ?_
            refine mg_15 wr_P rfl dX7_passes_107 ?_
            refine z_iload_n dX7_passes_110 rfl ?_
            obtain ⟨q37, hp⟩ := hp
            refine ml_15 (x := (M.2.1 15) ((M.2.1 33) v2.toNatClampNeg).toNatClampNeg) wr_P q37 rfl dX7_passes_111 ?_
            have J53 : ∀ m39 : Int32, m39 = (if ((M.2.1 15) ((M.2.1 33) v2.toNatClampNeg).toNatClampNeg) ≤ 0 then 0 else 1) → Z k_X7_passes G Γ (wr G A Γ.2.2.1.1.heap (mW G a (msa M 11 (upd (M.2.1 11) ((M.2.1 33) v2.toNatClampNeg).toNatClampNeg (((M.2.1 11) ((M.2.1 33) v2.toNatClampNeg).toNatClampNeg) + (if 30 ≤ ((M.2.1 11) ((M.2.1 33) v2.toNatClampNeg).toNatClampNeg) then 0 else 1)))))) 0 0 [(3, .int ((M.2.1 33) v2.toNatClampNeg)), (0, .ref (a 0)), (1, .int v1), (2, .int v2)] 120 [.int m39, .int ((M.2.1 15) ((M.2.1 33) v2.toNatClampNeg).toNatClampNeg), .int ((M.2.1 33) v2.toNatClampNeg), .ref (a 15)] := by
              intro m39 em39
              subst em39
              refine z_isub dX7_passes_120 ?_
              have q40 := hp
              refine ms_15 (F := upd (M.2.1 15) ((M.2.1 33) v2.toNatClampNeg).toNatClampNeg (((M.2.1 15) ((M.2.1 33) v2.toNatClampNeg).toNatClampNeg) - (if ((M.2.1 15) ((M.2.1 33) v2.toNatClampNeg).toNatClampNeg) ≤ 0 then 0 else 1))) q40 rfl dX7_passes_121 ?_
              exact z_lv rfl (J51 (msa (msa M 11 (upd (M.2.1 11) ((M.2.1 33) v2.toNatClampNeg).toNatClampNeg (((M.2.1 11) ((M.2.1 33) v2.toNatClampNeg).toNatClampNeg) + (if 30 ≤ ((M.2.1 11) ((M.2.1 33) v2.toNatClampNeg).toNatClampNeg) then 0 else 1)))) 15 (upd (M.2.1 15) ((M.2.1 33) v2.toNatClampNeg).toNatClampNeg (((M.2.1 15) ((M.2.1 33) v2.toNatClampNeg).toNatClampNeg) - (if ((M.2.1 15) ((M.2.1 33) v2.toNatClampNeg).toNatClampNeg) ≤ 0 then 0 else 1)))) (if_pos c30).symm)
            refine z_if_le (tgt := 119) dX7_passes_112 (by decide) (fun c38 => ?_) (fun c38 => ?_)
            · skip
              refine z_iconst (v := 0) dX7_passes_119 rfl ?_
              exact z_lv rfl (J53 0 (if_pos c38).symm)
            · skip
              refine z_iconst (v := 1) dX7_passes_115 rfl ?_
              refine z_goto (tgt := 120) dX7_passes_116 (by decide) ?_
              exact z_lv rfl (J53 1 (if_neg c38).symm)
          refine z_icmp_ge (tgt := 96) dX7_passes_89 (by decide) (fun c33 => ?_) (fun c33 => ?_)
          · skip
            refine z_iconst (v := 0) dX7_passes_96 rfl ?_
            exact z_lv rfl (J52 0 (if_pos c33).symm)
          · skip
            refine z_iconst (v := 1) dX7_passes_92 rfl ?_
            refine z_goto (tgt := 97) dX7_passes_93 (by decide) ?_
            exact z_lv rfl (J52 1 (if_neg c33).symm)
      · have hp := ip_t hpm c28
        refine z_aload_n dX7_passes_24 rfl ?_
        refine mg_14 wr_P rfl dX7_passes_25 ?_
        refine z_iload_n dX7_passes_28 rfl ?_
        refine z_dup2_11 dX7_passes_29 rfl rfl ?_
        obtain ⟨q42, hp⟩ := hp
        refine ml_14 (x := (M.2.1 14) ((M.2.1 33) v2.toNatClampNeg).toNatClampNeg) wr_P q42 rfl dX7_passes_30 ?_
        refine z_aload_n dX7_passes_31 rfl ?_
        refine mg_3 (v := M.1 3) wr_P rfl rfl dX7_passes_32 ?_
        refine z_isub dX7_passes_35 ?_
        obtain ⟨q43, hp⟩ := hp
        refine ms_14 (F := upd (M.2.1 14) ((M.2.1 33) v2.toNatClampNeg).toNatClampNeg (((M.2.1 14) ((M.2.1 33) v2.toNatClampNeg).toNatClampNeg) - (M.1 3))) q43 rfl dX7_passes_36 ?_
        refine z_aload_n dX7_passes_37 rfl ?_
        refine mg_15 wr_P rfl dX7_passes_38 ?_
        refine z_iload_n dX7_passes_41 rfl ?_
        refine z_dup2_11 dX7_passes_42 rfl rfl ?_
        obtain ⟨q44, hp⟩ := hp
        refine ml_15 (x := (M.2.1 15) ((M.2.1 33) v2.toNatClampNeg).toNatClampNeg) wr_P q44 rfl dX7_passes_43 ?_
        refine z_aload_n dX7_passes_44 rfl ?_
        refine mg_15 wr_P rfl dX7_passes_45 ?_
        refine z_iload_n dX7_passes_48 rfl ?_
        obtain ⟨q45, hp⟩ := hp
        refine ml_15 (x := (M.2.1 15) ((M.2.1 33) v2.toNatClampNeg).toNatClampNeg) wr_P q45 rfl dX7_passes_49 ?_
        refine z_bipush (v := 30) dX7_passes_50 rfl ?_
        have J54 : ∀ m47 : Int32, m47 = (if 30 ≤ ((M.2.1 15) ((M.2.1 33) v2.toNatClampNeg).toNatClampNeg) then 0 else 1) → Z k_X7_passes G Γ (wr G A Γ.2.2.1.1.heap (mW G a (msa M 14 (upd (M.2.1 14) ((M.2.1 33) v2.toNatClampNeg).toNatClampNeg (((M.2.1 14) ((M.2.1 33) v2.toNatClampNeg).toNatClampNeg) - (M.1 3)))))) 0 0 [(3, .int ((M.2.1 33) v2.toNatClampNeg)), (0, .ref (a 0)), (1, .int v1), (2, .int v2)] 60 [.int m47, .int ((M.2.1 15) ((M.2.1 33) v2.toNatClampNeg).toNatClampNeg), .int ((M.2.1 33) v2.toNatClampNeg), .ref (a 15)] := by
          intro m47 em47
          subst em47
          refine z_iadd dX7_passes_60 ?_
          have q48 := hp
          refine ms_15 (F := upd (M.2.1 15) ((M.2.1 33) v2.toNatClampNeg).toNatClampNeg (((M.2.1 15) ((M.2.1 33) v2.toNatClampNeg).toNatClampNeg) + (if 30 ≤ ((M.2.1 15) ((M.2.1 33) v2.toNatClampNeg).toNatClampNeg) then 0 else 1))) q48 rfl dX7_passes_61 ?_
          refine z_goto (tgt := 122) dX7_passes_62 (by decide) ?_
          exact z_lv rfl (J50 (msa (msa M 14 (upd (M.2.1 14) ((M.2.1 33) v2.toNatClampNeg).toNatClampNeg (((M.2.1 14) ((M.2.1 33) v2.toNatClampNeg).toNatClampNeg) - (M.1 3)))) 15 (upd (M.2.1 15) ((M.2.1 33) v2.toNatClampNeg).toNatClampNeg (((M.2.1 15) ((M.2.1 33) v2.toNatClampNeg).toNatClampNeg) + (if 30 ≤ ((M.2.1 15) ((M.2.1 33) v2.toNatClampNeg).toNatClampNeg) then 0 else 1)))) (if_pos c28).symm)
        refine z_icmp_ge (tgt := 59) dX7_passes_52 (by decide) (fun c46 => ?_) (fun c46 => ?_)
        · skip
          refine z_iconst (v := 0) dX7_passes_59 rfl ?_
          exact z_lv rfl (J54 0 (if_pos c46).symm)
        · skip
          refine z_iconst (v := 1) dX7_passes_55 rfl ?_
          refine z_goto (tgt := 60) dX7_passes_56 (by decide) ?_
          exact z_lv rfl (J54 1 (if_neg c46).symm)
def v_X7_passes (M : mT) (x1 : Int32) : mT := v_X7_passes_r 200 M x1 0
def p_X7_passes (M : mT) (x1 : Int32) : Prop := p_X7_passes_r 200 M x1 0
set_option maxHeartbeats 4000000 in
theorem c_X7_passes {l : Launch} (G : zG) (a : Nat → Nat) {X : zX} (hX : XOK X) (sz : Nat) (M : mT) (x1 : Int32) (hp : p_X7_passes M x1) : Met l yX7_passes (.code yX7_passes k_X7_passes.1 k_X7_passes.2.1 k_X7_passes.2.2.2.1 :: TS) k_X7_passes.2.2.2.2 (Pz G [.ref (a 0), .int x1] (Fw G X (mW G a M) sz)) (Qwv G (fun w => w = mW G a (v_X7_passes M x1)) (va_A (mW G a M) sz)) 0 0 (va_A (mW G a M) sz) := by
  refine zmet (by decide +kernel) rfl rfl (fun Γ hl0 hQ hN hF => ?_)
  refine z_start hX hF (fun hw => ?_)
  generalize va_A (mW G a M) sz = A at hQ hw ⊢
  obtain ⟨res, hv⟩ : ∃ res, v_X7_passes M x1 = res := ⟨_, rfl⟩
  rw [hv] at hQ
  unfold v_X7_passes at hv
  unfold p_X7_passes at hp
  show Z k_X7_passes G Γ _ 0 0 [(0, .ref (a 0)), (1, .int x1)] 0 []
  refine z_iconst (v := 0) dX7_passes_0 rfl ?_
  refine z_istore_n (lv' := [(2, .int 0), (0, .ref (a 0)), (1, .int x1)]) dX7_passes_1 (Nat.le_of_ble_eq_true rfl) rfl ?_
  exact z_lv rfl ((w_X7_passes hw hQ 200) M x1 0 hp hv)
theorem dX7_done_0 : decode cX7_done 0 = .ok (.aload_n 0, 1) := by decide +kernel
theorem dX7_done_1 : decode cX7_done 1 = .ok (.iload_n 1, 1) := by decide +kernel
theorem dX7_done_2 : decode cX7_done 2 = .ok (.iload_n 2, 1) := by decide +kernel
theorem dX7_done_3 : decode cX7_done 3 = .ok (.invokevirtual 266, 3) := by decide +kernel
theorem dX7_done_6 : decode cX7_done 6 = .ok (.istore_n 3, 1) := by decide +kernel
theorem dX7_done_7 : decode cX7_done 7 = .ok (.iload_n 3, 1) := by decide +kernel
theorem dX7_done_8 : decode cX7_done 8 = .ok (.ifCond .ne 16, 3) := by decide +kernel
theorem dX7_done_11 : decode cX7_done 11 = .ok (.aload_n 0, 1) := by decide +kernel
theorem dX7_done_12 : decode cX7_done 12 = .ok (.iload_n 1, 1) := by decide +kernel
theorem dX7_done_13 : decode cX7_done 13 = .ok (.iload_n 2, 1) := by decide +kernel
theorem dX7_done_14 : decode cX7_done 14 = .ok (.invokevirtual 269, 3) := by decide +kernel
theorem dX7_done_17 : decode cX7_done 17 = .ok (.iconst (-1), 1) := by decide +kernel
theorem dX7_done_18 : decode cX7_done 18 = .ok (.if_icmp .eq 6, 3) := by decide +kernel
theorem dX7_done_21 : decode cX7_done 21 = .ok (.bipush (-6), 2) := by decide +kernel
theorem dX7_done_23 : decode cX7_done 23 = .ok (.istore_n 3, 1) := by decide +kernel
theorem dX7_done_24 : decode cX7_done 24 = .ok (.iload_n 3, 1) := by decide +kernel
theorem dX7_done_25 : decode cX7_done 25 = .ok (.ifCond .eq 9, 3) := by decide +kernel
theorem dX7_done_28 : decode cX7_done 28 = .ok (.aload_n 0, 1) := by decide +kernel
theorem dX7_done_29 : decode cX7_done 29 = .ok (.iload_n 3, 1) := by decide +kernel
theorem dX7_done_30 : decode cX7_done 30 = .ok (.invokevirtual 106, 3) := by decide +kernel
theorem dX7_done_33 : decode cX7_done 33 = .ok (.ireturn, 1) := by decide +kernel
theorem dX7_done_34 : decode cX7_done 34 = .ok (.aload_n 0, 1) := by decide +kernel
theorem dX7_done_35 : decode cX7_done 35 = .ok (.iload_n 2, 1) := by decide +kernel
theorem dX7_done_36 : decode cX7_done 36 = .ok (.invokevirtual 272, 3) := by decide +kernel
theorem dX7_done_39 : decode cX7_done 39 = .ok (.aload_n 0, 1) := by decide +kernel
theorem dX7_done_40 : decode cX7_done 40 = .ok (.getfield 177, 3) := by decide +kernel
theorem dX7_done_43 : decode cX7_done 43 = .ok (.ireturn, 1) := by decide +kernel
abbrev k_X7_done : zK := (cX7_done, 4, RX7, (some .int), ({ frames := 5, cells := 0, slots := 0, locals := 123 } : Room))
theorem zc_X7_done : zcal yX7_done k_X7_done.1 k_X7_done.2.1 k_X7_done.2.2.2.1 2 := ⟨tw_code_yX7_done, tw_i_TollForHesitatorsModel, ⟨by decide +kernel, by decide +kernel⟩, by decide +kernel⟩
theorem zv_X7_done : Cond.instanceMethod yX7_done ∈ TS ∧ Cond.selects RX7 yX7_done yX7_done ∈ TS := ⟨tw_inst_yX7_done, tw_s_yX7_done⟩
def v_X7_done (M : mT) (x1 : Int32) (x2 : Int32) : Int32 × mT := kk (if (v_X7_barsOfDay M x1 x2) = 0 then (v_X7_wrongIn M x1 x2).2 else M) (fun M7 : mT => if (if (v_X7_barsOfDay M x1 x2) = 0 then (if ((v_X7_wrongIn M x1 x2).1) = (-1) then (v_X7_barsOfDay M x1 x2) else (-6)) else (v_X7_barsOfDay M x1 x2)) = 0 then kk (v_X7_passes M7 x2) (fun q11 : mT => (q11.1 5, q11)) else kk (v_X7_no M7 (if (v_X7_barsOfDay M x1 x2) = 0 then (if ((v_X7_wrongIn M x1 x2).1) = (-1) then (v_X7_barsOfDay M x1 x2) else (-6)) else (v_X7_barsOfDay M x1 x2))) (fun q13 : Int32 × mT => (q13.1, q13.2)))
def p_X7_done (M : mT) (x1 : Int32) (x2 : Int32) : Prop := p_X7_barsOfDay M x1 x2 ∧ ((if (v_X7_barsOfDay M x1 x2) = 0 then p_X7_wrongIn M x1 x2 else True) ∧ (kk (if (v_X7_barsOfDay M x1 x2) = 0 then (v_X7_wrongIn M x1 x2).2 else M) (fun M7 : mT => if (if (v_X7_barsOfDay M x1 x2) = 0 then (if ((v_X7_wrongIn M x1 x2).1) = (-1) then (v_X7_barsOfDay M x1 x2) else (-6)) else (v_X7_barsOfDay M x1 x2)) = 0 then p_X7_passes M7 x2 else p_X7_no M7 (if (v_X7_barsOfDay M x1 x2) = 0 then (if ((v_X7_wrongIn M x1 x2).1) = (-1) then (v_X7_barsOfDay M x1 x2) else (-6)) else (v_X7_barsOfDay M x1 x2)))))
set_option maxHeartbeats 4000000 in
theorem c_X7_done {l : Launch} (G : zG) (a : Nat → Nat) {X : zX} (hX : XOK X) (sz : Nat) (M : mT) (x1 : Int32) (x2 : Int32) (hp : p_X7_done M x1 x2) : Met l yX7_done (.code yX7_done k_X7_done.1 k_X7_done.2.1 k_X7_done.2.2.2.1 :: TS) k_X7_done.2.2.2.2 (Pz G [.ref (a 0), .int x1, .int x2] (Fw G X (mW G a M) sz)) (Qwi G (fun r w => r = (v_X7_done M x1 x2).1 ∧ w = mW G a (v_X7_done M x1 x2).2) (va_A (mW G a M) sz)) 0 0 (va_A (mW G a M) sz) := by
  refine zmet (by decide +kernel) rfl rfl (fun Γ hl0 hQ hN hF => ?_)
  refine z_start hX hF (fun hw => ?_)
  generalize va_A (mW G a M) sz = A at hQ hw ⊢
  obtain ⟨res, hv⟩ : ∃ res, v_X7_done M x1 x2 = res := ⟨_, rfl⟩
  rw [hv] at hQ
  unfold v_X7_done at hv
  unfold p_X7_done at hp
  show Z k_X7_done G Γ _ 0 0 [(0, .ref (a 0)), (1, .int x1), (2, .int x2)] 0 []
  refine z_aload_n dX7_done_0 rfl ?_
  refine z_iload_n dX7_done_1 rfl ?_
  refine z_iload_n dX7_done_2 rfl ?_
  obtain ⟨q1, hp⟩ := hp
  refine z_cvi (c_X7_barsOfDay G a M x1 x2 q1) zc_X7_barsOfDay zv_X7_barsOfDay tw_m_RX7_266 (mrec wr_P) wr_P (zroom_of rfl) rfl (Nat.le_of_ble_eq_true rfl) dX7_done_3 ?_
  refine z_istore_n (lv' := [(3, .int (v_X7_barsOfDay M x1 x2)), (0, .ref (a 0)), (1, .int x1), (2, .int x2)]) dX7_done_6 (Nat.le_of_ble_eq_true rfl) rfl ?_
  refine z_iload_n dX7_done_7 rfl ?_
  obtain ⟨hpm, hp⟩ := hp
  have J14 : ∀ M7 : mT, M7 = (if (v_X7_barsOfDay M x1 x2) = 0 then (v_X7_wrongIn M x1 x2).2 else M) → ∀ m8 : Int32, m8 = (if (v_X7_barsOfDay M x1 x2) = 0 then (if ((v_X7_wrongIn M x1 x2).1) = (-1) then (v_X7_barsOfDay M x1 x2) else (-6)) else (v_X7_barsOfDay M x1 x2)) → Z k_X7_done G Γ (wr G A Γ.2.2.1.1.heap (mW G a M7)) 0 0 [(3, .int m8), (0, .ref (a 0)), (1, .int x1), (2, .int x2)] 24 [] := by
    intro M7 eM7 m8 em8
    have hp := kk_pq hp eM7
    have hv := kk_vq hv eM7
    clear eM7
    subst em8
    refine z_iload_n dX7_done_24 rfl ?_
    refine z_if_eq (tgt := 34) dX7_done_25 (by decide) (fun c9 => ?_) (fun c9 => ?_)
    · have hp := ip_t hp c9; have hv := it_t hv c9
      refine z_aload_n dX7_done_34 rfl ?_
      refine z_iload_n dX7_done_35 rfl ?_
      have q10 := hp
      refine z_cavv hw (fun sz => c_X7_passes G a hw.1 sz M7 x2 q10) zc_X7_passes zv_X7_passes tw_m_RX7_272 (mrec wr_P) (zroom_of rfl) rfl (Nat.le_of_ble_eq_true rfl) dX7_done_36 ?_
      intro w0 hw0
      generalize v_X7_passes M7 x2 = q11 at hv hw0
      have hv := kk_v hv
      subst hw0
      refine z_aload_n dX7_done_39 rfl ?_
      refine mg_5 (v := q11.1 5) wr_P rfl rfl dX7_done_40 ?_
      subst hv; exact z_iret_W hQ rfl rfl rfl ⟨rfl, rfl⟩ dX7_done_43
    · have hp := ip_f hp c9; have hv := it_f hv c9
      refine z_aload_n dX7_done_28 rfl ?_
      refine z_iload_n dX7_done_29 rfl ?_
      have q12 := hp
      refine z_cavi hw (fun sz => c_X7_no G a hw.1 sz M7 (if (v_X7_barsOfDay M x1 x2) = 0 then (if ((v_X7_wrongIn M x1 x2).1) = (-1) then (v_X7_barsOfDay M x1 x2) else (-6)) else (v_X7_barsOfDay M x1 x2)) q12) zc_X7_no zv_X7_no tw_m_RX7_106 (mrec wr_P) (zroom_of rfl) rfl (Nat.le_of_ble_eq_true rfl) dX7_done_30 ?_
      intro r0 w0 hw0
      generalize v_X7_no M7 (if (v_X7_barsOfDay M x1 x2) = 0 then (if ((v_X7_wrongIn M x1 x2).1) = (-1) then (v_X7_barsOfDay M x1 x2) else (-6)) else (v_X7_barsOfDay M x1 x2)) = q13 at hv hw0
      have hv := kk_v hv
      obtain ⟨rfl, rfl⟩ := hw0
      subst hv; exact z_iret_W hQ rfl rfl rfl ⟨rfl, rfl⟩ dX7_done_33
  refine z_if_ne (tgt := 24) dX7_done_8 (by decide) (fun c2 => ?_) (fun c2 => ?_)
  · have hp := ip_f hpm c2
    exact z_lv rfl (J14 M (if_neg c2).symm (v_X7_barsOfDay M x1 x2) (if_neg c2).symm)
  · have hp := ip_t hpm c2
    refine z_aload_n dX7_done_11 rfl ?_
    refine z_iload_n dX7_done_12 rfl ?_
    refine z_iload_n dX7_done_13 rfl ?_
    have q3 := hp
    refine z_cavi hw (fun sz => c_X7_wrongIn G a hw.1 sz M x1 x2 q3) zc_X7_wrongIn zv_X7_wrongIn tw_m_RX7_269 (mrec wr_P) (zroom_of rfl) rfl (Nat.le_of_ble_eq_true rfl) dX7_done_14 ?_
    intro r0 w0 hw0; obtain ⟨rfl, rfl⟩ := hw0
    refine z_iconst (v := (-1)) dX7_done_17 rfl ?_
    have J15 : ∀ m6 : Int32, m6 = (if ((v_X7_wrongIn M x1 x2).1) = (-1) then (v_X7_barsOfDay M x1 x2) else (-6)) → Z k_X7_done G Γ (wr G A Γ.2.2.1.1.heap (mW G a ((v_X7_wrongIn M x1 x2).2))) 0 0 [(3, .int m6), (0, .ref (a 0)), (1, .int x1), (2, .int x2)] 24 [] := by
      intro m6 em6
      subst em6
      exact z_lv rfl (J14 ((v_X7_wrongIn M x1 x2).2) (if_pos c2).symm (if ((v_X7_wrongIn M x1 x2).1) = (-1) then (v_X7_barsOfDay M x1 x2) else (-6)) (if_pos c2).symm)
    refine z_icmp_eq (tgt := 24) dX7_done_18 (by decide) (fun c5 => ?_) (fun c5 => ?_)
    · skip
      exact z_lv rfl (J15 (v_X7_barsOfDay M x1 x2) (if_pos c5).symm)
    · skip
      refine z_bipush (v := (-6)) dX7_done_21 rfl ?_
      refine z_istore_n (lv' := [(3, .int (-6)), (0, .ref (a 0)), (1, .int x1), (2, .int x2)]) dX7_done_23 (Nat.le_of_ble_eq_true rfl) rfl ?_
      exact z_lv rfl (J15 (-6) (if_neg c5).symm)
theorem dX7_draw_0 : decode cX7_draw 0 = .ok (.aload_n 0, 1) := by decide +kernel
theorem dX7_draw_1 : decode cX7_draw 1 = .ok (.aload_n 0, 1) := by decide +kernel
theorem dX7_draw_2 : decode cX7_draw 2 = .ok (.getfield 19, 3) := by decide +kernel
theorem dX7_draw_5 : decode cX7_draw 5 = .ok (.ldc_w 275, 3) := by decide +kernel
theorem dX7_draw_8 : decode cX7_draw 8 = .ok (.imul, 1) := by decide +kernel
theorem dX7_draw_9 : decode cX7_draw 9 = .ok (.sipush 12345, 3) := by decide +kernel
theorem dX7_draw_12 : decode cX7_draw 12 = .ok (.iadd, 1) := by decide +kernel
theorem dX7_draw_13 : decode cX7_draw 13 = .ok (.putfield 19, 3) := by decide +kernel
theorem dX7_draw_16 : decode cX7_draw 16 = .ok (.aload_n 0, 1) := by decide +kernel
theorem dX7_draw_17 : decode cX7_draw 17 = .ok (.getfield 19, 3) := by decide +kernel
theorem dX7_draw_20 : decode cX7_draw 20 = .ok (.bipush 16, 2) := by decide +kernel
theorem dX7_draw_22 : decode cX7_draw 22 = .ok (.iushr, 1) := by decide +kernel
theorem dX7_draw_23 : decode cX7_draw 23 = .ok (.iload_n 1, 1) := by decide +kernel
theorem dX7_draw_24 : decode cX7_draw 24 = .ok (.irem, 1) := by decide +kernel
theorem dX7_draw_25 : decode cX7_draw 25 = .ok (.ireturn, 1) := by decide +kernel
abbrev k_X7_draw : zK := (cX7_draw, 2, RX7, (some .int), ({ frames := 0, cells := 0, slots := 0, locals := 0 } : Room))
theorem zc_X7_draw : zcal yX7_draw k_X7_draw.1 k_X7_draw.2.1 k_X7_draw.2.2.2.1 1 := ⟨tw_code_yX7_draw, tw_i_TollForHesitatorsModel, ⟨by decide +kernel, by decide +kernel⟩, by decide +kernel⟩
theorem zv_X7_draw : Cond.instanceMethod yX7_draw ∈ TS ∧ Cond.selects RX7 yX7_draw yX7_draw ∈ TS := ⟨tw_inst_yX7_draw, tw_s_yX7_draw⟩
def v_X7_draw (M : mT) (x1 : Int32) : Int32 × mT := ((((((M.1 6) * 1103515245) + 12345).toUInt32 >>> (16.toUInt32 &&& Int32.toUInt32 31)).toInt32) - (((((M.1 6) * 1103515245) + 12345).toUInt32 >>> (16.toUInt32 &&& Int32.toUInt32 31)).toInt32) / x1 * x1, msf M 6 (((M.1 6) * 1103515245) + 12345))
def p_X7_draw (M : mT) (x1 : Int32) : Prop := ¬ x1 = 0
set_option maxHeartbeats 4000000 in
theorem c_X7_draw {l : Launch} (G : zG) (a : Nat → Nat) {X : zX} (hX : XOK X) (sz : Nat) (M : mT) (x1 : Int32) (hp : p_X7_draw M x1) : Met l yX7_draw (.code yX7_draw k_X7_draw.1 k_X7_draw.2.1 k_X7_draw.2.2.2.1 :: TS) k_X7_draw.2.2.2.2 (Pz G [.ref (a 0), .int x1] (Fw G X (mW G a M) sz)) (Qwi G (fun r w => r = (v_X7_draw M x1).1 ∧ w = mW G a (v_X7_draw M x1).2) (va_A (mW G a M) sz)) 0 0 (va_A (mW G a M) sz) := by
  refine zmet (by decide +kernel) rfl rfl (fun Γ hl0 hQ hN hF => ?_)
  refine z_start hX hF (fun hw => ?_)
  generalize va_A (mW G a M) sz = A at hQ hw ⊢
  obtain ⟨res, hv⟩ : ∃ res, v_X7_draw M x1 = res := ⟨_, rfl⟩
  rw [hv] at hQ
  unfold v_X7_draw at hv
  unfold p_X7_draw at hp
  show Z k_X7_draw G Γ _ 0 0 [(0, .ref (a 0)), (1, .int x1)] 0 []
  refine z_aload_n dX7_draw_0 rfl ?_
  refine z_aload_n dX7_draw_1 rfl ?_
  refine mg_6 (v := M.1 6) wr_P rfl rfl dX7_draw_2 ?_
  refine z_ldc tw_c_RX7_275 dX7_draw_5 ?_
  refine z_imul dX7_draw_8 ?_
  refine z_sipush (v := 12345) dX7_draw_9 rfl ?_
  refine z_iadd dX7_draw_12 ?_
  refine mp_6 (v := ((M.1 6) * 1103515245) + 12345) rfl dX7_draw_13 ?_
  refine z_aload_n dX7_draw_16 rfl ?_
  refine mg_6 (v := ((M.1 6) * 1103515245) + 12345) wr_P rfl rfl dX7_draw_17 ?_
  refine z_bipush (v := 16) dX7_draw_20 rfl ?_
  refine z_iushr dX7_draw_22 ?_
  refine z_iload_n dX7_draw_23 rfl ?_
  have q1 := hp
  refine z_irem dX7_draw_24 q1 ?_
  subst hv; exact z_iret_W hQ rfl rfl rfl ⟨rfl, rfl⟩ dX7_draw_25
theorem dX7_days_0 : decode cX7_days 0 = .ok (.aload_n 0, 1) := by decide +kernel
theorem dX7_days_1 : decode cX7_days 1 = .ok (.getfield 99, 3) := by decide +kernel
theorem dX7_days_4 : decode cX7_days 4 = .ok (.ifCond .ne 10, 3) := by decide +kernel
theorem dX7_days_7 : decode cX7_days 7 = .ok (.aload_n 0, 1) := by decide +kernel
theorem dX7_days_8 : decode cX7_days 8 = .ok (.bipush (-5), 2) := by decide +kernel
theorem dX7_days_10 : decode cX7_days 10 = .ok (.invokevirtual 106, 3) := by decide +kernel
theorem dX7_days_13 : decode cX7_days 13 = .ok (.ireturn, 1) := by decide +kernel
theorem dX7_days_14 : decode cX7_days 14 = .ok (.aload_n 0, 1) := by decide +kernel
theorem dX7_days_15 : decode cX7_days 15 = .ok (.iload_n 1, 1) := by decide +kernel
theorem dX7_days_16 : decode cX7_days 16 = .ok (.iconst 1, 1) := by decide +kernel
theorem dX7_days_17 : decode cX7_days 17 = .ok (.bipush 60, 2) := by decide +kernel
theorem dX7_days_19 : decode cX7_days 19 = .ok (.invokevirtual 116, 3) := by decide +kernel
theorem dX7_days_22 : decode cX7_days 22 = .ok (.ifCond .ne 10, 3) := by decide +kernel
theorem dX7_days_25 : decode cX7_days 25 = .ok (.aload_n 0, 1) := by decide +kernel
theorem dX7_days_26 : decode cX7_days 26 = .ok (.bipush (-6), 2) := by decide +kernel
theorem dX7_days_28 : decode cX7_days 28 = .ok (.invokevirtual 106, 3) := by decide +kernel
theorem dX7_days_31 : decode cX7_days 31 = .ok (.ireturn, 1) := by decide +kernel
theorem dX7_days_32 : decode cX7_days 32 = .ok (.iconst 0, 1) := by decide +kernel
theorem dX7_days_33 : decode cX7_days 33 = .ok (.istore_n 2, 1) := by decide +kernel
theorem dX7_days_34 : decode cX7_days 34 = .ok (.iconst 0, 1) := by decide +kernel
theorem dX7_days_35 : decode cX7_days 35 = .ok (.istore_n 3, 1) := by decide +kernel
theorem dX7_days_36 : decode cX7_days 36 = .ok (.iload_n 3, 1) := by decide +kernel
theorem dX7_days_37 : decode cX7_days 37 = .ok (.iload_n 1, 1) := by decide +kernel
theorem dX7_days_38 : decode cX7_days 38 = .ok (.if_icmp .ge 74, 3) := by decide +kernel
theorem dX7_days_41 : decode cX7_days 41 = .ok (.aload_n 0, 1) := by decide +kernel
theorem dX7_days_42 : decode cX7_days 42 = .ok (.aload_n 0, 1) := by decide +kernel
theorem dX7_days_43 : decode cX7_days 43 = .ok (.bipush 10, 2) := by decide +kernel
theorem dX7_days_45 : decode cX7_days 45 = .ok (.invokevirtual 276, 3) := by decide +kernel
theorem dX7_days_48 : decode cX7_days 48 = .ok (.putfield 124, 3) := by decide +kernel
theorem dX7_days_51 : decode cX7_days 51 = .ok (.iconst 0, 1) := by decide +kernel
theorem dX7_days_52 : decode cX7_days 52 = .ok (.istore 4, 2) := by decide +kernel
theorem dX7_days_54 : decode cX7_days 54 = .ok (.iload 4, 2) := by decide +kernel
theorem dX7_days_56 : decode cX7_days 56 = .ok (.aload_n 0, 1) := by decide +kernel
theorem dX7_days_57 : decode cX7_days 57 = .ok (.getfield 99, 3) := by decide +kernel
theorem dX7_days_60 : decode cX7_days 60 = .ok (.if_icmp .ge 18, 3) := by decide +kernel
theorem dX7_days_63 : decode cX7_days 63 = .ok (.aload_n 0, 1) := by decide +kernel
theorem dX7_days_64 : decode cX7_days 64 = .ok (.getfield 87, 3) := by decide +kernel
theorem dX7_days_67 : decode cX7_days 67 = .ok (.iload 4, 2) := by decide +kernel
theorem dX7_days_69 : decode cX7_days 69 = .ok (.iload 4, 2) := by decide +kernel
theorem dX7_days_71 : decode cX7_days 71 = .ok (.iastore, 1) := by decide +kernel
theorem dX7_days_72 : decode cX7_days 72 = .ok (.iinc 4 1, 3) := by decide +kernel
theorem dX7_days_75 : decode cX7_days 75 = .ok (.goto (-21), 3) := by decide +kernel
theorem dX7_days_78 : decode cX7_days 78 = .ok (.aload_n 0, 1) := by decide +kernel
theorem dX7_days_79 : decode cX7_days 79 = .ok (.aload_n 0, 1) := by decide +kernel
theorem dX7_days_80 : decode cX7_days 80 = .ok (.getfield 99, 3) := by decide +kernel
theorem dX7_days_83 : decode cX7_days 83 = .ok (.invokevirtual 236, 3) := by decide +kernel
theorem dX7_days_86 : decode cX7_days 86 = .ok (.iload_n 2, 1) := by decide +kernel
theorem dX7_days_87 : decode cX7_days 87 = .ok (.aload_n 0, 1) := by decide +kernel
theorem dX7_days_88 : decode cX7_days 88 = .ok (.getfield 223, 3) := by decide +kernel
theorem dX7_days_91 : decode cX7_days 91 = .ok (.aload_n 0, 1) := by decide +kernel
theorem dX7_days_92 : decode cX7_days 92 = .ok (.getfield 13, 3) := by decide +kernel
theorem dX7_days_95 : decode cX7_days 95 = .ok (.imul, 1) := by decide +kernel
theorem dX7_days_96 : decode cX7_days 96 = .ok (.iadd, 1) := by decide +kernel
theorem dX7_days_97 : decode cX7_days 97 = .ok (.istore_n 2, 1) := by decide +kernel
theorem dX7_days_98 : decode cX7_days 98 = .ok (.aload_n 0, 1) := by decide +kernel
theorem dX7_days_99 : decode cX7_days 99 = .ok (.aload_n 0, 1) := by decide +kernel
theorem dX7_days_100 : decode cX7_days 100 = .ok (.getfield 99, 3) := by decide +kernel
theorem dX7_days_103 : decode cX7_days 103 = .ok (.invokevirtual 272, 3) := by decide +kernel
theorem dX7_days_106 : decode cX7_days 106 = .ok (.iinc 3 1, 3) := by decide +kernel
theorem dX7_days_109 : decode cX7_days 109 = .ok (.goto (-73), 3) := by decide +kernel
theorem dX7_days_112 : decode cX7_days 112 = .ok (.iload_n 2, 1) := by decide +kernel
theorem dX7_days_113 : decode cX7_days 113 = .ok (.ireturn, 1) := by decide +kernel
abbrev k_X7_days : zK := (cX7_days, 5, RX7, (some .int), ({ frames := 5, cells := 0, slots := 0, locals := 120 } : Room))
theorem zc_X7_days : zcal yX7_days k_X7_days.1 k_X7_days.2.1 k_X7_days.2.2.2.1 1 := ⟨tw_code_yX7_days, tw_i_TollForHesitatorsModel, ⟨by decide +kernel, by decide +kernel⟩, by decide +kernel⟩
theorem zv_X7_days : Cond.instanceMethod yX7_days ∈ TS ∧ Cond.selects RX7 yX7_days yX7_days ∈ TS := ⟨tw_inst_yX7_days, tw_s_yX7_days⟩
def v_X7_days_r : Nat → Nat → mT → Int32 → Int32 → Int32 → Int32 → Int32 × mT
  | 0, _, M, _, _, _, _ => (0, M)
  | n + 1, l, M, v1, v2, v3, v4 => if l = 0 then if v1 ≤ v3 then (v2, M) else kk (v_X7_draw M 10) (fun q11 : Int32 × mT => v_X7_days_r n 1 (msf q11.2 2 q11.1) v1 v2 v3 0) else if (M.1 0) ≤ v4 then kk (v_X7_comes M (M.1 0)) (fun q15 : mT => kk (v_X7_passes q15 (q15.1 0)) (fun q17 : mT => v_X7_days_r n 0 q17 v1 (v2 + ((q15.1 38) * (q15.1 3))) (v3 + 1) 0)) else v_X7_days_r n 1 (msa M 33 (upd (M.2.1 33) v4.toNatClampNeg v4)) v1 v2 v3 (v4 + 1)
def p_X7_days_r : Nat → Nat → mT → Int32 → Int32 → Int32 → Int32 → Prop
  | 0, _, _, _, _, _, _ => False
  | n + 1, l, M, v1, v2, v3, v4 => if l = 0 then if v1 ≤ v3 then True else p_X7_draw M 10 ∧ (kk (v_X7_draw M 10) (fun q11 : Int32 × mT => p_X7_days_r n 1 (msf q11.2 2 q11.1) v1 v2 v3 0)) else if (M.1 0) ≤ v4 then (p_X7_comes M (M.1 0)) ∧ (kk (v_X7_comes M (M.1 0)) (fun q15 : mT => (p_X7_passes q15 (q15.1 0)) ∧ (kk (v_X7_passes q15 (q15.1 0)) (fun q17 : mT => p_X7_days_r n 0 q17 v1 (v2 + ((q15.1 38) * (q15.1 3))) (v3 + 1) 0)))) else vp_in v4 7 ∧ (p_X7_days_r n 1 (msa M 33 (upd (M.2.1 33) v4.toNatClampNeg v4)) v1 v2 v3 (v4 + 1))
set_option maxHeartbeats 4000000 in
theorem w_X7_days {G : zG} {Γ : zT} {a : Nat → Nat} {A : Nat → Prop} {res : Int32 × mT} {X : zX} (hw : wk X A Γ.2.2.1.1.heap) (hQ : zQ Γ (Qwi G (fun r w => r = res.1 ∧ w = mW G a res.2) A) 0 0 A) : ∀ n : Nat, (∀ (M : mT) (v1 : Int32) (v2 : Int32) (v3 : Int32) (v4 : Int32), p_X7_days_r n 0 M v1 v2 v3 v4 → v_X7_days_r n 0 M v1 v2 v3 v4 = res → Z k_X7_days G Γ (wr G A Γ.2.2.1.1.heap (mW G a M)) 0 0 [(0, .ref (a 0)), (1, .int v1), (2, .int v2), (3, .int v3)] 36 []) ∧ (∀ (M : mT) (v1 : Int32) (v2 : Int32) (v3 : Int32) (v4 : Int32), p_X7_days_r n 1 M v1 v2 v3 v4 → v_X7_days_r n 1 M v1 v2 v3 v4 = res → Z k_X7_days G Γ (wr G A Γ.2.2.1.1.heap (mW G a M)) 0 0 [(0, .ref (a 0)), (1, .int v1), (2, .int v2), (3, .int v3), (4, .int v4)] 54 []) := by
  intro n
  induction n with
  | zero => exact ⟨fun M v1 v2 v3 v4 hp => absurd hp (by rw [p_X7_days_r]; exact not_false), fun M v1 v2 v3 v4 hp => absurd hp (by rw [p_X7_days_r]; exact not_false)⟩
  | succ n ih =>
    refine ⟨?_, ?_⟩
    · intro M v1 v2 v3 v4 hp hv
      rw [p_X7_days_r] at hp
      rw [v_X7_days_r] at hv
      have hp := ip_t hp rfl
      have hv := it_t hv rfl
      refine z_iload_n dX7_days_36 rfl ?_
      refine z_iload_n dX7_days_37 rfl ?_
      refine z_icmp_ge (tgt := 112) dX7_days_38 (by decide) (fun c7 => ?_) (fun c7 => ?_)
      · have hp := ip_t hp c7; have hv := it_t hv c7
        refine z_iload_n dX7_days_112 rfl ?_
        subst hv; exact z_iret_W hQ rfl rfl rfl ⟨rfl, rfl⟩ dX7_days_113
      · have hp := ip_f hp c7; have hv := it_f hv c7
        refine z_aload_n dX7_days_41 rfl ?_
        refine z_aload_n dX7_days_42 rfl ?_
        refine z_bipush (v := 10) dX7_days_43 rfl ?_
        obtain ⟨q10, hp⟩ := hp
        refine z_cavi hw (fun sz => c_X7_draw G a hw.1 sz M 10 q10) zc_X7_draw zv_X7_draw tw_m_RX7_276 (mrec wr_P) (zroom_of rfl) rfl (Nat.le_of_ble_eq_true rfl) dX7_days_45 ?_
        intro r0 w0 hw0
        generalize v_X7_draw M 10 = q11 at hp hv hw0
        have hp := kk_p hp
        have hv := kk_v hv
        obtain ⟨rfl, rfl⟩ := hw0
        refine mp_2 (v := q11.1) rfl dX7_days_48 ?_
        refine z_iconst (v := 0) dX7_days_51 rfl ?_
        refine z_istore (lv' := [(4, .int 0), (0, .ref (a 0)), (1, .int v1), (2, .int v2), (3, .int v3)]) dX7_days_52 (Nat.le_of_ble_eq_true rfl) rfl ?_
        exact z_lv rfl ((ih).2 (msf q11.2 2 q11.1) v1 v2 v3 0 hp hv)
    · intro M v1 v2 v3 v4 hp hv
      rw [p_X7_days_r] at hp
      rw [v_X7_days_r] at hv
      have hp := ip_f hp (by decide)
      have hv := it_f hv (by decide)
      refine z_iload dX7_days_54 rfl ?_
      refine z_aload_n dX7_days_56 rfl ?_
      refine mg_0 (v := M.1 0) wr_P rfl rfl dX7_days_57 ?_
      refine z_icmp_ge (tgt := 78) dX7_days_60 (by decide) (fun c12 => ?_) (fun c12 => ?_)
      · have hp := ip_t hp c12; have hv := it_t hv c12
        refine z_aload_n dX7_days_78 rfl ?_
        refine z_aload_n dX7_days_79 rfl ?_
        refine mg_0 (v := M.1 0) wr_P rfl rfl dX7_days_80 ?_
        obtain ⟨q14, hp⟩ := hp
        refine z_cavv hw (fun sz => c_X7_comes G a hw.1 sz M (M.1 0) q14) zc_X7_comes zv_X7_comes tw_m_RX7_236 (mrec wr_P) (zroom_of rfl) rfl (Nat.le_of_ble_eq_true rfl) dX7_days_83 ?_
        intro w0 hw0
        generalize v_X7_comes M (M.1 0) = q15 at hp hv hw0
        have hp := kk_p hp
        have hv := kk_v hv
        subst hw0
        refine z_iload_n dX7_days_86 rfl ?_
        refine z_aload_n dX7_days_87 rfl ?_
        refine mg_38 (v := q15.1 38) wr_P rfl rfl dX7_days_88 ?_
        refine z_aload_n dX7_days_91 rfl ?_
        refine mg_3 (v := q15.1 3) wr_P rfl rfl dX7_days_92 ?_
        refine z_imul dX7_days_95 ?_
        refine z_iadd dX7_days_96 ?_
        refine z_istore_n (lv' := [(2, .int (v2 + ((q15.1 38) * (q15.1 3)))), (0, .ref (a 0)), (1, .int v1), (3, .int v3), (4, .int v4)]) dX7_days_97 (Nat.le_of_ble_eq_true rfl) rfl ?_
        refine z_aload_n dX7_days_98 rfl ?_
        refine z_aload_n dX7_days_99 rfl ?_
        refine mg_0 (v := q15.1 0) wr_P rfl rfl dX7_days_100 ?_
        obtain ⟨q16, hp⟩ := hp
        refine z_cavv hw (fun sz => c_X7_passes G a hw.1 sz q15 (q15.1 0) q16) zc_X7_passes zv_X7_passes tw_m_RX7_272 (mrec wr_P) (zroom_of rfl) rfl (Nat.le_of_ble_eq_true rfl) dX7_days_103 ?_
        intro w0 hw0
        generalize v_X7_passes q15 (q15.1 0) = q17 at hp hv hw0
        have hp := kk_p hp
        have hv := kk_v hv
        subst hw0
        refine z_iinc (v := v3 + 1) (lv' := [(3, .int (v3 + 1)), (2, .int (v2 + ((q15.1 38) * (q15.1 3)))), (0, .ref (a 0)), (1, .int v1), (4, .int v4)]) dX7_days_106 3 rfl rfl (Nat.le_of_ble_eq_true rfl) rfl ?_
        refine z_goto (tgt := 36) dX7_days_109 (by decide) ?_
        exact z_lv rfl ((ih).1 q17 v1 (v2 + ((q15.1 38) * (q15.1 3))) (v3 + 1) 0 hp hv)
      · have hp := ip_f hp c12; have hv := it_f hv c12
        refine z_aload_n dX7_days_63 rfl ?_
        refine mg_33 wr_P rfl dX7_days_64 ?_
        refine z_iload dX7_days_67 rfl ?_
        refine z_iload dX7_days_69 rfl ?_
        obtain ⟨q18, hp⟩ := hp
        refine ms_33 (F := upd (M.2.1 33) v4.toNatClampNeg v4) q18 rfl dX7_days_71 ?_
        refine z_iinc (v := v4 + 1) (lv' := [(4, .int (v4 + 1)), (0, .ref (a 0)), (1, .int v1), (2, .int v2), (3, .int v3)]) dX7_days_72 4 rfl rfl (Nat.le_of_ble_eq_true rfl) rfl ?_
        refine z_goto (tgt := 54) dX7_days_75 (by decide) ?_
        exact z_lv rfl ((ih).2 (msa M 33 (upd (M.2.1 33) v4.toNatClampNeg v4)) v1 v2 v3 (v4 + 1) hp hv)
def v_X7_days (M : mT) (x1 : Int32) : Int32 × mT := if (M.1 0) = 0 then kk (v_X7_no M (-5)) (fun q6 : Int32 × mT => (q6.1, q6.2)) else if (v_X7_isFrom M x1 1 60) = 0 then kk (v_X7_no M (-6)) (fun q4 : Int32 × mT => (q4.1, q4.2)) else v_X7_days_r 200 0 M x1 0 0 0
def p_X7_days (M : mT) (x1 : Int32) : Prop := if (M.1 0) = 0 then p_X7_no M (-5) else if (v_X7_isFrom M x1 1 60) = 0 then p_X7_no M (-6) else p_X7_days_r 200 0 M x1 0 0 0
set_option maxHeartbeats 4000000 in
theorem c_X7_days {l : Launch} (G : zG) (a : Nat → Nat) {X : zX} (hX : XOK X) (sz : Nat) (M : mT) (x1 : Int32) (hp : p_X7_days M x1) : Met l yX7_days (.code yX7_days k_X7_days.1 k_X7_days.2.1 k_X7_days.2.2.2.1 :: TS) k_X7_days.2.2.2.2 (Pz G [.ref (a 0), .int x1] (Fw G X (mW G a M) sz)) (Qwi G (fun r w => r = (v_X7_days M x1).1 ∧ w = mW G a (v_X7_days M x1).2) (va_A (mW G a M) sz)) 0 0 (va_A (mW G a M) sz) := by
  refine zmet (by decide +kernel) rfl rfl (fun Γ hl0 hQ hN hF => ?_)
  refine z_start hX hF (fun hw => ?_)
  generalize va_A (mW G a M) sz = A at hQ hw ⊢
  obtain ⟨res, hv⟩ : ∃ res, v_X7_days M x1 = res := ⟨_, rfl⟩
  rw [hv] at hQ
  unfold v_X7_days at hv
  unfold p_X7_days at hp
  show Z k_X7_days G Γ _ 0 0 [(0, .ref (a 0)), (1, .int x1)] 0 []
  refine z_aload_n dX7_days_0 rfl ?_
  refine mg_0 (v := M.1 0) wr_P rfl rfl dX7_days_1 ?_
  refine z_if_ne (tgt := 14) dX7_days_4 (by decide) (fun c1 => ?_) (fun c1 => ?_)
  · have hp := ip_f hp c1; have hv := it_f hv c1
    refine z_aload_n dX7_days_14 rfl ?_
    refine z_iload_n dX7_days_15 rfl ?_
    refine z_iconst (v := 1) dX7_days_16 rfl ?_
    refine z_bipush (v := 60) dX7_days_17 rfl ?_
    refine z_cvi (c_X7_isFrom G a M x1 1 60 ) zc_X7_isFrom zv_X7_isFrom tw_m_RX7_116 (mrec wr_P) wr_P (zroom_of rfl) rfl (Nat.le_of_ble_eq_true rfl) dX7_days_19 ?_
    refine z_if_ne (tgt := 32) dX7_days_22 (by decide) (fun c2 => ?_) (fun c2 => ?_)
    · have hp := ip_f hp c2; have hv := it_f hv c2
      refine z_iconst (v := 0) dX7_days_32 rfl ?_
      refine z_istore_n (lv' := [(2, .int 0), (0, .ref (a 0)), (1, .int x1)]) dX7_days_33 (Nat.le_of_ble_eq_true rfl) rfl ?_
      refine z_iconst (v := 0) dX7_days_34 rfl ?_
      refine z_istore_n (lv' := [(3, .int 0), (2, .int 0), (0, .ref (a 0)), (1, .int x1)]) dX7_days_35 (Nat.le_of_ble_eq_true rfl) rfl ?_
      exact z_lv rfl ((w_X7_days hw hQ 200).1 M x1 0 0 0 hp hv)
    · have hp := ip_t hp c2; have hv := it_t hv c2
      refine z_aload_n dX7_days_25 rfl ?_
      refine z_bipush (v := (-6)) dX7_days_26 rfl ?_
      have q3 := hp
      refine z_cavi hw (fun sz => c_X7_no G a hw.1 sz M (-6) q3) zc_X7_no zv_X7_no tw_m_RX7_106 (mrec wr_P) (zroom_of rfl) rfl (Nat.le_of_ble_eq_true rfl) dX7_days_28 ?_
      intro r0 w0 hw0
      generalize v_X7_no M (-6) = q4 at hv hw0
      have hv := kk_v hv
      obtain ⟨rfl, rfl⟩ := hw0
      subst hv; exact z_iret_W hQ rfl rfl rfl ⟨rfl, rfl⟩ dX7_days_31
  · have hp := ip_t hp c1; have hv := it_t hv c1
    refine z_aload_n dX7_days_7 rfl ?_
    refine z_bipush (v := (-5)) dX7_days_8 rfl ?_
    have q5 := hp
    refine z_cavi hw (fun sz => c_X7_no G a hw.1 sz M (-5) q5) zc_X7_no zv_X7_no tw_m_RX7_106 (mrec wr_P) (zroom_of rfl) rfl (Nat.le_of_ble_eq_true rfl) dX7_days_10 ?_
    intro r0 w0 hw0
    generalize v_X7_no M (-5) = q6 at hv hw0
    have hv := kk_v hv
    obtain ⟨rfl, rfl⟩ := hw0
    subst hv; exact z_iret_W hQ rfl rfl rfl ⟨rfl, rfl⟩ dX7_days_13
theorem dX7_seed_0 : decode cX7_seed 0 = .ok (.aload_n 0, 1) := by decide +kernel
theorem dX7_seed_1 : decode cX7_seed 1 = .ok (.getfield 19, 3) := by decide +kernel
theorem dX7_seed_4 : decode cX7_seed 4 = .ok (.istore_n 2, 1) := by decide +kernel
theorem dX7_seed_5 : decode cX7_seed 5 = .ok (.aload_n 0, 1) := by decide +kernel
theorem dX7_seed_6 : decode cX7_seed 6 = .ok (.iload_n 1, 1) := by decide +kernel
theorem dX7_seed_7 : decode cX7_seed 7 = .ok (.putfield 19, 3) := by decide +kernel
theorem dX7_seed_10 : decode cX7_seed 10 = .ok (.iload_n 2, 1) := by decide +kernel
theorem dX7_seed_11 : decode cX7_seed 11 = .ok (.ireturn, 1) := by decide +kernel
abbrev k_X7_seed : zK := (cX7_seed, 3, RX7, (some .int), ({ frames := 0, cells := 0, slots := 0, locals := 0 } : Room))
theorem zc_X7_seed : zcal yX7_seed k_X7_seed.1 k_X7_seed.2.1 k_X7_seed.2.2.2.1 1 := ⟨tw_code_yX7_seed, tw_i_TollForHesitatorsModel, ⟨by decide +kernel, by decide +kernel⟩, by decide +kernel⟩
theorem zv_X7_seed : Cond.instanceMethod yX7_seed ∈ TS ∧ Cond.selects RX7 yX7_seed yX7_seed ∈ TS := ⟨tw_inst_yX7_seed, tw_s_yX7_seed⟩
def v_X7_seed (M : mT) (x1 : Int32) : Int32 × mT := (M.1 6, msf M 6 x1)
set_option maxHeartbeats 4000000 in
theorem c_X7_seed {l : Launch} (G : zG) (a : Nat → Nat) {X : zX} (hX : XOK X) (sz : Nat) (M : mT) (x1 : Int32) : Met l yX7_seed (.code yX7_seed k_X7_seed.1 k_X7_seed.2.1 k_X7_seed.2.2.2.1 :: TS) k_X7_seed.2.2.2.2 (Pz G [.ref (a 0), .int x1] (Fw G X (mW G a M) sz)) (Qwi G (fun r w => r = (v_X7_seed M x1).1 ∧ w = mW G a (v_X7_seed M x1).2) (va_A (mW G a M) sz)) 0 0 (va_A (mW G a M) sz) := by
  refine zmet (by decide +kernel) rfl rfl (fun Γ hl0 hQ hN hF => ?_)
  refine z_start hX hF (fun hw => ?_)
  generalize va_A (mW G a M) sz = A at hQ hw ⊢
  obtain ⟨res, hv⟩ : ∃ res, v_X7_seed M x1 = res := ⟨_, rfl⟩
  rw [hv] at hQ
  unfold v_X7_seed at hv
  show Z k_X7_seed G Γ _ 0 0 [(0, .ref (a 0)), (1, .int x1)] 0 []
  refine z_aload_n dX7_seed_0 rfl ?_
  refine mg_6 (v := M.1 6) wr_P rfl rfl dX7_seed_1 ?_
  refine z_istore_n (lv' := [(2, .int (M.1 6)), (0, .ref (a 0)), (1, .int x1)]) dX7_seed_4 (Nat.le_of_ble_eq_true rfl) rfl ?_
  refine z_aload_n dX7_seed_5 rfl ?_
  refine z_iload_n dX7_seed_6 rfl ?_
  refine mp_6 (v := x1) rfl dX7_seed_7 ?_
  refine z_iload_n dX7_seed_10 rfl ?_
  subst hv; exact z_iret_W hQ rfl rfl rfl ⟨rfl, rfl⟩ dX7_seed_11
theorem dX7_body_0 : decode cX7_body 0 = .ok (.aload_n 0, 1) := by decide +kernel
theorem dX7_body_1 : decode cX7_body 1 = .ok (.getfield 279, 3) := by decide +kernel
theorem dX7_body_4 : decode cX7_body 4 = .ok (.bipush 20, 2) := by decide +kernel
theorem dX7_body_6 : decode cX7_body 6 = .ok (.if_icmp .ge 13, 3) := by decide +kernel
theorem dX7_body_9 : decode cX7_body 9 = .ok (.aload_n 0, 1) := by decide +kernel
theorem dX7_body_10 : decode cX7_body 10 = .ok (.getfield 96, 3) := by decide +kernel
theorem dX7_body_13 : decode cX7_body 13 = .ok (.aload_n 0, 1) := by decide +kernel
theorem dX7_body_14 : decode cX7_body 14 = .ok (.getfield 279, 3) := by decide +kernel
theorem dX7_body_17 : decode cX7_body 17 = .ok (.iload_n 1, 1) := by decide +kernel
theorem dX7_body_18 : decode cX7_body 18 = .ok (.iastore, 1) := by decide +kernel
theorem dX7_body_19 : decode cX7_body 19 = .ok (.aload_n 0, 1) := by decide +kernel
theorem dX7_body_20 : decode cX7_body 20 = .ok (.dup, 1) := by decide +kernel
theorem dX7_body_21 : decode cX7_body 21 = .ok (.getfield 279, 3) := by decide +kernel
theorem dX7_body_24 : decode cX7_body 24 = .ok (.iconst 1, 1) := by decide +kernel
theorem dX7_body_25 : decode cX7_body 25 = .ok (.iadd, 1) := by decide +kernel
theorem dX7_body_26 : decode cX7_body 26 = .ok (.putfield 279, 3) := by decide +kernel
theorem dX7_body_29 : decode cX7_body 29 = .ok (.return_, 1) := by decide +kernel
abbrev k_X7_body : zK := (cX7_body, 2, RX7, none, ({ frames := 0, cells := 0, slots := 0, locals := 0 } : Room))
theorem zc_X7_body : zcal yX7_body k_X7_body.1 k_X7_body.2.1 k_X7_body.2.2.2.1 1 := ⟨tw_code_yX7_body, tw_i_TollForHesitatorsModel, ⟨by decide +kernel, by decide +kernel⟩, by decide +kernel⟩
theorem zv_X7_body : Cond.instanceMethod yX7_body ∈ TS ∧ Cond.selects RX7 yX7_body yX7_body ∈ TS := ⟨tw_inst_yX7_body, tw_s_yX7_body⟩
def v_X7_body (M : mT) (x1 : Int32) : mT := kk (if 20 ≤ (M.1 43) then M else msa M 42 (upd (M.2.1 42) (M.1 43).toNatClampNeg x1)) (fun M3 : mT => msf M3 43 ((M3.1 43) + 1))
def p_X7_body (M : mT) (x1 : Int32) : Prop := if 20 ≤ (M.1 43) then True else vp_in (M.1 43) 20
set_option maxHeartbeats 4000000 in
theorem c_X7_body {l : Launch} (G : zG) (a : Nat → Nat) {X : zX} (hX : XOK X) (sz : Nat) (M : mT) (x1 : Int32) (hp : p_X7_body M x1) : Met l yX7_body (.code yX7_body k_X7_body.1 k_X7_body.2.1 k_X7_body.2.2.2.1 :: TS) k_X7_body.2.2.2.2 (Pz G [.ref (a 0), .int x1] (Fw G X (mW G a M) sz)) (Qwv G (fun w => w = mW G a (v_X7_body M x1)) (va_A (mW G a M) sz)) 0 0 (va_A (mW G a M) sz) := by
  refine zmet (by decide +kernel) rfl rfl (fun Γ hl0 hQ hN hF => ?_)
  refine z_start hX hF (fun hw => ?_)
  generalize va_A (mW G a M) sz = A at hQ hw ⊢
  obtain ⟨res, hv⟩ : ∃ res, v_X7_body M x1 = res := ⟨_, rfl⟩
  rw [hv] at hQ
  unfold v_X7_body at hv
  unfold p_X7_body at hp
  show Z k_X7_body G Γ _ 0 0 [(0, .ref (a 0)), (1, .int x1)] 0 []
  refine z_aload_n dX7_body_0 rfl ?_
  refine mg_43 (v := M.1 43) wr_P rfl rfl dX7_body_1 ?_
  refine z_bipush (v := 20) dX7_body_4 rfl ?_
  have hpm := hp
  have J4 : ∀ M3 : mT, M3 = (if 20 ≤ (M.1 43) then M else msa M 42 (upd (M.2.1 42) (M.1 43).toNatClampNeg x1)) → Z k_X7_body G Γ (wr G A Γ.2.2.1.1.heap (mW G a M3)) 0 0 [(0, .ref (a 0)), (1, .int x1)] 19 [] := by
    intro M3 eM3
    have hv := kk_vq hv eM3
    clear eM3
    refine z_aload_n dX7_body_19 rfl ?_
    refine z_dup dX7_body_20 rfl ?_
    refine mg_43 (v := M3.1 43) wr_P rfl rfl dX7_body_21 ?_
    refine z_iconst (v := 1) dX7_body_24 rfl ?_
    refine z_iadd dX7_body_25 ?_
    refine mp_43 (v := (M3.1 43) + 1) rfl dX7_body_26 ?_
    subst hv; exact z_vret_W hQ rfl rfl rfl rfl dX7_body_29
  refine z_icmp_ge (tgt := 19) dX7_body_6 (by decide) (fun c1 => ?_) (fun c1 => ?_)
  · have hp := ip_t hpm c1
    exact z_lv rfl (J4 M (if_pos c1).symm)
  · have hp := ip_f hpm c1
    refine z_aload_n dX7_body_9 rfl ?_
    refine mg_42 wr_P rfl dX7_body_10 ?_
    refine z_aload_n dX7_body_13 rfl ?_
    refine mg_43 (v := M.1 43) wr_P rfl rfl dX7_body_14 ?_
    refine z_iload_n dX7_body_17 rfl ?_
    have q2 := hp
    refine ms_42 (F := upd (M.2.1 42) (M.1 43).toNatClampNeg x1) q2 rfl dX7_body_18 ?_
    exact z_lv rfl (J4 (msa M 42 (upd (M.2.1 42) (M.1 43).toNatClampNeg x1)) (if_neg c1).symm)
theorem dX7_walking_0 : decode cX7_walking 0 = .ok (.aload_n 0, 1) := by decide +kernel
theorem dX7_walking_1 : decode cX7_walking 1 = .ok (.getfield 29, 3) := by decide +kernel
theorem dX7_walking_4 : decode cX7_walking 4 = .ok (.iload_n 1, 1) := by decide +kernel
theorem dX7_walking_5 : decode cX7_walking 5 = .ok (.iaload, 1) := by decide +kernel
theorem dX7_walking_6 : decode cX7_walking 6 = .ok (.istore_n 3, 1) := by decide +kernel
theorem dX7_walking_7 : decode cX7_walking 7 = .ok (.iload_n 2, 1) := by decide +kernel
theorem dX7_walking_8 : decode cX7_walking 8 = .ok (.istore 4, 2) := by decide +kernel
theorem dX7_walking_10 : decode cX7_walking 10 = .ok (.iload_n 3, 1) := by decide +kernel
theorem dX7_walking_11 : decode cX7_walking 11 = .ok (.iconst 3, 1) := by decide +kernel
theorem dX7_walking_12 : decode cX7_walking 12 = .ok (.if_icmp .ne 14, 3) := by decide +kernel
theorem dX7_walking_15 : decode cX7_walking 15 = .ok (.aload_n 0, 1) := by decide +kernel
theorem dX7_walking_16 : decode cX7_walking 16 = .ok (.bipush 40, 2) := by decide +kernel
theorem dX7_walking_18 : decode cX7_walking 18 = .ok (.invokevirtual 282, 3) := by decide +kernel
theorem dX7_walking_21 : decode cX7_walking 21 = .ok (.iload_n 2, 1) := by decide +kernel
theorem dX7_walking_22 : decode cX7_walking 22 = .ok (.iconst 1, 1) := by decide +kernel
theorem dX7_walking_23 : decode cX7_walking 23 = .ok (.iadd, 1) := by decide +kernel
theorem dX7_walking_24 : decode cX7_walking 24 = .ok (.istore 4, 2) := by decide +kernel
theorem dX7_walking_26 : decode cX7_walking 26 = .ok (.iload_n 3, 1) := by decide +kernel
theorem dX7_walking_27 : decode cX7_walking 27 = .ok (.iconst 2, 1) := by decide +kernel
theorem dX7_walking_28 : decode cX7_walking 28 = .ok (.if_icmp .eq 8, 3) := by decide +kernel
theorem dX7_walking_31 : decode cX7_walking 31 = .ok (.iload_n 3, 1) := by decide +kernel
theorem dX7_walking_32 : decode cX7_walking 32 = .ok (.iconst 3, 1) := by decide +kernel
theorem dX7_walking_33 : decode cX7_walking 33 = .ok (.if_icmp .ne 9, 3) := by decide +kernel
theorem dX7_walking_36 : decode cX7_walking 36 = .ok (.aload_n 0, 1) := by decide +kernel
theorem dX7_walking_37 : decode cX7_walking 37 = .ok (.bipush 30, 2) := by decide +kernel
theorem dX7_walking_39 : decode cX7_walking 39 = .ok (.invokevirtual 282, 3) := by decide +kernel
theorem dX7_walking_42 : decode cX7_walking 42 = .ok (.iload_n 3, 1) := by decide +kernel
theorem dX7_walking_43 : decode cX7_walking 43 = .ok (.iconst 4, 1) := by decide +kernel
theorem dX7_walking_44 : decode cX7_walking 44 = .ok (.if_icmp .eq 8, 3) := by decide +kernel
theorem dX7_walking_47 : decode cX7_walking 47 = .ok (.iload_n 3, 1) := by decide +kernel
theorem dX7_walking_48 : decode cX7_walking 48 = .ok (.iconst 5, 1) := by decide +kernel
theorem dX7_walking_49 : decode cX7_walking 49 = .ok (.if_icmp .ne 9, 3) := by decide +kernel
theorem dX7_walking_52 : decode cX7_walking 52 = .ok (.aload_n 0, 1) := by decide +kernel
theorem dX7_walking_53 : decode cX7_walking 53 = .ok (.bipush 51, 2) := by decide +kernel
theorem dX7_walking_55 : decode cX7_walking 55 = .ok (.invokevirtual 282, 3) := by decide +kernel
theorem dX7_walking_58 : decode cX7_walking 58 = .ok (.iload_n 3, 1) := by decide +kernel
theorem dX7_walking_59 : decode cX7_walking 59 = .ok (.bipush 6, 2) := by decide +kernel
theorem dX7_walking_61 : decode cX7_walking 61 = .ok (.if_icmp .ne 9, 3) := by decide +kernel
theorem dX7_walking_64 : decode cX7_walking 64 = .ok (.aload_n 0, 1) := by decide +kernel
theorem dX7_walking_65 : decode cX7_walking 65 = .ok (.bipush 70, 2) := by decide +kernel
theorem dX7_walking_67 : decode cX7_walking 67 = .ok (.invokevirtual 282, 3) := by decide +kernel
theorem dX7_walking_70 : decode cX7_walking 70 = .ok (.aload_n 0, 1) := by decide +kernel
theorem dX7_walking_71 : decode cX7_walking 71 = .ok (.bipush 10, 2) := by decide +kernel
theorem dX7_walking_73 : decode cX7_walking 73 = .ok (.invokevirtual 282, 3) := by decide +kernel
theorem dX7_walking_76 : decode cX7_walking 76 = .ok (.iload 4, 2) := by decide +kernel
theorem dX7_walking_78 : decode cX7_walking 78 = .ok (.iload_n 1, 1) := by decide +kernel
theorem dX7_walking_79 : decode cX7_walking 79 = .ok (.iadd, 1) := by decide +kernel
theorem dX7_walking_80 : decode cX7_walking 80 = .ok (.istore 5, 2) := by decide +kernel
theorem dX7_walking_82 : decode cX7_walking 82 = .ok (.iload_n 3, 1) := by decide +kernel
theorem dX7_walking_83 : decode cX7_walking 83 = .ok (.iconst 2, 1) := by decide +kernel
theorem dX7_walking_84 : decode cX7_walking 84 = .ok (.if_icmp .eq 8, 3) := by decide +kernel
theorem dX7_walking_87 : decode cX7_walking 87 = .ok (.iload_n 3, 1) := by decide +kernel
theorem dX7_walking_88 : decode cX7_walking 88 = .ok (.iconst 3, 1) := by decide +kernel
theorem dX7_walking_89 : decode cX7_walking 89 = .ok (.if_icmp .ne 8, 3) := by decide +kernel
theorem dX7_walking_92 : decode cX7_walking 92 = .ok (.iload 5, 2) := by decide +kernel
theorem dX7_walking_94 : decode cX7_walking 94 = .ok (.iconst 3, 1) := by decide +kernel
theorem dX7_walking_95 : decode cX7_walking 95 = .ok (.imul, 1) := by decide +kernel
theorem dX7_walking_96 : decode cX7_walking 96 = .ok (.ireturn, 1) := by decide +kernel
theorem dX7_walking_97 : decode cX7_walking 97 = .ok (.iload_n 3, 1) := by decide +kernel
theorem dX7_walking_98 : decode cX7_walking 98 = .ok (.iconst 4, 1) := by decide +kernel
theorem dX7_walking_99 : decode cX7_walking 99 = .ok (.if_icmp .eq 8, 3) := by decide +kernel
theorem dX7_walking_102 : decode cX7_walking 102 = .ok (.iload_n 3, 1) := by decide +kernel
theorem dX7_walking_103 : decode cX7_walking 103 = .ok (.iconst 5, 1) := by decide +kernel
theorem dX7_walking_104 : decode cX7_walking 104 = .ok (.if_icmp .ne 8, 3) := by decide +kernel
theorem dX7_walking_107 : decode cX7_walking 107 = .ok (.iload 5, 2) := by decide +kernel
theorem dX7_walking_109 : decode cX7_walking 109 = .ok (.iload_n 1, 1) := by decide +kernel
theorem dX7_walking_110 : decode cX7_walking 110 = .ok (.isub, 1) := by decide +kernel
theorem dX7_walking_111 : decode cX7_walking 111 = .ok (.ireturn, 1) := by decide +kernel
theorem dX7_walking_112 : decode cX7_walking 112 = .ok (.iload_n 3, 1) := by decide +kernel
theorem dX7_walking_113 : decode cX7_walking 113 = .ok (.bipush 6, 2) := by decide +kernel
theorem dX7_walking_115 : decode cX7_walking 115 = .ok (.if_icmp .ne 10, 3) := by decide +kernel
theorem dX7_walking_118 : decode cX7_walking 118 = .ok (.iload 5, 2) := by decide +kernel
theorem dX7_walking_120 : decode cX7_walking 120 = .ok (.iconst 2, 1) := by decide +kernel
theorem dX7_walking_121 : decode cX7_walking 121 = .ok (.imul, 1) := by decide +kernel
theorem dX7_walking_122 : decode cX7_walking 122 = .ok (.goto 5, 3) := by decide +kernel
theorem dX7_walking_125 : decode cX7_walking 125 = .ok (.iload 5, 2) := by decide +kernel
theorem dX7_walking_127 : decode cX7_walking 127 = .ok (.ireturn, 1) := by decide +kernel
abbrev k_X7_walking : zK := (cX7_walking, 6, RX7, (some .int), ({ frames := 1, cells := 0, slots := 0, locals := 21 } : Room))
theorem zc_X7_walking : zcal yX7_walking k_X7_walking.1 k_X7_walking.2.1 k_X7_walking.2.2.2.1 2 := ⟨tw_code_yX7_walking, tw_i_TollForHesitatorsModel, ⟨by decide +kernel, by decide +kernel⟩, by decide +kernel⟩
theorem zv_X7_walking : Cond.instanceMethod yX7_walking ∈ TS ∧ Cond.selects RX7 yX7_walking yX7_walking ∈ TS := ⟨tw_inst_yX7_walking, tw_s_yX7_walking⟩
def v_X7_walking (M : mT) (x1 : Int32) (x2 : Int32) : Int32 × mT := kk (if ((M.2.1 9) x1.toNatClampNeg) = 3 then v_X7_body M 40 else M) (fun M5 : mT => kk (if ((M.2.1 9) x1.toNatClampNeg) = 2 then v_X7_body M5 30 else M13) (fun M14 : mT => kk (if ((M.2.1 9) x1.toNatClampNeg) = 4 then v_X7_body M14 51 else M21) (fun M22 : mT => kk (if ((M.2.1 9) x1.toNatClampNeg) = 6 then v_X7_body M22 70 else M22) (fun M26 : mT => kk (v_X7_body M26 10) (fun q28 : mT => if ((M.2.1 9) x1.toNatClampNeg) = 2 then (((if ((M.2.1 9) x1.toNatClampNeg) = 3 then x2 + 1 else x2) + x1) * 3, q28) else if ((M.2.1 9) x1.toNatClampNeg) = 3 then (((if ((M.2.1 9) x1.toNatClampNeg) = 3 then x2 + 1 else x2) + x1) * 3, q28) else if ((M.2.1 9) x1.toNatClampNeg) = 4 then (((if ((M.2.1 9) x1.toNatClampNeg) = 3 then x2 + 1 else x2) + x1) - x1, q28) else if ((M.2.1 9) x1.toNatClampNeg) = 5 then (((if ((M.2.1 9) x1.toNatClampNeg) = 3 then x2 + 1 else x2) + x1) - x1, q28) else ((if ((M.2.1 9) x1.toNatClampNeg) = 6 then ((if ((M.2.1 9) x1.toNatClampNeg) = 3 then x2 + 1 else x2) + x1) * 2 else (if ((M.2.1 9) x1.toNatClampNeg) = 3 then x2 + 1 else x2) + x1), q28))))))
def p_X7_walking (M : mT) (x1 : Int32) (x2 : Int32) : Prop := vp_in x1 7 ∧ ((if ((M.2.1 9) x1.toNatClampNeg) = 3 then p_X7_body M 40 else True) ∧ (kk (if ((M.2.1 9) x1.toNatClampNeg) = 3 then v_X7_body M 40 else M) (fun M5 : mT => (if ((M.2.1 9) x1.toNatClampNeg) = 2 then p_X7_body M5 30 else if ((M.2.1 9) x1.toNatClampNeg) = 3 then p_X7_body M5 30 else True) ∧ (kk (if ((M.2.1 9) x1.toNatClampNeg) = 2 then v_X7_body M5 30 else M13) (fun M14 : mT => (if ((M.2.1 9) x1.toNatClampNeg) = 4 then p_X7_body M14 51 else if ((M.2.1 9) x1.toNatClampNeg) = 5 then p_X7_body M14 51 else True) ∧ (kk (if ((M.2.1 9) x1.toNatClampNeg) = 4 then v_X7_body M14 51 else M21) (fun M22 : mT => (if ((M.2.1 9) x1.toNatClampNeg) = 6 then p_X7_body M22 70 else True) ∧ (kk (if ((M.2.1 9) x1.toNatClampNeg) = 6 then v_X7_body M22 70 else M22) (fun M26 : mT => p_X7_body M26 10)))))))))
set_option maxHeartbeats 4000000 in
theorem c_X7_walking {l : Launch} (G : zG) (a : Nat → Nat) {X : zX} (hX : XOK X) (sz : Nat) (M : mT) (x1 : Int32) (x2 : Int32) (hp : p_X7_walking M x1 x2) : Met l yX7_walking (.code yX7_walking k_X7_walking.1 k_X7_walking.2.1 k_X7_walking.2.2.2.1 :: TS) k_X7_walking.2.2.2.2 (Pz G [.ref (a 0), .int x1, .int x2] (Fw G X (mW G a M) sz)) (Qwi G (fun r w => r = (v_X7_walking M x1 x2).1 ∧ w = mW G a (v_X7_walking M x1 x2).2) (va_A (mW G a M) sz)) 0 0 (va_A (mW G a M) sz) := by
  refine zmet (by decide +kernel) rfl rfl (fun Γ hl0 hQ hN hF => ?_)
  refine z_start hX hF (fun hw => ?_)
  generalize va_A (mW G a M) sz = A at hQ hw ⊢
  obtain ⟨res, hv⟩ : ∃ res, v_X7_walking M x1 x2 = res := ⟨_, rfl⟩
  rw [hv] at hQ
  unfold v_X7_walking at hv
  unfold p_X7_walking at hp
  show Z k_X7_walking G Γ _ 0 0 [(0, .ref (a 0)), (1, .int x1), (2, .int x2)] 0 []
  refine z_aload_n dX7_walking_0 rfl ?_
  refine mg_9 wr_P rfl dX7_walking_1 ?_
  refine z_iload_n dX7_walking_4 rfl ?_
  obtain ⟨q1, hp⟩ := hp
  refine ml_9 (x := (M.2.1 9) x1.toNatClampNeg) wr_P q1 rfl dX7_walking_5 ?_
  refine z_istore_n (lv' := [(3, .int ((M.2.1 9) x1.toNatClampNeg)), (0, .ref (a 0)), (1, .int x1), (2, .int x2)]) dX7_walking_6 (Nat.le_of_ble_eq_true rfl) rfl ?_
  refine z_iload_n dX7_walking_7 rfl ?_
  refine z_istore (lv' := [(4, .int x2), (3, .int ((M.2.1 9) x1.toNatClampNeg)), (0, .ref (a 0)), (1, .int x1), (2, .int x2)]) dX7_walking_8 (Nat.le_of_ble_eq_true rfl) rfl ?_
  refine z_iload_n dX7_walking_10 rfl ?_
  refine z_iconst (v := 3) dX7_walking_11 rfl ?_
  obtain ⟨hpm, hp⟩ := hp
  have J35 : ∀ M5 : mT, M5 = (if ((M.2.1 9) x1.toNatClampNeg) = 3 then v_X7_body M 40 else M) → ∀ m6 : Int32, m6 = (if ((M.2.1 9) x1.toNatClampNeg) = 3 then x2 + 1 else x2) → Z k_X7_walking G Γ (wr G A Γ.2.2.1.1.heap (mW G a M5)) 0 0 [(4, .int m6), (3, .int ((M.2.1 9) x1.toNatClampNeg)), (0, .ref (a 0)), (1, .int x1), (2, .int x2)] 26 [] := by
    intro M5 eM5 m6 em6
    have hp := kk_pq hp eM5
    have hv := kk_vq hv eM5
    clear eM5
    subst em6
    refine z_iload_n dX7_walking_26 rfl ?_
    refine z_iconst (v := 2) dX7_walking_27 rfl ?_
    obtain ⟨hpm, hp⟩ := hp
    have J36 : ∀ M14 : mT, M14 = (if ((M.2.1 9) x1.toNatClampNeg) = 2 then v_X7_body M5 30 else M13) → Z k_X7_walking G Γ (wr G A Γ.2.2.1.1.heap (mW G a M14)) 0 0 [(4, .int (if ((M.2.1 9) x1.toNatClampNeg) = 3 then x2 + 1 else x2)), (3, .int ((M.2.1 9) x1.toNatClampNeg)), (0, .ref (a 0)), (1, .int x1), (2, .int x2)] 42 [] := by
      intro M14 eM14
      have hp := kk_pq hp eM14
      have hv := kk_vq hv eM14
      clear eM14
      refine z_iload_n dX7_walking_42 rfl ?_
      refine z_iconst (v := 4) dX7_walking_43 rfl ?_
      obtain ⟨hpm, hp⟩ := hp
      have J37 : ∀ M22 : mT, M22 = (if ((M.2.1 9) x1.toNatClampNeg) = 4 then v_X7_body M14 51 else M21) → Z k_X7_walking G Γ (wr G A Γ.2.2.1.1.heap (mW G a M22)) 0 0 [(4, .int (if ((M.2.1 9) x1.toNatClampNeg) = 3 then x2 + 1 else x2)), (3, .int ((M.2.1 9) x1.toNatClampNeg)), (0, .ref (a 0)), (1, .int x1), (2, .int x2)] 58 [] := by
        intro M22 eM22
        have hp := kk_pq hp eM22
        have hv := kk_vq hv eM22
        clear eM22
        refine z_iload_n dX7_walking_58 rfl ?_
        refine z_bipush (v := 6) dX7_walking_59 rfl ?_
        obtain ⟨hpm, hp⟩ := hp
        have J38 : ∀ M26 : mT, M26 = (if ((M.2.1 9) x1.toNatClampNeg) = 6 then v_X7_body M22 70 else M22) → Z k_X7_walking G Γ (wr G A Γ.2.2.1.1.heap (mW G a M26)) 0 0 [(4, .int (if ((M.2.1 9) x1.toNatClampNeg) = 3 then x2 + 1 else x2)), (3, .int ((M.2.1 9) x1.toNatClampNeg)), (0, .ref (a 0)), (1, .int x1), (2, .int x2)] 70 [] := by
          intro M26 eM26
          have hp := kk_pq hp eM26
          have hv := kk_vq hv eM26
          clear eM26
          refine z_aload_n dX7_walking_70 rfl ?_
          refine z_bipush (v := 10) dX7_walking_71 rfl ?_
          have q27 := hp
          refine z_cavv hw (fun sz => c_X7_body G a hw.1 sz M26 10 q27) zc_X7_body zv_X7_body tw_m_RX7_282 (mrec wr_P) (zroom_of rfl) rfl (Nat.le_of_ble_eq_true rfl) dX7_walking_73 ?_
          intro w0 hw0
          generalize v_X7_body M26 10 = q28 at hv hw0
          have hv := kk_v hv
          subst hw0
          refine z_iload dX7_walking_76 rfl ?_
          refine z_iload_n dX7_walking_78 rfl ?_
          refine z_iadd dX7_walking_79 ?_
          refine z_istore (lv' := [(5, .int ((if ((M.2.1 9) x1.toNatClampNeg) = 3 then x2 + 1 else x2) + x1)), (4, .int (if ((M.2.1 9) x1.toNatClampNeg) = 3 then x2 + 1 else x2)), (3, .int ((M.2.1 9) x1.toNatClampNeg)), (0, .ref (a 0)), (1, .int x1), (2, .int x2)]) dX7_walking_80 (Nat.le_of_ble_eq_true rfl) rfl ?_
          refine z_iload_n dX7_walking_82 rfl ?_
          refine z_iconst (v := 2) dX7_walking_83 rfl ?_
          refine z_icmp_eq (tgt := 92) dX7_walking_84 (by decide) (fun c29 => ?_) (fun c29 => ?_)
          · have hv := it_t hv c29
            refine z_iload dX7_walking_92 rfl ?_
            refine z_iconst (v := 3) dX7_walking_94 rfl ?_
            refine z_imul dX7_walking_95 ?_
            subst hv; exact z_iret_W hQ rfl rfl rfl ⟨rfl, rfl⟩ dX7_walking_96
          · have hv := it_f hv c29
            refine z_iload_n dX7_walking_87 rfl ?_
            refine z_iconst (v := 3) dX7_walking_88 rfl ?_
            refine z_icmp_ne (tgt := 97) dX7_walking_89 (by decide) (fun c30 => ?_) (fun c30 => ?_)
            · have hv := it_f hv c30
              refine z_iload_n dX7_walking_97 rfl ?_
              refine z_iconst (v := 4) dX7_walking_98 rfl ?_
              refine z_icmp_eq (tgt := 107) dX7_walking_99 (by decide) (fun c31 => ?_) (fun c31 => ?_)
              · have hv := it_t hv c31
                refine z_iload dX7_walking_107 rfl ?_
                refine z_iload_n dX7_walking_109 rfl ?_
                refine z_isub dX7_walking_110 ?_
                subst hv; exact z_iret_W hQ rfl rfl rfl ⟨rfl, rfl⟩ dX7_walking_111
              · have hv := it_f hv c31
                refine z_iload_n dX7_walking_102 rfl ?_
                refine z_iconst (v := 5) dX7_walking_103 rfl ?_
                refine z_icmp_ne (tgt := 112) dX7_walking_104 (by decide) (fun c32 => ?_) (fun c32 => ?_)
                · have hv := it_f hv c32
                  refine z_iload_n dX7_walking_112 rfl ?_
                  refine z_bipush (v := 6) dX7_walking_113 rfl ?_
                  have J39 : ∀ m34 : Int32, m34 = (if ((M.2.1 9) x1.toNatClampNeg) = 6 then ((if ((M.2.1 9) x1.toNatClampNeg) = 3 then x2 + 1 else x2) + x1) * 2 else (if ((M.2.1 9) x1.toNatClampNeg) = 3 then x2 + 1 else x2) + x1) → Z k_X7_walking G Γ (wr G A Γ.2.2.1.1.heap (mW G a q28)) 0 0 [(5, .int ((if ((M.2.1 9) x1.toNatClampNeg) = 3 then x2 + 1 else x2) + x1)), (4, .int (if ((M.2.1 9) x1.toNatClampNeg) = 3 then x2 + 1 else x2)), (3, .int ((M.2.1 9) x1.toNatClampNeg)), (0, .ref (a 0)), (1, .int x1), (2, .int x2)] 127 [.int m34] := by
                    intro m34 em34
                    subst em34
                    subst hv; exact z_iret_W hQ rfl rfl rfl ⟨rfl, rfl⟩ dX7_walking_127
                  refine z_icmp_ne (tgt := 125) dX7_walking_115 (by decide) (fun c33 => ?_) (fun c33 => ?_)
                  · skip
                    refine z_iload dX7_walking_125 rfl ?_
                    exact z_lv rfl (J39 ((if ((M.2.1 9) x1.toNatClampNeg) = 3 then x2 + 1 else x2) + x1) (if_neg c33).symm)
                  · skip
                    refine z_iload dX7_walking_118 rfl ?_
                    refine z_iconst (v := 2) dX7_walking_120 rfl ?_
                    refine z_imul dX7_walking_121 ?_
                    refine z_goto (tgt := 127) dX7_walking_122 (by decide) ?_
                    exact z_lv rfl (J39 (((if ((M.2.1 9) x1.toNatClampNeg) = 3 then x2 + 1 else x2) + x1) * 2) (if_pos c33).symm)
                · have hv := it_t hv c32
                  refine z_iload dX7_walking_107 rfl ?_
                  refine z_iload_n dX7_walking_109 rfl ?_
                  refine z_isub dX7_walking_110 ?_
                  subst hv; exact z_iret_W hQ rfl rfl rfl ⟨rfl, rfl⟩ dX7_walking_111
            · have hv := it_t hv c30
              refine z_iload dX7_walking_92 rfl ?_
              refine z_iconst (v := 3) dX7_walking_94 rfl ?_
              refine z_imul dX7_walking_95 ?_
              subst hv; exact z_iret_W hQ rfl rfl rfl ⟨rfl, rfl⟩ dX7_walking_96
        refine z_icmp_ne (tgt := 70) dX7_walking_61 (by decide) (fun c23 => ?_) (fun c23 => ?_)
        · have hp := ip_f hpm c23
          exact z_lv rfl (J38 M22 (if_neg c23).symm)
        · have hp := ip_t hpm c23
          refine z_aload_n dX7_walking_64 rfl ?_
          refine z_bipush (v := 70) dX7_walking_65 rfl ?_
          have q24 := hp
          refine z_cavv hw (fun sz => c_X7_body G a hw.1 sz M22 70 q24) zc_X7_body zv_X7_body tw_m_RX7_282 (mrec wr_P) (zroom_of rfl) rfl (Nat.le_of_ble_eq_true rfl) dX7_walking_67 ?_
          intro w0 hw0; subst hw0
          exact z_lv rfl (J38 (v_X7_body M22 70) (if_pos c23).symm)
      refine z_icmp_eq (tgt := 52) dX7_walking_44 (by decide) (fun c15 => ?_) (fun c15 => ?_)
      · have hp := ip_t hpm c15
        refine z_aload_n dX7_walking_52 rfl ?_
        refine z_bipush (v := 51) dX7_walking_53 rfl ?_
        have q16 := hp
        refine z_cavv hw (fun sz => c_X7_body G a hw.1 sz M14 51 q16) zc_X7_body zv_X7_body tw_m_RX7_282 (mrec wr_P) (zroom_of rfl) rfl (Nat.le_of_ble_eq_true rfl) dX7_walking_55 ?_
        intro w0 hw0; subst hw0
        exact z_lv rfl (J37 (v_X7_body M14 51) (if_pos c15).symm)
      · have hp := ip_f hpm c15
        refine z_iload_n dX7_walking_47 rfl ?_
        refine z_iconst (v := 5) dX7_walking_48 rfl ?_
        have hpm := hp
        have J40 : ∀ M21 : mT, M21 = (if ((M.2.1 9) x1.toNatClampNeg) = 5 then v_X7_body M14 51 else M14) → Z k_X7_walking G Γ (wr G A Γ.2.2.1.1.heap (mW G a M21)) 0 0 [(4, .int (if ((M.2.1 9) x1.toNatClampNeg) = 3 then x2 + 1 else x2)), (3, .int ((M.2.1 9) x1.toNatClampNeg)), (0, .ref (a 0)), (1, .int x1), (2, .int x2)] 58 [] := by
          intro M21 eM21
          have hv := kk_vq hv eM21
          clear eM21
          exact z_lv rfl (J37 M21 (if_neg c15).symm)
        refine z_icmp_ne (tgt := 58) dX7_walking_49 (by decide) (fun c18 => ?_) (fun c18 => ?_)
        · have hp := ip_f hpm c18
          exact z_lv rfl (J40 M14 (if_neg c18).symm)
        · have hp := ip_t hpm c18
          refine z_aload_n dX7_walking_52 rfl ?_
          refine z_bipush (v := 51) dX7_walking_53 rfl ?_
          have q19 := hp
          refine z_cavv hw (fun sz => c_X7_body G a hw.1 sz M14 51 q19) zc_X7_body zv_X7_body tw_m_RX7_282 (mrec wr_P) (zroom_of rfl) rfl (Nat.le_of_ble_eq_true rfl) dX7_walking_55 ?_
          intro w0 hw0; subst hw0
          exact z_lv rfl (J40 (v_X7_body M14 51) (if_pos c18).symm)
    refine z_icmp_eq (tgt := 36) dX7_walking_28 (by decide) (fun c7 => ?_) (fun c7 => ?_)
    · have hp := ip_t hpm c7
      refine z_aload_n dX7_walking_36 rfl ?_
      refine z_bipush (v := 30) dX7_walking_37 rfl ?_
      have q8 := hp
      refine z_cavv hw (fun sz => c_X7_body G a hw.1 sz M5 30 q8) zc_X7_body zv_X7_body tw_m_RX7_282 (mrec wr_P) (zroom_of rfl) rfl (Nat.le_of_ble_eq_true rfl) dX7_walking_39 ?_
      intro w0 hw0; subst hw0
      exact z_lv rfl (J36 (v_X7_body M5 30) (if_pos c7).symm)
    · have hp := ip_f hpm c7
      refine z_iload_n dX7_walking_31 rfl ?_
      refine z_iconst (v := 3) dX7_walking_32 rfl ?_
      have hpm := hp
      have J41 : ∀ M13 : mT, M13 = (if ((M.2.1 9) x1.toNatClampNeg) = 3 then v_X7_body M5 30 else M5) → Z k_X7_walking G Γ (wr G A Γ.2.2.1.1.heap (mW G a M13)) 0 0 [(4, .int (if ((M.2.1 9) x1.toNatClampNeg) = 3 then x2 + 1 else x2)), (3, .int ((M.2.1 9) x1.toNatClampNeg)), (0, .ref (a 0)), (1, .int x1), (2, .int x2)] 42 [] := by
        intro M13 eM13
        have hv := kk_vq hv eM13
        clear eM13
        exact z_lv rfl (J36 M13 (if_neg c7).symm)
      refine z_icmp_ne (tgt := 42) dX7_walking_33 (by decide) (fun c10 => ?_) (fun c10 => ?_)
      · have hp := ip_f hpm c10
        exact z_lv rfl (J41 M5 (if_neg c10).symm)
      · have hp := ip_t hpm c10
        refine z_aload_n dX7_walking_36 rfl ?_
        refine z_bipush (v := 30) dX7_walking_37 rfl ?_
        have q11 := hp
        refine z_cavv hw (fun sz => c_X7_body G a hw.1 sz M5 30 q11) zc_X7_body zv_X7_body tw_m_RX7_282 (mrec wr_P) (zroom_of rfl) rfl (Nat.le_of_ble_eq_true rfl) dX7_walking_39 ?_
        intro w0 hw0; subst hw0
        exact z_lv rfl (J41 (v_X7_body M5 30) (if_pos c10).symm)
  refine z_icmp_ne (tgt := 26) dX7_walking_12 (by decide) (fun c2 => ?_) (fun c2 => ?_)
  · have hp := ip_f hpm c2
    exact z_lv rfl (J35 M (if_neg c2).symm x2 (if_neg c2).symm)
  · have hp := ip_t hpm c2
    refine z_aload_n dX7_walking_15 rfl ?_
    refine z_bipush (v := 40) dX7_walking_16 rfl ?_
    have q3 := hp
    refine z_cavv hw (fun sz => c_X7_body G a hw.1 sz M 40 q3) zc_X7_body zv_X7_body tw_m_RX7_282 (mrec wr_P) (zroom_of rfl) rfl (Nat.le_of_ble_eq_true rfl) dX7_walking_18 ?_
    intro w0 hw0; subst hw0
    refine z_iload_n dX7_walking_21 rfl ?_
    refine z_iconst (v := 1) dX7_walking_22 rfl ?_
    refine z_iadd dX7_walking_23 ?_
    refine z_istore (lv' := [(4, .int (x2 + 1)), (3, .int ((M.2.1 9) x1.toNatClampNeg)), (0, .ref (a 0)), (1, .int x1), (2, .int x2)]) dX7_walking_24 (Nat.le_of_ble_eq_true rfl) rfl ?_
    exact z_lv rfl (J35 (v_X7_body M 40) (if_pos c2).symm (x2 + 1) (if_pos c2).symm)
theorem dX7_looking_0 : decode cX7_looking 0 = .ok (.iload_n 2, 1) := by decide +kernel
theorem dX7_looking_1 : decode cX7_looking 1 = .ok (.istore_n 3, 1) := by decide +kernel
theorem dX7_looking_2 : decode cX7_looking 2 = .ok (.aload_n 0, 1) := by decide +kernel
theorem dX7_looking_3 : decode cX7_looking 3 = .ok (.getfield 29, 3) := by decide +kernel
theorem dX7_looking_6 : decode cX7_looking 6 = .ok (.iload_n 1, 1) := by decide +kernel
theorem dX7_looking_7 : decode cX7_looking 7 = .ok (.iaload, 1) := by decide +kernel
theorem dX7_looking_8 : decode cX7_looking 8 = .ok (.bipush 6, 2) := by decide +kernel
theorem dX7_looking_10 : decode cX7_looking 10 = .ok (.if_icmp .ne 18, 3) := by decide +kernel
theorem dX7_looking_13 : decode cX7_looking 13 = .ok (.aload_n 0, 1) := by decide +kernel
theorem dX7_looking_14 : decode cX7_looking 14 = .ok (.bipush 71, 2) := by decide +kernel
theorem dX7_looking_16 : decode cX7_looking 16 = .ok (.invokevirtual 282, 3) := by decide +kernel
theorem dX7_looking_19 : decode cX7_looking 19 = .ok (.iload_n 2, 1) := by decide +kernel
theorem dX7_looking_20 : decode cX7_looking 20 = .ok (.aload_n 0, 1) := by decide +kernel
theorem dX7_looking_21 : decode cX7_looking 21 = .ok (.getfield 32, 3) := by decide +kernel
theorem dX7_looking_24 : decode cX7_looking 24 = .ok (.iload_n 1, 1) := by decide +kernel
theorem dX7_looking_25 : decode cX7_looking 25 = .ok (.iaload, 1) := by decide +kernel
theorem dX7_looking_26 : decode cX7_looking 26 = .ok (.isub, 1) := by decide +kernel
theorem dX7_looking_27 : decode cX7_looking 27 = .ok (.istore_n 3, 1) := by decide +kernel
theorem dX7_looking_28 : decode cX7_looking 28 = .ok (.aload_n 0, 1) := by decide +kernel
theorem dX7_looking_29 : decode cX7_looking 29 = .ok (.iload_n 1, 1) := by decide +kernel
theorem dX7_looking_30 : decode cX7_looking 30 = .ok (.invokevirtual 190, 3) := by decide +kernel
theorem dX7_looking_33 : decode cX7_looking 33 = .ok (.ifCond .eq 9, 3) := by decide +kernel
theorem dX7_looking_36 : decode cX7_looking 36 = .ok (.aload_n 0, 1) := by decide +kernel
theorem dX7_looking_37 : decode cX7_looking 37 = .ok (.bipush 20, 2) := by decide +kernel
theorem dX7_looking_39 : decode cX7_looking 39 = .ok (.invokevirtual 282, 3) := by decide +kernel
theorem dX7_looking_42 : decode cX7_looking 42 = .ok (.aload_n 0, 1) := by decide +kernel
theorem dX7_looking_43 : decode cX7_looking 43 = .ok (.bipush 11, 2) := by decide +kernel
theorem dX7_looking_45 : decode cX7_looking 45 = .ok (.invokevirtual 282, 3) := by decide +kernel
theorem dX7_looking_48 : decode cX7_looking 48 = .ok (.aload_n 0, 1) := by decide +kernel
theorem dX7_looking_49 : decode cX7_looking 49 = .ok (.iload_n 1, 1) := by decide +kernel
theorem dX7_looking_50 : decode cX7_looking 50 = .ok (.iload_n 3, 1) := by decide +kernel
theorem dX7_looking_51 : decode cX7_looking 51 = .ok (.invokevirtual 285, 3) := by decide +kernel
theorem dX7_looking_54 : decode cX7_looking 54 = .ok (.iconst 2, 1) := by decide +kernel
theorem dX7_looking_55 : decode cX7_looking 55 = .ok (.imul, 1) := by decide +kernel
theorem dX7_looking_56 : decode cX7_looking 56 = .ok (.istore 4, 2) := by decide +kernel
theorem dX7_looking_58 : decode cX7_looking 58 = .ok (.aload_n 0, 1) := by decide +kernel
theorem dX7_looking_59 : decode cX7_looking 59 = .ok (.iload_n 1, 1) := by decide +kernel
theorem dX7_looking_60 : decode cX7_looking 60 = .ok (.invokevirtual 190, 3) := by decide +kernel
theorem dX7_looking_63 : decode cX7_looking 63 = .ok (.ifCond .eq 15, 3) := by decide +kernel
theorem dX7_looking_66 : decode cX7_looking 66 = .ok (.iload 4, 2) := by decide +kernel
theorem dX7_looking_68 : decode cX7_looking 68 = .ok (.aload_n 0, 1) := by decide +kernel
theorem dX7_looking_69 : decode cX7_looking 69 = .ok (.getfield 32, 3) := by decide +kernel
theorem dX7_looking_72 : decode cX7_looking 72 = .ok (.iload_n 1, 1) := by decide +kernel
theorem dX7_looking_73 : decode cX7_looking 73 = .ok (.iaload, 1) := by decide +kernel
theorem dX7_looking_74 : decode cX7_looking 74 = .ok (.iadd, 1) := by decide +kernel
theorem dX7_looking_75 : decode cX7_looking 75 = .ok (.goto 5, 3) := by decide +kernel
theorem dX7_looking_78 : decode cX7_looking 78 = .ok (.iload 4, 2) := by decide +kernel
theorem dX7_looking_80 : decode cX7_looking 80 = .ok (.ireturn, 1) := by decide +kernel
abbrev k_X7_looking : zK := (cX7_looking, 5, RX7, (some .int), ({ frames := 2, cells := 0, slots := 0, locals := 46 } : Room))
theorem zc_X7_looking : zcal yX7_looking k_X7_looking.1 k_X7_looking.2.1 k_X7_looking.2.2.2.1 2 := ⟨tw_code_yX7_looking, tw_i_TollForHesitatorsModel, ⟨by decide +kernel, by decide +kernel⟩, by decide +kernel⟩
theorem zv_X7_looking : Cond.instanceMethod yX7_looking ∈ TS ∧ Cond.selects RX7 yX7_looking yX7_looking ∈ TS := ⟨tw_inst_yX7_looking, tw_s_yX7_looking⟩
def v_X7_looking (M : mT) (x1 : Int32) (x2 : Int32) : Int32 × mT := kk (if ((M.2.1 9) x1.toNatClampNeg) = 6 then v_X7_body M 71 else M) (fun M6 : mT => kk (if (v_X7_isBlind M6 x1) = 0 then M6 else v_X7_body M6 20) (fun M12 : mT => kk (v_X7_body M12 11) (fun q14 : mT => kk (v_X7_walking q14 x1 (if ((M.2.1 9) x1.toNatClampNeg) = 6 then x2 - (((v_X7_body M 71).2.1 10) x1.toNatClampNeg) else x2)) (fun q16 : Int32 × mT => ((if (v_X7_isBlind q16.2 x1) = 0 then q16.1 * 2 else (q16.1 * 2) + ((q16.2.2.1 10) x1.toNatClampNeg)), q16.2)))))
def p_X7_looking (M : mT) (x1 : Int32) (x2 : Int32) : Prop := vp_in x1 7 ∧ ((if ((M.2.1 9) x1.toNatClampNeg) = 6 then p_X7_body M 71 ∧ vp_in x1 7 else True) ∧ (kk (if ((M.2.1 9) x1.toNatClampNeg) = 6 then v_X7_body M 71 else M) (fun M6 : mT => p_X7_isBlind M6 x1 ∧ ((if (v_X7_isBlind M6 x1) = 0 then True else p_X7_body M6 20) ∧ (kk (if (v_X7_isBlind M6 x1) = 0 then M6 else v_X7_body M6 20) (fun M12 : mT => p_X7_body M12 11 ∧ (kk (v_X7_body M12 11) (fun q14 : mT => (p_X7_walking q14 x1 (if ((M.2.1 9) x1.toNatClampNeg) = 6 then x2 - (((v_X7_body M 71).2.1 10) x1.toNatClampNeg) else x2)) ∧ (kk (v_X7_walking q14 x1 (if ((M.2.1 9) x1.toNatClampNeg) = 6 then x2 - (((v_X7_body M 71).2.1 10) x1.toNatClampNeg) else x2)) (fun q16 : Int32 × mT => p_X7_isBlind q16.2 x1 ∧ (if (v_X7_isBlind q16.2 x1) = 0 then True else vp_in x1 7)))))))))))
set_option maxHeartbeats 4000000 in
theorem c_X7_looking {l : Launch} (G : zG) (a : Nat → Nat) {X : zX} (hX : XOK X) (sz : Nat) (M : mT) (x1 : Int32) (x2 : Int32) (hp : p_X7_looking M x1 x2) : Met l yX7_looking (.code yX7_looking k_X7_looking.1 k_X7_looking.2.1 k_X7_looking.2.2.2.1 :: TS) k_X7_looking.2.2.2.2 (Pz G [.ref (a 0), .int x1, .int x2] (Fw G X (mW G a M) sz)) (Qwi G (fun r w => r = (v_X7_looking M x1 x2).1 ∧ w = mW G a (v_X7_looking M x1 x2).2) (va_A (mW G a M) sz)) 0 0 (va_A (mW G a M) sz) := by
  refine zmet (by decide +kernel) rfl rfl (fun Γ hl0 hQ hN hF => ?_)
  refine z_start hX hF (fun hw => ?_)
  generalize va_A (mW G a M) sz = A at hQ hw ⊢
  obtain ⟨res, hv⟩ : ∃ res, v_X7_looking M x1 x2 = res := ⟨_, rfl⟩
  rw [hv] at hQ
  unfold v_X7_looking at hv
  unfold p_X7_looking at hp
  show Z k_X7_looking G Γ _ 0 0 [(0, .ref (a 0)), (1, .int x1), (2, .int x2)] 0 []
  refine z_iload_n dX7_looking_0 rfl ?_
  refine z_istore_n (lv' := [(3, .int x2), (0, .ref (a 0)), (1, .int x1), (2, .int x2)]) dX7_looking_1 (Nat.le_of_ble_eq_true rfl) rfl ?_
  refine z_aload_n dX7_looking_2 rfl ?_
  refine mg_9 wr_P rfl dX7_looking_3 ?_
  refine z_iload_n dX7_looking_6 rfl ?_
  obtain ⟨q1, hp⟩ := hp
  refine ml_9 (x := (M.2.1 9) x1.toNatClampNeg) wr_P q1 rfl dX7_looking_7 ?_
  refine z_bipush (v := 6) dX7_looking_8 rfl ?_
  obtain ⟨hpm, hp⟩ := hp
  have J21 : ∀ M6 : mT, M6 = (if ((M.2.1 9) x1.toNatClampNeg) = 6 then v_X7_body M 71 else M) → ∀ m7 : Int32, m7 = (if ((M.2.1 9) x1.toNatClampNeg) = 6 then x2 - (((v_X7_body M 71).2.1 10) x1.toNatClampNeg) else x2) → Z k_X7_looking G Γ (wr G A Γ.2.2.1.1.heap (mW G a M6)) 0 0 [(3, .int m7), (0, .ref (a 0)), (1, .int x1), (2, .int x2)] 28 [] := by
    intro M6 eM6 m7 em7
    have hp := kk_pq hp eM6
    have hv := kk_vq hv eM6
    clear eM6
    subst em7
    refine z_aload_n dX7_looking_28 rfl ?_
    refine z_iload_n dX7_looking_29 rfl ?_
    obtain ⟨q8, hp⟩ := hp
    refine z_cvi (c_X7_isBlind G a M6 x1 q8) zc_X7_isBlind zv_X7_isBlind tw_m_RX7_190 (mrec wr_P) wr_P (zroom_of rfl) rfl (Nat.le_of_ble_eq_true rfl) dX7_looking_30 ?_
    obtain ⟨hpm, hp⟩ := hp
    have J22 : ∀ M12 : mT, M12 = (if (v_X7_isBlind M6 x1) = 0 then M6 else v_X7_body M6 20) → Z k_X7_looking G Γ (wr G A Γ.2.2.1.1.heap (mW G a M12)) 0 0 [(3, .int (if ((M.2.1 9) x1.toNatClampNeg) = 6 then x2 - (((v_X7_body M 71).2.1 10) x1.toNatClampNeg) else x2)), (0, .ref (a 0)), (1, .int x1), (2, .int x2)] 42 [] := by
      intro M12 eM12
      have hp := kk_pq hp eM12
      have hv := kk_vq hv eM12
      clear eM12
      refine z_aload_n dX7_looking_42 rfl ?_
      refine z_bipush (v := 11) dX7_looking_43 rfl ?_
      obtain ⟨q13, hp⟩ := hp
      refine z_cavv hw (fun sz => c_X7_body G a hw.1 sz M12 11 q13) zc_X7_body zv_X7_body tw_m_RX7_282 (mrec wr_P) (zroom_of rfl) rfl (Nat.le_of_ble_eq_true rfl) dX7_looking_45 ?_
      intro w0 hw0
      generalize v_X7_body M12 11 = q14 at hp hv hw0
      have hp := kk_p hp
      have hv := kk_v hv
      subst hw0
      refine z_aload_n dX7_looking_48 rfl ?_
      refine z_iload_n dX7_looking_49 rfl ?_
      refine z_iload_n dX7_looking_50 rfl ?_
      obtain ⟨q15, hp⟩ := hp
      refine z_cavi hw (fun sz => c_X7_walking G a hw.1 sz q14 x1 (if ((M.2.1 9) x1.toNatClampNeg) = 6 then x2 - (((v_X7_body M 71).2.1 10) x1.toNatClampNeg) else x2) q15) zc_X7_walking zv_X7_walking tw_m_RX7_285 (mrec wr_P) (zroom_of rfl) rfl (Nat.le_of_ble_eq_true rfl) dX7_looking_51 ?_
      intro r0 w0 hw0
      generalize v_X7_walking q14 x1 (if ((M.2.1 9) x1.toNatClampNeg) = 6 then x2 - (((v_X7_body M 71).2.1 10) x1.toNatClampNeg) else x2) = q16 at hp hv hw0
      have hp := kk_p hp
      have hv := kk_v hv
      obtain ⟨rfl, rfl⟩ := hw0
      refine z_iconst (v := 2) dX7_looking_54 rfl ?_
      refine z_imul dX7_looking_55 ?_
      refine z_istore (lv' := [(4, .int (q16.1 * 2)), (3, .int (if ((M.2.1 9) x1.toNatClampNeg) = 6 then x2 - (((v_X7_body M 71).2.1 10) x1.toNatClampNeg) else x2)), (0, .ref (a 0)), (1, .int x1), (2, .int x2)]) dX7_looking_56 (Nat.le_of_ble_eq_true rfl) rfl ?_
      refine z_aload_n dX7_looking_58 rfl ?_
      refine z_iload_n dX7_looking_59 rfl ?_
      obtain ⟨q17, hp⟩ := hp
      refine z_cvi (c_X7_isBlind G a q16.2 x1 q17) zc_X7_isBlind zv_X7_isBlind tw_m_RX7_190 (mrec wr_P) wr_P (zroom_of rfl) rfl (Nat.le_of_ble_eq_true rfl) dX7_looking_60 ?_
      have hpm := hp
      have J23 : ∀ m20 : Int32, m20 = (if (v_X7_isBlind q16.2 x1) = 0 then q16.1 * 2 else (q16.1 * 2) + ((q16.2.2.1 10) x1.toNatClampNeg)) → Z k_X7_looking G Γ (wr G A Γ.2.2.1.1.heap (mW G a q16.2)) 0 0 [(4, .int (q16.1 * 2)), (3, .int (if ((M.2.1 9) x1.toNatClampNeg) = 6 then x2 - (((v_X7_body M 71).2.1 10) x1.toNatClampNeg) else x2)), (0, .ref (a 0)), (1, .int x1), (2, .int x2)] 80 [.int m20] := by
        intro m20 em20
        subst em20
        subst hv; exact z_iret_W hQ rfl rfl rfl ⟨rfl, rfl⟩ dX7_looking_80
      refine z_if_eq (tgt := 78) dX7_looking_63 (by decide) (fun c18 => ?_) (fun c18 => ?_)
      · have hp := ip_t hpm c18
        refine z_iload dX7_looking_78 rfl ?_
        exact z_lv rfl (J23 (q16.1 * 2) (if_pos c18).symm)
      · have hp := ip_f hpm c18
        refine z_iload dX7_looking_66 rfl ?_
        refine z_aload_n dX7_looking_68 rfl ?_
        refine mg_10 wr_P rfl dX7_looking_69 ?_
        refine z_iload_n dX7_looking_72 rfl ?_
        have q19 := hp
        refine ml_10 (x := (q16.2.2.1 10) x1.toNatClampNeg) wr_P q19 rfl dX7_looking_73 ?_
        refine z_iadd dX7_looking_74 ?_
        refine z_goto (tgt := 80) dX7_looking_75 (by decide) ?_
        exact z_lv rfl (J23 ((q16.1 * 2) + ((q16.2.2.1 10) x1.toNatClampNeg)) (if_neg c18).symm)
    refine z_if_eq (tgt := 42) dX7_looking_33 (by decide) (fun c9 => ?_) (fun c9 => ?_)
    · have hp := ip_t hpm c9
      exact z_lv rfl (J22 M6 (if_pos c9).symm)
    · have hp := ip_f hpm c9
      refine z_aload_n dX7_looking_36 rfl ?_
      refine z_bipush (v := 20) dX7_looking_37 rfl ?_
      have q10 := hp
      refine z_cavv hw (fun sz => c_X7_body G a hw.1 sz M6 20 q10) zc_X7_body zv_X7_body tw_m_RX7_282 (mrec wr_P) (zroom_of rfl) rfl (Nat.le_of_ble_eq_true rfl) dX7_looking_39 ?_
      intro w0 hw0; subst hw0
      exact z_lv rfl (J22 (v_X7_body M6 20) (if_neg c9).symm)
  refine z_icmp_ne (tgt := 28) dX7_looking_10 (by decide) (fun c2 => ?_) (fun c2 => ?_)
  · have hp := ip_f hpm c2
    exact z_lv rfl (J21 M (if_neg c2).symm x2 (if_neg c2).symm)
  · have hp := ip_t hpm c2
    refine z_aload_n dX7_looking_13 rfl ?_
    refine z_bipush (v := 71) dX7_looking_14 rfl ?_
    obtain ⟨q3, hp⟩ := hp
    refine z_cavv hw (fun sz => c_X7_body G a hw.1 sz M 71 q3) zc_X7_body zv_X7_body tw_m_RX7_282 (mrec wr_P) (zroom_of rfl) rfl (Nat.le_of_ble_eq_true rfl) dX7_looking_16 ?_
    intro w0 hw0; subst hw0
    refine z_iload_n dX7_looking_19 rfl ?_
    refine z_aload_n dX7_looking_20 rfl ?_
    refine mg_10 wr_P rfl dX7_looking_21 ?_
    refine z_iload_n dX7_looking_24 rfl ?_
    have q5 := hp
    refine ml_10 (x := ((v_X7_body M 71).2.1 10) x1.toNatClampNeg) wr_P q5 rfl dX7_looking_25 ?_
    refine z_isub dX7_looking_26 ?_
    refine z_istore_n (lv' := [(3, .int (x2 - (((v_X7_body M 71).2.1 10) x1.toNatClampNeg))), (0, .ref (a 0)), (1, .int x1), (2, .int x2)]) dX7_looking_27 (Nat.le_of_ble_eq_true rfl) rfl ?_
    exact z_lv rfl (J21 (v_X7_body M 71) (if_pos c2).symm (x2 - (((v_X7_body M 71).2.1 10) x1.toNatClampNeg)) (if_pos c2).symm)
theorem dX7_stopping_0 : decode cX7_stopping 0 = .ok (.aload_n 0, 1) := by decide +kernel
theorem dX7_stopping_1 : decode cX7_stopping 1 = .ok (.getfield 29, 3) := by decide +kernel
theorem dX7_stopping_4 : decode cX7_stopping 4 = .ok (.iload_n 1, 1) := by decide +kernel
theorem dX7_stopping_5 : decode cX7_stopping 5 = .ok (.iaload, 1) := by decide +kernel
theorem dX7_stopping_6 : decode cX7_stopping 6 = .ok (.istore_n 3, 1) := by decide +kernel
theorem dX7_stopping_7 : decode cX7_stopping 7 = .ok (.iload_n 3, 1) := by decide +kernel
theorem dX7_stopping_8 : decode cX7_stopping 8 = .ok (.iconst 5, 1) := by decide +kernel
theorem dX7_stopping_9 : decode cX7_stopping 9 = .ok (.if_icmp .ne 9, 3) := by decide +kernel
theorem dX7_stopping_12 : decode cX7_stopping 12 = .ok (.aload_n 0, 1) := by decide +kernel
theorem dX7_stopping_13 : decode cX7_stopping 13 = .ok (.bipush 60, 2) := by decide +kernel
theorem dX7_stopping_15 : decode cX7_stopping 15 = .ok (.invokevirtual 282, 3) := by decide +kernel
theorem dX7_stopping_18 : decode cX7_stopping 18 = .ok (.iload_n 3, 1) := by decide +kernel
theorem dX7_stopping_19 : decode cX7_stopping 19 = .ok (.iconst 4, 1) := by decide +kernel
theorem dX7_stopping_20 : decode cX7_stopping 20 = .ok (.if_icmp .eq 8, 3) := by decide +kernel
theorem dX7_stopping_23 : decode cX7_stopping 23 = .ok (.iload_n 3, 1) := by decide +kernel
theorem dX7_stopping_24 : decode cX7_stopping 24 = .ok (.iconst 5, 1) := by decide +kernel
theorem dX7_stopping_25 : decode cX7_stopping 25 = .ok (.if_icmp .ne 9, 3) := by decide +kernel
theorem dX7_stopping_28 : decode cX7_stopping 28 = .ok (.aload_n 0, 1) := by decide +kernel
theorem dX7_stopping_29 : decode cX7_stopping 29 = .ok (.bipush 50, 2) := by decide +kernel
theorem dX7_stopping_31 : decode cX7_stopping 31 = .ok (.invokevirtual 282, 3) := by decide +kernel
theorem dX7_stopping_34 : decode cX7_stopping 34 = .ok (.aload_n 0, 1) := by decide +kernel
theorem dX7_stopping_35 : decode cX7_stopping 35 = .ok (.bipush 12, 2) := by decide +kernel
theorem dX7_stopping_37 : decode cX7_stopping 37 = .ok (.invokevirtual 282, 3) := by decide +kernel
theorem dX7_stopping_40 : decode cX7_stopping 40 = .ok (.aload_n 0, 1) := by decide +kernel
theorem dX7_stopping_41 : decode cX7_stopping 41 = .ok (.iload_n 1, 1) := by decide +kernel
theorem dX7_stopping_42 : decode cX7_stopping 42 = .ok (.iload_n 2, 1) := by decide +kernel
theorem dX7_stopping_43 : decode cX7_stopping 43 = .ok (.invokevirtual 288, 3) := by decide +kernel
theorem dX7_stopping_46 : decode cX7_stopping 46 = .ok (.istore 4, 2) := by decide +kernel
theorem dX7_stopping_48 : decode cX7_stopping 48 = .ok (.iload 4, 2) := by decide +kernel
theorem dX7_stopping_50 : decode cX7_stopping 50 = .ok (.aload_n 0, 1) := by decide +kernel
theorem dX7_stopping_51 : decode cX7_stopping 51 = .ok (.iload_n 1, 1) := by decide +kernel
theorem dX7_stopping_52 : decode cX7_stopping 52 = .ok (.iload_n 2, 1) := by decide +kernel
theorem dX7_stopping_53 : decode cX7_stopping 53 = .ok (.aload_n 0, 1) := by decide +kernel
theorem dX7_stopping_54 : decode cX7_stopping 54 = .ok (.getfield 32, 3) := by decide +kernel
theorem dX7_stopping_57 : decode cX7_stopping 57 = .ok (.iload_n 1, 1) := by decide +kernel
theorem dX7_stopping_58 : decode cX7_stopping 58 = .ok (.iaload, 1) := by decide +kernel
theorem dX7_stopping_59 : decode cX7_stopping 59 = .ok (.isub, 1) := by decide +kernel
theorem dX7_stopping_60 : decode cX7_stopping 60 = .ok (.invokevirtual 285, 3) := by decide +kernel
theorem dX7_stopping_63 : decode cX7_stopping 63 = .ok (.ixor, 1) := by decide +kernel
theorem dX7_stopping_64 : decode cX7_stopping 64 = .ok (.istore 4, 2) := by decide +kernel
theorem dX7_stopping_66 : decode cX7_stopping 66 = .ok (.iload_n 3, 1) := by decide +kernel
theorem dX7_stopping_67 : decode cX7_stopping 67 = .ok (.iconst 4, 1) := by decide +kernel
theorem dX7_stopping_68 : decode cX7_stopping 68 = .ok (.if_icmp .eq 8, 3) := by decide +kernel
theorem dX7_stopping_71 : decode cX7_stopping 71 = .ok (.iload_n 3, 1) := by decide +kernel
theorem dX7_stopping_72 : decode cX7_stopping 72 = .ok (.iconst 5, 1) := by decide +kernel
theorem dX7_stopping_73 : decode cX7_stopping 73 = .ok (.if_icmp .ne 8, 3) := by decide +kernel
theorem dX7_stopping_76 : decode cX7_stopping 76 = .ok (.iload 4, 2) := by decide +kernel
theorem dX7_stopping_78 : decode cX7_stopping 78 = .ok (.ineg, 1) := by decide +kernel
theorem dX7_stopping_79 : decode cX7_stopping 79 = .ok (.istore 4, 2) := by decide +kernel
theorem dX7_stopping_81 : decode cX7_stopping 81 = .ok (.iload_n 3, 1) := by decide +kernel
theorem dX7_stopping_82 : decode cX7_stopping 82 = .ok (.iconst 5, 1) := by decide +kernel
theorem dX7_stopping_83 : decode cX7_stopping 83 = .ok (.if_icmp .ne 10, 3) := by decide +kernel
theorem dX7_stopping_86 : decode cX7_stopping 86 = .ok (.iload 4, 2) := by decide +kernel
theorem dX7_stopping_88 : decode cX7_stopping 88 = .ok (.iconst 5, 1) := by decide +kernel
theorem dX7_stopping_89 : decode cX7_stopping 89 = .ok (.ixor, 1) := by decide +kernel
theorem dX7_stopping_90 : decode cX7_stopping 90 = .ok (.goto 5, 3) := by decide +kernel
theorem dX7_stopping_93 : decode cX7_stopping 93 = .ok (.iload 4, 2) := by decide +kernel
theorem dX7_stopping_95 : decode cX7_stopping 95 = .ok (.ireturn, 1) := by decide +kernel
abbrev k_X7_stopping : zK := (cX7_stopping, 5, RX7, (some .int), ({ frames := 3, cells := 0, slots := 0, locals := 70 } : Room))
theorem zc_X7_stopping : zcal yX7_stopping k_X7_stopping.1 k_X7_stopping.2.1 k_X7_stopping.2.2.2.1 2 := ⟨tw_code_yX7_stopping, tw_i_TollForHesitatorsModel, ⟨by decide +kernel, by decide +kernel⟩, by decide +kernel⟩
theorem zv_X7_stopping : Cond.instanceMethod yX7_stopping ∈ TS ∧ Cond.selects RX7 yX7_stopping yX7_stopping ∈ TS := ⟨tw_inst_yX7_stopping, tw_s_yX7_stopping⟩
def v_X7_stopping (M : mT) (x1 : Int32) (x2 : Int32) : Int32 × mT := kk (if ((M.2.1 9) x1.toNatClampNeg) = 5 then v_X7_body M 60 else M) (fun M5 : mT => kk (if ((M.2.1 9) x1.toNatClampNeg) = 4 then v_X7_body M5 50 else M12) (fun M13 : mT => kk (v_X7_body M13 12) (fun q15 : mT => kk (v_X7_looking q15 x1 x2) (fun q17 : Int32 × mT => kk (v_X7_walking q17.2 x1 (x2 - ((q17.2.2.1 10) x1.toNatClampNeg))) (fun q20 : Int32 × mT => ((if ((M.2.1 9) x1.toNatClampNeg) = 5 then (if ((M.2.1 9) x1.toNatClampNeg) = 4 then -(q17.1 ^^^ q20.1) else (if ((M.2.1 9) x1.toNatClampNeg) = 5 then -(q17.1 ^^^ q20.1) else q17.1 ^^^ q20.1)) ^^^ 5 else (if ((M.2.1 9) x1.toNatClampNeg) = 4 then -(q17.1 ^^^ q20.1) else (if ((M.2.1 9) x1.toNatClampNeg) = 5 then -(q17.1 ^^^ q20.1) else q17.1 ^^^ q20.1))), q20.2))))))
def p_X7_stopping (M : mT) (x1 : Int32) (x2 : Int32) : Prop := vp_in x1 7 ∧ ((if ((M.2.1 9) x1.toNatClampNeg) = 5 then p_X7_body M 60 else True) ∧ (kk (if ((M.2.1 9) x1.toNatClampNeg) = 5 then v_X7_body M 60 else M) (fun M5 : mT => (if ((M.2.1 9) x1.toNatClampNeg) = 4 then p_X7_body M5 50 else if ((M.2.1 9) x1.toNatClampNeg) = 5 then p_X7_body M5 50 else True) ∧ (kk (if ((M.2.1 9) x1.toNatClampNeg) = 4 then v_X7_body M5 50 else M12) (fun M13 : mT => p_X7_body M13 12 ∧ (kk (v_X7_body M13 12) (fun q15 : mT => p_X7_looking q15 x1 x2 ∧ (kk (v_X7_looking q15 x1 x2) (fun q17 : Int32 × mT => vp_in x1 7 ∧ (p_X7_walking q17.2 x1 (x2 - ((q17.2.2.1 10) x1.toNatClampNeg))))))))))))
set_option maxHeartbeats 4000000 in
theorem c_X7_stopping {l : Launch} (G : zG) (a : Nat → Nat) {X : zX} (hX : XOK X) (sz : Nat) (M : mT) (x1 : Int32) (x2 : Int32) (hp : p_X7_stopping M x1 x2) : Met l yX7_stopping (.code yX7_stopping k_X7_stopping.1 k_X7_stopping.2.1 k_X7_stopping.2.2.2.1 :: TS) k_X7_stopping.2.2.2.2 (Pz G [.ref (a 0), .int x1, .int x2] (Fw G X (mW G a M) sz)) (Qwi G (fun r w => r = (v_X7_stopping M x1 x2).1 ∧ w = mW G a (v_X7_stopping M x1 x2).2) (va_A (mW G a M) sz)) 0 0 (va_A (mW G a M) sz) := by
  refine zmet (by decide +kernel) rfl rfl (fun Γ hl0 hQ hN hF => ?_)
  refine z_start hX hF (fun hw => ?_)
  generalize va_A (mW G a M) sz = A at hQ hw ⊢
  obtain ⟨res, hv⟩ : ∃ res, v_X7_stopping M x1 x2 = res := ⟨_, rfl⟩
  rw [hv] at hQ
  unfold v_X7_stopping at hv
  unfold p_X7_stopping at hp
  show Z k_X7_stopping G Γ _ 0 0 [(0, .ref (a 0)), (1, .int x1), (2, .int x2)] 0 []
  refine z_aload_n dX7_stopping_0 rfl ?_
  refine mg_9 wr_P rfl dX7_stopping_1 ?_
  refine z_iload_n dX7_stopping_4 rfl ?_
  obtain ⟨q1, hp⟩ := hp
  refine ml_9 (x := (M.2.1 9) x1.toNatClampNeg) wr_P q1 rfl dX7_stopping_5 ?_
  refine z_istore_n (lv' := [(3, .int ((M.2.1 9) x1.toNatClampNeg)), (0, .ref (a 0)), (1, .int x1), (2, .int x2)]) dX7_stopping_6 (Nat.le_of_ble_eq_true rfl) rfl ?_
  refine z_iload_n dX7_stopping_7 rfl ?_
  refine z_iconst (v := 5) dX7_stopping_8 rfl ?_
  obtain ⟨hpm, hp⟩ := hp
  have J27 : ∀ M5 : mT, M5 = (if ((M.2.1 9) x1.toNatClampNeg) = 5 then v_X7_body M 60 else M) → Z k_X7_stopping G Γ (wr G A Γ.2.2.1.1.heap (mW G a M5)) 0 0 [(3, .int ((M.2.1 9) x1.toNatClampNeg)), (0, .ref (a 0)), (1, .int x1), (2, .int x2)] 18 [] := by
    intro M5 eM5
    have hp := kk_pq hp eM5
    have hv := kk_vq hv eM5
    clear eM5
    refine z_iload_n dX7_stopping_18 rfl ?_
    refine z_iconst (v := 4) dX7_stopping_19 rfl ?_
    obtain ⟨hpm, hp⟩ := hp
    have J28 : ∀ M13 : mT, M13 = (if ((M.2.1 9) x1.toNatClampNeg) = 4 then v_X7_body M5 50 else M12) → Z k_X7_stopping G Γ (wr G A Γ.2.2.1.1.heap (mW G a M13)) 0 0 [(3, .int ((M.2.1 9) x1.toNatClampNeg)), (0, .ref (a 0)), (1, .int x1), (2, .int x2)] 34 [] := by
      intro M13 eM13
      have hp := kk_pq hp eM13
      have hv := kk_vq hv eM13
      clear eM13
      refine z_aload_n dX7_stopping_34 rfl ?_
      refine z_bipush (v := 12) dX7_stopping_35 rfl ?_
      obtain ⟨q14, hp⟩ := hp
      refine z_cavv hw (fun sz => c_X7_body G a hw.1 sz M13 12 q14) zc_X7_body zv_X7_body tw_m_RX7_282 (mrec wr_P) (zroom_of rfl) rfl (Nat.le_of_ble_eq_true rfl) dX7_stopping_37 ?_
      intro w0 hw0
      generalize v_X7_body M13 12 = q15 at hp hv hw0
      have hp := kk_p hp
      have hv := kk_v hv
      subst hw0
      refine z_aload_n dX7_stopping_40 rfl ?_
      refine z_iload_n dX7_stopping_41 rfl ?_
      refine z_iload_n dX7_stopping_42 rfl ?_
      obtain ⟨q16, hp⟩ := hp
      refine z_cavi hw (fun sz => c_X7_looking G a hw.1 sz q15 x1 x2 q16) zc_X7_looking zv_X7_looking tw_m_RX7_288 (mrec wr_P) (zroom_of rfl) rfl (Nat.le_of_ble_eq_true rfl) dX7_stopping_43 ?_
      intro r0 w0 hw0
      generalize v_X7_looking q15 x1 x2 = q17 at hp hv hw0
      have hp := kk_p hp
      have hv := kk_v hv
      obtain ⟨rfl, rfl⟩ := hw0
      refine z_istore (lv' := [(4, .int q17.1), (3, .int ((M.2.1 9) x1.toNatClampNeg)), (0, .ref (a 0)), (1, .int x1), (2, .int x2)]) dX7_stopping_46 (Nat.le_of_ble_eq_true rfl) rfl ?_
      refine z_iload dX7_stopping_48 rfl ?_
      refine z_aload_n dX7_stopping_50 rfl ?_
      refine z_iload_n dX7_stopping_51 rfl ?_
      refine z_iload_n dX7_stopping_52 rfl ?_
      refine z_aload_n dX7_stopping_53 rfl ?_
      refine mg_10 wr_P rfl dX7_stopping_54 ?_
      refine z_iload_n dX7_stopping_57 rfl ?_
      obtain ⟨q18, hp⟩ := hp
      refine ml_10 (x := (q17.2.2.1 10) x1.toNatClampNeg) wr_P q18 rfl dX7_stopping_58 ?_
      refine z_isub dX7_stopping_59 ?_
      have q19 := hp
      refine z_cavi hw (fun sz => c_X7_walking G a hw.1 sz q17.2 x1 (x2 - ((q17.2.2.1 10) x1.toNatClampNeg)) q19) zc_X7_walking zv_X7_walking tw_m_RX7_285 (mrec wr_P) (zroom_of rfl) rfl (Nat.le_of_ble_eq_true rfl) dX7_stopping_60 ?_
      intro r0 w0 hw0
      generalize v_X7_walking q17.2 x1 (x2 - ((q17.2.2.1 10) x1.toNatClampNeg)) = q20 at hv hw0
      have hv := kk_v hv
      obtain ⟨rfl, rfl⟩ := hw0
      refine z_ixor dX7_stopping_63 ?_
      refine z_istore (lv' := [(4, .int (q17.1 ^^^ q20.1)), (3, .int ((M.2.1 9) x1.toNatClampNeg)), (0, .ref (a 0)), (1, .int x1), (2, .int x2)]) dX7_stopping_64 (Nat.le_of_ble_eq_true rfl) rfl ?_
      refine z_iload_n dX7_stopping_66 rfl ?_
      refine z_iconst (v := 4) dX7_stopping_67 rfl ?_
      have J29 : ∀ m24 : Int32, m24 = (if ((M.2.1 9) x1.toNatClampNeg) = 4 then -(q17.1 ^^^ q20.1) else (if ((M.2.1 9) x1.toNatClampNeg) = 5 then -(q17.1 ^^^ q20.1) else q17.1 ^^^ q20.1)) → Z k_X7_stopping G Γ (wr G A Γ.2.2.1.1.heap (mW G a q20.2)) 0 0 [(4, .int m24), (3, .int ((M.2.1 9) x1.toNatClampNeg)), (0, .ref (a 0)), (1, .int x1), (2, .int x2)] 81 [] := by
        intro m24 em24
        subst em24
        refine z_iload_n dX7_stopping_81 rfl ?_
        refine z_iconst (v := 5) dX7_stopping_82 rfl ?_
        have J30 : ∀ m26 : Int32, m26 = (if ((M.2.1 9) x1.toNatClampNeg) = 5 then (if ((M.2.1 9) x1.toNatClampNeg) = 4 then -(q17.1 ^^^ q20.1) else (if ((M.2.1 9) x1.toNatClampNeg) = 5 then -(q17.1 ^^^ q20.1) else q17.1 ^^^ q20.1)) ^^^ 5 else (if ((M.2.1 9) x1.toNatClampNeg) = 4 then -(q17.1 ^^^ q20.1) else (if ((M.2.1 9) x1.toNatClampNeg) = 5 then -(q17.1 ^^^ q20.1) else q17.1 ^^^ q20.1))) → Z k_X7_stopping G Γ (wr G A Γ.2.2.1.1.heap (mW G a q20.2)) 0 0 [(4, .int (if ((M.2.1 9) x1.toNatClampNeg) = 4 then -(q17.1 ^^^ q20.1) else (if ((M.2.1 9) x1.toNatClampNeg) = 5 then -(q17.1 ^^^ q20.1) else q17.1 ^^^ q20.1))), (3, .int ((M.2.1 9) x1.toNatClampNeg)), (0, .ref (a 0)), (1, .int x1), (2, .int x2)] 95 [.int m26] := by
          intro m26 em26
          subst em26
          subst hv; exact z_iret_W hQ rfl rfl rfl ⟨rfl, rfl⟩ dX7_stopping_95
        refine z_icmp_ne (tgt := 93) dX7_stopping_83 (by decide) (fun c25 => ?_) (fun c25 => ?_)
        · skip
          refine z_iload dX7_stopping_93 rfl ?_
          exact z_lv rfl (J30 (if ((M.2.1 9) x1.toNatClampNeg) = 4 then -(q17.1 ^^^ q20.1) else (if ((M.2.1 9) x1.toNatClampNeg) = 5 then -(q17.1 ^^^ q20.1) else q17.1 ^^^ q20.1)) (if_neg c25).symm)
        · skip
          refine z_iload dX7_stopping_86 rfl ?_
          refine z_iconst (v := 5) dX7_stopping_88 rfl ?_
          refine z_ixor dX7_stopping_89 ?_
          refine z_goto (tgt := 95) dX7_stopping_90 (by decide) ?_
          exact z_lv rfl (J30 ((if ((M.2.1 9) x1.toNatClampNeg) = 4 then -(q17.1 ^^^ q20.1) else (if ((M.2.1 9) x1.toNatClampNeg) = 5 then -(q17.1 ^^^ q20.1) else q17.1 ^^^ q20.1)) ^^^ 5) (if_pos c25).symm)
      refine z_icmp_eq (tgt := 76) dX7_stopping_68 (by decide) (fun c21 => ?_) (fun c21 => ?_)
      · skip
        refine z_iload dX7_stopping_76 rfl ?_
        refine z_ineg dX7_stopping_78 ?_
        refine z_istore (lv' := [(4, .int (-(q17.1 ^^^ q20.1))), (3, .int ((M.2.1 9) x1.toNatClampNeg)), (0, .ref (a 0)), (1, .int x1), (2, .int x2)]) dX7_stopping_79 (Nat.le_of_ble_eq_true rfl) rfl ?_
        exact z_lv rfl (J29 (-(q17.1 ^^^ q20.1)) (if_pos c21).symm)
      · skip
        refine z_iload_n dX7_stopping_71 rfl ?_
        refine z_iconst (v := 5) dX7_stopping_72 rfl ?_
        have J31 : ∀ m23 : Int32, m23 = (if ((M.2.1 9) x1.toNatClampNeg) = 5 then -(q17.1 ^^^ q20.1) else q17.1 ^^^ q20.1) → Z k_X7_stopping G Γ (wr G A Γ.2.2.1.1.heap (mW G a q20.2)) 0 0 [(4, .int m23), (3, .int ((M.2.1 9) x1.toNatClampNeg)), (0, .ref (a 0)), (1, .int x1), (2, .int x2)] 81 [] := by
          intro m23 em23
          subst em23
          exact z_lv rfl (J29 (if ((M.2.1 9) x1.toNatClampNeg) = 5 then -(q17.1 ^^^ q20.1) else q17.1 ^^^ q20.1) (if_neg c21).symm)
        refine z_icmp_ne (tgt := 81) dX7_stopping_73 (by decide) (fun c22 => ?_) (fun c22 => ?_)
        · skip
          exact z_lv rfl (J31 (q17.1 ^^^ q20.1) (if_neg c22).symm)
        · skip
          refine z_iload dX7_stopping_76 rfl ?_
          refine z_ineg dX7_stopping_78 ?_
          refine z_istore (lv' := [(4, .int (-(q17.1 ^^^ q20.1))), (3, .int ((M.2.1 9) x1.toNatClampNeg)), (0, .ref (a 0)), (1, .int x1), (2, .int x2)]) dX7_stopping_79 (Nat.le_of_ble_eq_true rfl) rfl ?_
          exact z_lv rfl (J31 (-(q17.1 ^^^ q20.1)) (if_pos c22).symm)
    refine z_icmp_eq (tgt := 28) dX7_stopping_20 (by decide) (fun c6 => ?_) (fun c6 => ?_)
    · have hp := ip_t hpm c6
      refine z_aload_n dX7_stopping_28 rfl ?_
      refine z_bipush (v := 50) dX7_stopping_29 rfl ?_
      have q7 := hp
      refine z_cavv hw (fun sz => c_X7_body G a hw.1 sz M5 50 q7) zc_X7_body zv_X7_body tw_m_RX7_282 (mrec wr_P) (zroom_of rfl) rfl (Nat.le_of_ble_eq_true rfl) dX7_stopping_31 ?_
      intro w0 hw0; subst hw0
      exact z_lv rfl (J28 (v_X7_body M5 50) (if_pos c6).symm)
    · have hp := ip_f hpm c6
      refine z_iload_n dX7_stopping_23 rfl ?_
      refine z_iconst (v := 5) dX7_stopping_24 rfl ?_
      have hpm := hp
      have J32 : ∀ M12 : mT, M12 = (if ((M.2.1 9) x1.toNatClampNeg) = 5 then v_X7_body M5 50 else M5) → Z k_X7_stopping G Γ (wr G A Γ.2.2.1.1.heap (mW G a M12)) 0 0 [(3, .int ((M.2.1 9) x1.toNatClampNeg)), (0, .ref (a 0)), (1, .int x1), (2, .int x2)] 34 [] := by
        intro M12 eM12
        have hv := kk_vq hv eM12
        clear eM12
        exact z_lv rfl (J28 M12 (if_neg c6).symm)
      refine z_icmp_ne (tgt := 34) dX7_stopping_25 (by decide) (fun c9 => ?_) (fun c9 => ?_)
      · have hp := ip_f hpm c9
        exact z_lv rfl (J32 M5 (if_neg c9).symm)
      · have hp := ip_t hpm c9
        refine z_aload_n dX7_stopping_28 rfl ?_
        refine z_bipush (v := 50) dX7_stopping_29 rfl ?_
        have q10 := hp
        refine z_cavv hw (fun sz => c_X7_body G a hw.1 sz M5 50 q10) zc_X7_body zv_X7_body tw_m_RX7_282 (mrec wr_P) (zroom_of rfl) rfl (Nat.le_of_ble_eq_true rfl) dX7_stopping_31 ?_
        intro w0 hw0; subst hw0
        exact z_lv rfl (J32 (v_X7_body M5 50) (if_pos c9).symm)
  refine z_icmp_ne (tgt := 18) dX7_stopping_9 (by decide) (fun c2 => ?_) (fun c2 => ?_)
  · have hp := ip_f hpm c2
    exact z_lv rfl (J27 M (if_neg c2).symm)
  · have hp := ip_t hpm c2
    refine z_aload_n dX7_stopping_12 rfl ?_
    refine z_bipush (v := 60) dX7_stopping_13 rfl ?_
    have q3 := hp
    refine z_cavv hw (fun sz => c_X7_body G a hw.1 sz M 60 q3) zc_X7_body zv_X7_body tw_m_RX7_282 (mrec wr_P) (zroom_of rfl) rfl (Nat.le_of_ble_eq_true rfl) dX7_stopping_15 ?_
    intro w0 hw0; subst hw0
    exact z_lv rfl (J27 (v_X7_body M 60) (if_pos c2).symm)
theorem dX7_act_0 : decode cX7_act 0 = .ok (.aload_n 0, 1) := by decide +kernel
theorem dX7_act_1 : decode cX7_act 1 = .ok (.iconst 0, 1) := by decide +kernel
theorem dX7_act_2 : decode cX7_act 2 = .ok (.putfield 279, 3) := by decide +kernel
theorem dX7_act_5 : decode cX7_act 5 = .ok (.aload_n 0, 1) := by decide +kernel
theorem dX7_act_6 : decode cX7_act 6 = .ok (.iload_n 1, 1) := by decide +kernel
theorem dX7_act_7 : decode cX7_act 7 = .ok (.invokevirtual 110, 3) := by decide +kernel
theorem dX7_act_10 : decode cX7_act 10 = .ok (.ifCond .eq 12, 3) := by decide +kernel
theorem dX7_act_13 : decode cX7_act 13 = .ok (.iload_n 2, 1) := by decide +kernel
theorem dX7_act_14 : decode cX7_act 14 = .ok (.ifCond .lt 8, 3) := by decide +kernel
theorem dX7_act_17 : decode cX7_act 17 = .ok (.iload_n 2, 1) := by decide +kernel
theorem dX7_act_18 : decode cX7_act 18 = .ok (.iconst 2, 1) := by decide +kernel
theorem dX7_act_19 : decode cX7_act 19 = .ok (.if_icmp .le 5, 3) := by decide +kernel
theorem dX7_act_22 : decode cX7_act 22 = .ok (.iconst 0, 1) := by decide +kernel
theorem dX7_act_23 : decode cX7_act 23 = .ok (.ireturn, 1) := by decide +kernel
theorem dX7_act_24 : decode cX7_act 24 = .ok (.iload_n 2, 1) := by decide +kernel
theorem dX7_act_25 : decode cX7_act 25 = .ok (.ifCond .ne 12, 3) := by decide +kernel
theorem dX7_act_28 : decode cX7_act 28 = .ok (.aload_n 0, 1) := by decide +kernel
theorem dX7_act_29 : decode cX7_act 29 = .ok (.iload_n 1, 1) := by decide +kernel
theorem dX7_act_30 : decode cX7_act 30 = .ok (.iload_n 3, 1) := by decide +kernel
theorem dX7_act_31 : decode cX7_act 31 = .ok (.invokevirtual 285, 3) := by decide +kernel
theorem dX7_act_34 : decode cX7_act 34 = .ok (.goto 23, 3) := by decide +kernel
theorem dX7_act_37 : decode cX7_act 37 = .ok (.iload_n 2, 1) := by decide +kernel
theorem dX7_act_38 : decode cX7_act 38 = .ok (.iconst 1, 1) := by decide +kernel
theorem dX7_act_39 : decode cX7_act 39 = .ok (.if_icmp .ne 12, 3) := by decide +kernel
theorem dX7_act_42 : decode cX7_act 42 = .ok (.aload_n 0, 1) := by decide +kernel
theorem dX7_act_43 : decode cX7_act 43 = .ok (.iload_n 1, 1) := by decide +kernel
theorem dX7_act_44 : decode cX7_act 44 = .ok (.iload_n 3, 1) := by decide +kernel
theorem dX7_act_45 : decode cX7_act 45 = .ok (.invokevirtual 288, 3) := by decide +kernel
theorem dX7_act_48 : decode cX7_act 48 = .ok (.goto 9, 3) := by decide +kernel
theorem dX7_act_51 : decode cX7_act 51 = .ok (.aload_n 0, 1) := by decide +kernel
theorem dX7_act_52 : decode cX7_act 52 = .ok (.iload_n 1, 1) := by decide +kernel
theorem dX7_act_53 : decode cX7_act 53 = .ok (.iload_n 3, 1) := by decide +kernel
theorem dX7_act_54 : decode cX7_act 54 = .ok (.invokevirtual 291, 3) := by decide +kernel
theorem dX7_act_57 : decode cX7_act 57 = .ok (.ireturn, 1) := by decide +kernel
abbrev k_X7_act : zK := (cX7_act, 4, RX7, (some .int), ({ frames := 4, cells := 0, slots := 0, locals := 94 } : Room))
theorem zc_X7_act : zcal yX7_act k_X7_act.1 k_X7_act.2.1 k_X7_act.2.2.2.1 3 := ⟨tw_code_yX7_act, tw_i_TollForHesitatorsModel, ⟨by decide +kernel, by decide +kernel⟩, by decide +kernel⟩
theorem zv_X7_act : Cond.instanceMethod yX7_act ∈ TS ∧ Cond.selects RX7 yX7_act yX7_act ∈ TS := ⟨tw_inst_yX7_act, tw_s_yX7_act⟩
def v_X7_act (M : mT) (x1 : Int32) (x2 : Int32) (x3 : Int32) : Int32 × mT := if (v_X7_isComer (msf M 43 0) x1) = 0 then (0, msf M 43 0) else if x2 < 0 then (0, msf M 43 0) else if x2 ≤ 2 then kk (if x2 = 0 then (v_X7_walking (msf M 43 0) x1 x3).2 else M10) (fun M14 : mT => ((if x2 = 0 then (v_X7_walking (msf M 43 0) x1 x3).1 else (if x2 = 1 then (v_X7_looking (msf M 43 0) x1 x3).1 else (v_X7_stopping (msf M 43 0) x1 x3).1)), M14)) else (0, msf M 43 0)
def p_X7_act (M : mT) (x1 : Int32) (x2 : Int32) (x3 : Int32) : Prop := if (v_X7_isComer (msf M 43 0) x1) = 0 then True else if x2 < 0 then True else if x2 ≤ 2 then if x2 = 0 then p_X7_walking (msf M 43 0) x1 x3 else if x2 = 1 then p_X7_looking (msf M 43 0) x1 x3 else p_X7_stopping (msf M 43 0) x1 x3 else True
set_option maxHeartbeats 4000000 in
theorem c_X7_act {l : Launch} (G : zG) (a : Nat → Nat) {X : zX} (hX : XOK X) (sz : Nat) (M : mT) (x1 : Int32) (x2 : Int32) (x3 : Int32) (hp : p_X7_act M x1 x2 x3) : Met l yX7_act (.code yX7_act k_X7_act.1 k_X7_act.2.1 k_X7_act.2.2.2.1 :: TS) k_X7_act.2.2.2.2 (Pz G [.ref (a 0), .int x1, .int x2, .int x3] (Fw G X (mW G a M) sz)) (Qwi G (fun r w => r = (v_X7_act M x1 x2 x3).1 ∧ w = mW G a (v_X7_act M x1 x2 x3).2) (va_A (mW G a M) sz)) 0 0 (va_A (mW G a M) sz) := by
  refine zmet (by decide +kernel) rfl rfl (fun Γ hl0 hQ hN hF => ?_)
  refine z_start hX hF (fun hw => ?_)
  generalize va_A (mW G a M) sz = A at hQ hw ⊢
  obtain ⟨res, hv⟩ : ∃ res, v_X7_act M x1 x2 x3 = res := ⟨_, rfl⟩
  rw [hv] at hQ
  unfold v_X7_act at hv
  unfold p_X7_act at hp
  show Z k_X7_act G Γ _ 0 0 [(0, .ref (a 0)), (1, .int x1), (2, .int x2), (3, .int x3)] 0 []
  refine z_aload_n dX7_act_0 rfl ?_
  refine z_iconst (v := 0) dX7_act_1 rfl ?_
  refine mp_43 (v := 0) rfl dX7_act_2 ?_
  refine z_aload_n dX7_act_5 rfl ?_
  refine z_iload_n dX7_act_6 rfl ?_
  refine z_cvi (c_X7_isComer G a (msf M 43 0) x1 ) zc_X7_isComer zv_X7_isComer tw_m_RX7_110 (mrec wr_P) wr_P (zroom_of rfl) rfl (Nat.le_of_ble_eq_true rfl) dX7_act_7 ?_
  refine z_if_eq (tgt := 22) dX7_act_10 (by decide) (fun c1 => ?_) (fun c1 => ?_)
  · have hp := ip_t hp c1; have hv := it_t hv c1
    refine z_iconst (v := 0) dX7_act_22 rfl ?_
    subst hv; exact z_iret_W hQ rfl rfl rfl ⟨rfl, rfl⟩ dX7_act_23
  · have hp := ip_f hp c1; have hv := it_f hv c1
    refine z_iload_n dX7_act_13 rfl ?_
    refine z_if_lt (tgt := 22) dX7_act_14 (by decide) (fun c2 => ?_) (fun c2 => ?_)
    · have hp := ip_t hp c2; have hv := it_t hv c2
      refine z_iconst (v := 0) dX7_act_22 rfl ?_
      subst hv; exact z_iret_W hQ rfl rfl rfl ⟨rfl, rfl⟩ dX7_act_23
    · have hp := ip_f hp c2; have hv := it_f hv c2
      refine z_iload_n dX7_act_17 rfl ?_
      refine z_iconst (v := 2) dX7_act_18 rfl ?_
      refine z_icmp_le (tgt := 24) dX7_act_19 (by decide) (fun c3 => ?_) (fun c3 => ?_)
      · have hp := ip_t hp c3; have hv := it_t hv c3
        refine z_iload_n dX7_act_24 rfl ?_
        have hpm := hp
        have J16 : ∀ M14 : mT, M14 = (if x2 = 0 then (v_X7_walking (msf M 43 0) x1 x3).2 else M10) → ∀ m15 : Int32, m15 = (if x2 = 0 then (v_X7_walking (msf M 43 0) x1 x3).1 else (if x2 = 1 then (v_X7_looking (msf M 43 0) x1 x3).1 else (v_X7_stopping (msf M 43 0) x1 x3).1)) → Z k_X7_act G Γ (wr G A Γ.2.2.1.1.heap (mW G a M14)) 0 0 [(0, .ref (a 0)), (1, .int x1), (2, .int x2), (3, .int x3)] 57 [.int m15] := by
          intro M14 eM14 m15 em15
          have hv := kk_vq hv eM14
          clear eM14
          subst em15
          subst hv; exact z_iret_W hQ rfl rfl rfl ⟨rfl, rfl⟩ dX7_act_57
        refine z_if_ne (tgt := 37) dX7_act_25 (by decide) (fun c4 => ?_) (fun c4 => ?_)
        · have hp := ip_f hpm c4
          refine z_iload_n dX7_act_37 rfl ?_
          refine z_iconst (v := 1) dX7_act_38 rfl ?_
          have hpm := hp
          have J17 : ∀ M10 : mT, M10 = (if x2 = 1 then (v_X7_looking (msf M 43 0) x1 x3).2 else (v_X7_stopping (msf M 43 0) x1 x3).2) → ∀ m11 : Int32, m11 = (if x2 = 1 then (v_X7_looking (msf M 43 0) x1 x3).1 else (v_X7_stopping (msf M 43 0) x1 x3).1) → Z k_X7_act G Γ (wr G A Γ.2.2.1.1.heap (mW G a M10)) 0 0 [(0, .ref (a 0)), (1, .int x1), (2, .int x2), (3, .int x3)] 57 [.int m11] := by
            intro M10 eM10 m11 em11
            have hv := kk_vq hv eM10
            clear eM10
            subst em11
            exact z_lv rfl (J16 M10 (if_neg c4).symm (if x2 = 1 then (v_X7_looking (msf M 43 0) x1 x3).1 else (v_X7_stopping (msf M 43 0) x1 x3).1) (if_neg c4).symm)
          refine z_icmp_ne (tgt := 51) dX7_act_39 (by decide) (fun c5 => ?_) (fun c5 => ?_)
          · have hp := ip_f hpm c5
            refine z_aload_n dX7_act_51 rfl ?_
            refine z_iload_n dX7_act_52 rfl ?_
            refine z_iload_n dX7_act_53 rfl ?_
            have q6 := hp
            refine z_cavi hw (fun sz => c_X7_stopping G a hw.1 sz (msf M 43 0) x1 x3 q6) zc_X7_stopping zv_X7_stopping tw_m_RX7_291 (mrec wr_P) (zroom_of rfl) rfl (Nat.le_of_ble_eq_true rfl) dX7_act_54 ?_
            intro r0 w0 hw0; obtain ⟨rfl, rfl⟩ := hw0
            exact z_lv rfl (J17 ((v_X7_stopping (msf M 43 0) x1 x3).2) (if_neg c5).symm ((v_X7_stopping (msf M 43 0) x1 x3).1) (if_neg c5).symm)
          · have hp := ip_t hpm c5
            refine z_aload_n dX7_act_42 rfl ?_
            refine z_iload_n dX7_act_43 rfl ?_
            refine z_iload_n dX7_act_44 rfl ?_
            have q8 := hp
            refine z_cavi hw (fun sz => c_X7_looking G a hw.1 sz (msf M 43 0) x1 x3 q8) zc_X7_looking zv_X7_looking tw_m_RX7_288 (mrec wr_P) (zroom_of rfl) rfl (Nat.le_of_ble_eq_true rfl) dX7_act_45 ?_
            intro r0 w0 hw0; obtain ⟨rfl, rfl⟩ := hw0
            refine z_goto (tgt := 57) dX7_act_48 (by decide) ?_
            exact z_lv rfl (J17 ((v_X7_looking (msf M 43 0) x1 x3).2) (if_pos c5).symm ((v_X7_looking (msf M 43 0) x1 x3).1) (if_pos c5).symm)
        · have hp := ip_t hpm c4
          refine z_aload_n dX7_act_28 rfl ?_
          refine z_iload_n dX7_act_29 rfl ?_
          refine z_iload_n dX7_act_30 rfl ?_
          have q12 := hp
          refine z_cavi hw (fun sz => c_X7_walking G a hw.1 sz (msf M 43 0) x1 x3 q12) zc_X7_walking zv_X7_walking tw_m_RX7_285 (mrec wr_P) (zroom_of rfl) rfl (Nat.le_of_ble_eq_true rfl) dX7_act_31 ?_
          intro r0 w0 hw0; obtain ⟨rfl, rfl⟩ := hw0
          refine z_goto (tgt := 57) dX7_act_34 (by decide) ?_
          exact z_lv rfl (J16 ((v_X7_walking (msf M 43 0) x1 x3).2) (if_pos c4).symm ((v_X7_walking (msf M 43 0) x1 x3).1) (if_pos c4).symm)
      · have hp := ip_f hp c3; have hv := it_f hv c3
        refine z_iconst (v := 0) dX7_act_22 rfl ?_
        subst hv; exact z_iret_W hQ rfl rfl rfl ⟨rfl, rfl⟩ dX7_act_23
theorem dX7_trace_0 : decode cX7_trace 0 = .ok (.iload_n 1, 1) := by decide +kernel
theorem dX7_trace_1 : decode cX7_trace 1 = .ok (.ifCond .lt 26, 3) := by decide +kernel
theorem dX7_trace_4 : decode cX7_trace 4 = .ok (.iload_n 1, 1) := by decide +kernel
theorem dX7_trace_5 : decode cX7_trace 5 = .ok (.bipush 20, 2) := by decide +kernel
theorem dX7_trace_7 : decode cX7_trace 7 = .ok (.if_icmp .ge 20, 3) := by decide +kernel
theorem dX7_trace_10 : decode cX7_trace 10 = .ok (.iload_n 1, 1) := by decide +kernel
theorem dX7_trace_11 : decode cX7_trace 11 = .ok (.aload_n 0, 1) := by decide +kernel
theorem dX7_trace_12 : decode cX7_trace 12 = .ok (.getfield 279, 3) := by decide +kernel
theorem dX7_trace_15 : decode cX7_trace 15 = .ok (.if_icmp .ge 12, 3) := by decide +kernel
theorem dX7_trace_18 : decode cX7_trace 18 = .ok (.aload_n 0, 1) := by decide +kernel
theorem dX7_trace_19 : decode cX7_trace 19 = .ok (.getfield 96, 3) := by decide +kernel
theorem dX7_trace_22 : decode cX7_trace 22 = .ok (.iload_n 1, 1) := by decide +kernel
theorem dX7_trace_23 : decode cX7_trace 23 = .ok (.iaload, 1) := by decide +kernel
theorem dX7_trace_24 : decode cX7_trace 24 = .ok (.goto 4, 3) := by decide +kernel
theorem dX7_trace_27 : decode cX7_trace 27 = .ok (.iconst (-1), 1) := by decide +kernel
theorem dX7_trace_28 : decode cX7_trace 28 = .ok (.ireturn, 1) := by decide +kernel
abbrev k_X7_trace : zK := (cX7_trace, 2, RX7, (some .int), ({ frames := 0, cells := 0, slots := 0, locals := 0 } : Room))
theorem zc_X7_trace : zcal yX7_trace k_X7_trace.1 k_X7_trace.2.1 k_X7_trace.2.2.2.1 1 := ⟨tw_code_yX7_trace, tw_i_TollForHesitatorsModel, ⟨by decide +kernel, by decide +kernel⟩, by decide +kernel⟩
theorem zv_X7_trace : Cond.instanceMethod yX7_trace ∈ TS ∧ Cond.selects RX7 yX7_trace yX7_trace ∈ TS := ⟨tw_inst_yX7_trace, tw_s_yX7_trace⟩
def v_X7_trace (M : mT) (x1 : Int32) : Int32 := (if x1 < 0 then (-1) else (if 20 ≤ x1 then (-1) else (if (M.1 43) ≤ x1 then (-1) else (M.2.1 42) x1.toNatClampNeg)))
def p_X7_trace (M : mT) (x1 : Int32) : Prop := if x1 < 0 then True else if 20 ≤ x1 then True else if (M.1 43) ≤ x1 then True else vp_in x1 20
set_option maxHeartbeats 4000000 in
theorem c_X7_trace {l : Launch} (G : zG) (a : Nat → Nat) (M : mT) (x1 : Int32) (hp : p_X7_trace M x1) : Met l yX7_trace (.code yX7_trace k_X7_trace.1 k_X7_trace.2.1 k_X7_trace.2.2.2.1 :: TS) k_X7_trace.2.2.2.2 (Pz G [.ref (a 0), .int x1] (va_P G.2.1 CL (mW G a M))) (vp_Si (fun r => r = v_X7_trace M x1)) 0 0 (fun _ => False) := by
  refine zmet (by decide +kernel) rfl rfl (fun Γ hl0 hQ hN hF => ?_)
  have hI := rd_P (G := G) hF
  obtain ⟨res, hv⟩ : ∃ res, v_X7_trace M x1 = res := ⟨_, rfl⟩
  rw [hv] at hQ
  unfold v_X7_trace at hv
  unfold p_X7_trace at hp
  show Z k_X7_trace G Γ _ 0 0 [(0, .ref (a 0)), (1, .int x1)] 0 []
  refine z_iload_n dX7_trace_0 rfl ?_
  have hpm := hp
  have J8 : ∀ m7 : Int32, m7 = (if x1 < 0 then (-1) else (if 20 ≤ x1 then (-1) else (if (M.1 43) ≤ x1 then (-1) else (M.2.1 42) x1.toNatClampNeg))) → Z k_X7_trace G Γ (rd Γ.2.2.1.1.heap) 0 0 [(0, .ref (a 0)), (1, .int x1)] 28 [.int m7] := by
    intro m7 em7
    subst em7
    exact z_iret_S hQ rfl hv dX7_trace_28
  refine z_if_lt (tgt := 27) dX7_trace_1 (by decide) (fun c1 => ?_) (fun c1 => ?_)
  · have hp := ip_t hpm c1
    refine z_iconst (v := (-1)) dX7_trace_27 rfl ?_
    exact z_lv rfl (J8 (-1) (if_pos c1).symm)
  · have hp := ip_f hpm c1
    refine z_iload_n dX7_trace_4 rfl ?_
    refine z_bipush (v := 20) dX7_trace_5 rfl ?_
    have hpm := hp
    have J9 : ∀ m6 : Int32, m6 = (if 20 ≤ x1 then (-1) else (if (M.1 43) ≤ x1 then (-1) else (M.2.1 42) x1.toNatClampNeg)) → Z k_X7_trace G Γ (rd Γ.2.2.1.1.heap) 0 0 [(0, .ref (a 0)), (1, .int x1)] 28 [.int m6] := by
      intro m6 em6
      subst em6
      exact z_lv rfl (J8 (if 20 ≤ x1 then (-1) else (if (M.1 43) ≤ x1 then (-1) else (M.2.1 42) x1.toNatClampNeg)) (if_neg c1).symm)
    refine z_icmp_ge (tgt := 27) dX7_trace_7 (by decide) (fun c2 => ?_) (fun c2 => ?_)
    · have hp := ip_t hpm c2
      refine z_iconst (v := (-1)) dX7_trace_27 rfl ?_
      exact z_lv rfl (J9 (-1) (if_pos c2).symm)
    · have hp := ip_f hpm c2
      refine z_iload_n dX7_trace_10 rfl ?_
      refine z_aload_n dX7_trace_11 rfl ?_
      refine mg_43 (v := M.1 43) hI rfl rfl dX7_trace_12 ?_
      have hpm := hp
      have J10 : ∀ m5 : Int32, m5 = (if (M.1 43) ≤ x1 then (-1) else (M.2.1 42) x1.toNatClampNeg) → Z k_X7_trace G Γ (rd Γ.2.2.1.1.heap) 0 0 [(0, .ref (a 0)), (1, .int x1)] 28 [.int m5] := by
        intro m5 em5
        subst em5
        exact z_lv rfl (J9 (if (M.1 43) ≤ x1 then (-1) else (M.2.1 42) x1.toNatClampNeg) (if_neg c2).symm)
      refine z_icmp_ge (tgt := 27) dX7_trace_15 (by decide) (fun c3 => ?_) (fun c3 => ?_)
      · have hp := ip_t hpm c3
        refine z_iconst (v := (-1)) dX7_trace_27 rfl ?_
        exact z_lv rfl (J10 (-1) (if_pos c3).symm)
      · have hp := ip_f hpm c3
        refine z_aload_n dX7_trace_18 rfl ?_
        refine mg_42 hI rfl dX7_trace_19 ?_
        refine z_iload_n dX7_trace_22 rfl ?_
        have q4 := hp
        refine ml_42 (x := (M.2.1 42) x1.toNatClampNeg) hI q4 rfl dX7_trace_23 ?_
        refine z_goto (tgt := 28) dX7_trace_24 (by decide) ?_
        exact z_lv rfl (J10 ((M.2.1 42) x1.toNatClampNeg) (if_neg c3).symm)
theorem dX7_image_0 : decode cX7_image 0 = .ok (.aload_n 0, 1) := by decide +kernel
theorem dX7_image_1 : decode cX7_image 1 = .ok (.iconst 1, 1) := by decide +kernel
theorem dX7_image_2 : decode cX7_image 2 = .ok (.putfield 294, 3) := by decide +kernel
theorem dX7_image_5 : decode cX7_image 5 = .ok (.aload_n 0, 1) := by decide +kernel
theorem dX7_image_6 : decode cX7_image 6 = .ok (.aload_n 0, 1) := by decide +kernel
theorem dX7_image_7 : decode cX7_image 7 = .ok (.getfield 84, 3) := by decide +kernel
theorem dX7_image_10 : decode cX7_image 10 = .ok (.iconst 0, 1) := by decide +kernel
theorem dX7_image_11 : decode cX7_image 11 = .ok (.invokevirtual 183, 3) := by decide +kernel
theorem dX7_image_14 : decode cX7_image 14 = .ok (.aload_n 0, 1) := by decide +kernel
theorem dX7_image_15 : decode cX7_image 15 = .ok (.getfield 99, 3) := by decide +kernel
theorem dX7_image_18 : decode cX7_image 18 = .ok (.ireturn, 1) := by decide +kernel
abbrev k_X7_image : zK := (cX7_image, 1, RX7, (some .int), ({ frames := 2, cells := 0, slots := 0, locals := 48 } : Room))
theorem zc_X7_image : zcal yX7_image k_X7_image.1 k_X7_image.2.1 k_X7_image.2.2.2.1 0 := ⟨tw_code_yX7_image, tw_i_TollForHesitatorsModel, ⟨by decide +kernel, by decide +kernel⟩, by decide +kernel⟩
theorem zv_X7_image : Cond.instanceMethod yX7_image ∈ TS ∧ Cond.selects RX7 yX7_image yX7_image ∈ TS := ⟨tw_inst_yX7_image, tw_s_yX7_image⟩
def v_X7_image (M : mT) : Int32 × mT := kk (v_X7_all (msf M 44 1) 32 0) (fun q2 : mT => (q2.1 0, q2))
def p_X7_image (M : mT) : Prop := p_X7_all (msf M 44 1) 32 0
set_option maxHeartbeats 4000000 in
theorem c_X7_image {l : Launch} (G : zG) (a : Nat → Nat) {X : zX} (hX : XOK X) (sz : Nat) (M : mT) (hp : p_X7_image M) : Met l yX7_image (.code yX7_image k_X7_image.1 k_X7_image.2.1 k_X7_image.2.2.2.1 :: TS) k_X7_image.2.2.2.2 (Pz G [.ref (a 0)] (Fw G X (mW G a M) sz)) (Qwi G (fun r w => r = (v_X7_image M).1 ∧ w = mW G a (v_X7_image M).2) (va_A (mW G a M) sz)) 0 0 (va_A (mW G a M) sz) := by
  refine zmet (by decide +kernel) rfl rfl (fun Γ hl0 hQ hN hF => ?_)
  refine z_start hX hF (fun hw => ?_)
  generalize va_A (mW G a M) sz = A at hQ hw ⊢
  obtain ⟨res, hv⟩ : ∃ res, v_X7_image M = res := ⟨_, rfl⟩
  rw [hv] at hQ
  unfold v_X7_image at hv
  unfold p_X7_image at hp
  show Z k_X7_image G Γ _ 0 0 [(0, .ref (a 0))] 0 []
  refine z_aload_n dX7_image_0 rfl ?_
  refine z_iconst (v := 1) dX7_image_1 rfl ?_
  refine mp_44 (v := 1) rfl rfl rfl dX7_image_2 ?_
  refine z_aload_n dX7_image_5 rfl ?_
  refine z_aload_n dX7_image_6 rfl ?_
  refine mg_32 wr_P rfl dX7_image_7 ?_
  refine z_iconst (v := 0) dX7_image_10 rfl ?_
  have q1 := hp
  refine z_cavv hw (fun sz => c_X7_all G a hw.1 sz (msf M 44 1) 32 0 q1) zc_X7_all zv_X7_all tw_m_RX7_183 (mrec wr_P) (zroom_of rfl) rfl (Nat.le_of_ble_eq_true rfl) dX7_image_11 ?_
  intro w0 hw0
  generalize v_X7_all (msf M 44 1) 32 0 = q2 at hv hw0
  have hv := kk_v hv
  subst hw0
  refine z_aload_n dX7_image_14 rfl ?_
  refine mg_0 (v := q2.1 0) wr_P rfl rfl dX7_image_15 ?_
  subst hv; exact z_iret_W hQ rfl rfl rfl ⟨rfl, rfl⟩ dX7_image_18
theorem dX7_restore_0 : decode cX7_restore 0 = .ok (.aload_n 0, 1) := by decide +kernel
theorem dX7_restore_1 : decode cX7_restore 1 = .ok (.getfield 294, 3) := by decide +kernel
theorem dX7_restore_4 : decode cX7_restore 4 = .ok (.ifCond .ne 10, 3) := by decide +kernel
theorem dX7_restore_7 : decode cX7_restore 7 = .ok (.aload_n 0, 1) := by decide +kernel
theorem dX7_restore_8 : decode cX7_restore 8 = .ok (.bipush (-6), 2) := by decide +kernel
theorem dX7_restore_10 : decode cX7_restore 10 = .ok (.invokevirtual 106, 3) := by decide +kernel
theorem dX7_restore_13 : decode cX7_restore 13 = .ok (.ireturn, 1) := by decide +kernel
theorem dX7_restore_14 : decode cX7_restore 14 = .ok (.aload_n 0, 1) := by decide +kernel
theorem dX7_restore_15 : decode cX7_restore 15 = .ok (.aload_n 0, 1) := by decide +kernel
theorem dX7_restore_16 : decode cX7_restore 16 = .ok (.getfield 84, 3) := by decide +kernel
theorem dX7_restore_19 : decode cX7_restore 19 = .ok (.iconst 1, 1) := by decide +kernel
theorem dX7_restore_20 : decode cX7_restore 20 = .ok (.invokevirtual 183, 3) := by decide +kernel
theorem dX7_restore_23 : decode cX7_restore 23 = .ok (.iconst 0, 1) := by decide +kernel
theorem dX7_restore_24 : decode cX7_restore 24 = .ok (.istore_n 1, 1) := by decide +kernel
theorem dX7_restore_25 : decode cX7_restore 25 = .ok (.iload_n 1, 1) := by decide +kernel
theorem dX7_restore_26 : decode cX7_restore 26 = .ok (.bipush 8, 2) := by decide +kernel
theorem dX7_restore_28 : decode cX7_restore 28 = .ok (.if_icmp .ge 39, 3) := by decide +kernel
theorem dX7_restore_31 : decode cX7_restore 31 = .ok (.aload_n 0, 1) := by decide +kernel
theorem dX7_restore_32 : decode cX7_restore 32 = .ok (.getfield 50, 3) := by decide +kernel
theorem dX7_restore_35 : decode cX7_restore 35 = .ok (.iload_n 1, 1) := by decide +kernel
theorem dX7_restore_36 : decode cX7_restore 36 = .ok (.iaload, 1) := by decide +kernel
theorem dX7_restore_37 : decode cX7_restore 37 = .ok (.iconst 2, 1) := by decide +kernel
theorem dX7_restore_38 : decode cX7_restore 38 = .ok (.if_icmp .ne 23, 3) := by decide +kernel
theorem dX7_restore_41 : decode cX7_restore 41 = .ok (.aload_n 0, 1) := by decide +kernel
theorem dX7_restore_42 : decode cX7_restore 42 = .ok (.getfield 59, 3) := by decide +kernel
theorem dX7_restore_45 : decode cX7_restore 45 = .ok (.iload_n 1, 1) := by decide +kernel
theorem dX7_restore_46 : decode cX7_restore 46 = .ok (.iaload, 1) := by decide +kernel
theorem dX7_restore_47 : decode cX7_restore 47 = .ok (.aload_n 0, 1) := by decide +kernel
theorem dX7_restore_48 : decode cX7_restore 48 = .ok (.getfield 99, 3) := by decide +kernel
theorem dX7_restore_51 : decode cX7_restore 51 = .ok (.if_icmp .lt 10, 3) := by decide +kernel
theorem dX7_restore_54 : decode cX7_restore 54 = .ok (.aload_n 0, 1) := by decide +kernel
theorem dX7_restore_55 : decode cX7_restore 55 = .ok (.getfield 50, 3) := by decide +kernel
theorem dX7_restore_58 : decode cX7_restore 58 = .ok (.iload_n 1, 1) := by decide +kernel
theorem dX7_restore_59 : decode cX7_restore 59 = .ok (.iconst 0, 1) := by decide +kernel
theorem dX7_restore_60 : decode cX7_restore 60 = .ok (.iastore, 1) := by decide +kernel
theorem dX7_restore_61 : decode cX7_restore 61 = .ok (.iinc 1 1, 3) := by decide +kernel
theorem dX7_restore_64 : decode cX7_restore 64 = .ok (.goto (-39), 3) := by decide +kernel
theorem dX7_restore_67 : decode cX7_restore 67 = .ok (.aload_n 0, 1) := by decide +kernel
theorem dX7_restore_68 : decode cX7_restore 68 = .ok (.getfield 99, 3) := by decide +kernel
theorem dX7_restore_71 : decode cX7_restore 71 = .ok (.ireturn, 1) := by decide +kernel
abbrev k_X7_restore : zK := (cX7_restore, 2, RX7, (some .int), ({ frames := 2, cells := 0, slots := 0, locals := 48 } : Room))
theorem zc_X7_restore : zcal yX7_restore k_X7_restore.1 k_X7_restore.2.1 k_X7_restore.2.2.2.1 0 := ⟨tw_code_yX7_restore, tw_i_TollForHesitatorsModel, ⟨by decide +kernel, by decide +kernel⟩, by decide +kernel⟩
theorem zv_X7_restore : Cond.instanceMethod yX7_restore ∈ TS ∧ Cond.selects RX7 yX7_restore yX7_restore ∈ TS := ⟨tw_inst_yX7_restore, tw_s_yX7_restore⟩
def v_X7_restore_r : Nat → mT → Int32 → Int32 × mT
  | 0, M, _ => (0, M)
  | n + 1, M, v1 => if 8 ≤ v1 then (M.1 0, M) else kk (if ((M.2.1 16) v1.toNatClampNeg) = 2 then M19 else M) (fun M20 : mT => v_X7_restore_r n M20 (v1 + 1))
def p_X7_restore_r : Nat → mT → Int32 → Prop
  | 0, _, _ => False
  | n + 1, M, v1 => if 8 ≤ v1 then True else vp_in v1 8 ∧ ((if ((M.2.1 16) v1.toNatClampNeg) = 2 then vp_in v1 8 ∧ (if ((M.2.1 19) v1.toNatClampNeg) < (M.1 0) then True else vp_in v1 8) else True) ∧ (kk (if ((M.2.1 16) v1.toNatClampNeg) = 2 then M19 else M) (fun M20 : mT => p_X7_restore_r n M20 (v1 + 1))))
set_option maxHeartbeats 4000000 in
theorem w_X7_restore {G : zG} {Γ : zT} {a : Nat → Nat} {A : Nat → Prop} {res : Int32 × mT} {X : zX} (hw : wk X A Γ.2.2.1.1.heap) (hQ : zQ Γ (Qwi G (fun r w => r = res.1 ∧ w = mW G a res.2) A) 0 0 A) : ∀ n : Nat, (∀ (M : mT) (v1 : Int32), p_X7_restore_r n M v1 → v_X7_restore_r n M v1 = res → Z k_X7_restore G Γ (wr G A Γ.2.2.1.1.heap (mW G a M)) 0 0 [(0, .ref (a 0)), (1, .int v1)] 25 []) := by
  intro n
  induction n with
  | zero => exact fun M v1 hp => absurd hp (by rw [p_X7_restore_r]; exact not_false)
  | succ n ih =>
    intro M v1 hp hv
    rw [p_X7_restore_r] at hp
    rw [v_X7_restore_r] at hv
    refine z_iload_n dX7_restore_25 rfl ?_
    refine z_bipush (v := 8) dX7_restore_26 rfl ?_
    refine z_icmp_ge (tgt := 67) dX7_restore_28 (by decide) (fun c6 => ?_) (fun c6 => ?_)
    · have hp := ip_t hp c6; have hv := it_t hv c6
      refine z_aload_n dX7_restore_67 rfl ?_
      refine mg_0 (v := M.1 0) wr_P rfl rfl dX7_restore_68 ?_
      subst hv; exact z_iret_W hQ rfl rfl rfl ⟨rfl, rfl⟩ dX7_restore_71
    · have hp := ip_f hp c6; have hv := it_f hv c6
      refine z_aload_n dX7_restore_31 rfl ?_
      refine mg_16 wr_P rfl dX7_restore_32 ?_
      refine z_iload_n dX7_restore_35 rfl ?_
      obtain ⟨q14, hp⟩ := hp
      refine ml_16 (x := (M.2.1 16) v1.toNatClampNeg) wr_P q14 rfl dX7_restore_36 ?_
      refine z_iconst (v := 2) dX7_restore_37 rfl ?_
      obtain ⟨hpm, hp⟩ := hp
      have J21 : ∀ M20 : mT, M20 = (if ((M.2.1 16) v1.toNatClampNeg) = 2 then M19 else M) → Z k_X7_restore G Γ (wr G A Γ.2.2.1.1.heap (mW G a M20)) 0 0 [(0, .ref (a 0)), (1, .int v1)] 61 [] := by
        intro M20 eM20
        have hp := kk_pq hp eM20
        have hv := kk_vq hv eM20
        clear eM20
        refine z_iinc (v := v1 + 1) (lv' := [(1, .int (v1 + 1)), (0, .ref (a 0))]) dX7_restore_61 1 rfl rfl (Nat.le_of_ble_eq_true rfl) rfl ?_
        refine z_goto (tgt := 25) dX7_restore_64 (by decide) ?_
        exact z_lv rfl ((ih) M20 (v1 + 1) hp hv)
      refine z_icmp_ne (tgt := 61) dX7_restore_38 (by decide) (fun c15 => ?_) (fun c15 => ?_)
      · have hp := ip_f hpm c15
        exact z_lv rfl (J21 M (if_neg c15).symm)
      · have hp := ip_t hpm c15
        refine z_aload_n dX7_restore_41 rfl ?_
        refine mg_19 wr_P rfl dX7_restore_42 ?_
        refine z_iload_n dX7_restore_45 rfl ?_
        obtain ⟨q16, hp⟩ := hp
        refine ml_19 (x := (M.2.1 19) v1.toNatClampNeg) wr_P q16 rfl dX7_restore_46 ?_
        refine z_aload_n dX7_restore_47 rfl ?_
        refine mg_0 (v := M.1 0) wr_P rfl rfl dX7_restore_48 ?_
        have hpm := hp
        have J22 : ∀ M19 : mT, M19 = (if ((M.2.1 19) v1.toNatClampNeg) < (M.1 0) then M else msa M 16 (upd (M.2.1 16) v1.toNatClampNeg 0)) → Z k_X7_restore G Γ (wr G A Γ.2.2.1.1.heap (mW G a M19)) 0 0 [(0, .ref (a 0)), (1, .int v1)] 61 [] := by
          intro M19 eM19
          have hv := kk_vq hv eM19
          clear eM19
          exact z_lv rfl (J21 M19 (if_pos c15).symm)
        refine z_icmp_lt (tgt := 61) dX7_restore_51 (by decide) (fun c17 => ?_) (fun c17 => ?_)
        · have hp := ip_t hpm c17
          exact z_lv rfl (J22 M (if_pos c17).symm)
        · have hp := ip_f hpm c17
          refine z_aload_n dX7_restore_54 rfl ?_
          refine mg_16 wr_P rfl dX7_restore_55 ?_
          refine z_iload_n dX7_restore_58 rfl ?_
          refine z_iconst (v := 0) dX7_restore_59 rfl ?_
          have q18 := hp
          refine ms_16 (F := upd (M.2.1 16) v1.toNatClampNeg 0) q18 rfl dX7_restore_60 ?_
          exact z_lv rfl (J22 (msa M 16 (upd (M.2.1 16) v1.toNatClampNeg 0)) (if_neg c17).symm)
def v_X7_restore (M : mT) : Int32 × mT := if (M.1 44) = 0 then kk (v_X7_no M (-6)) (fun q5 : Int32 × mT => (q5.1, q5.2)) else kk (v_X7_all M 32 1) (fun q3 : mT => v_X7_restore_r 200 q3 0)
def p_X7_restore (M : mT) : Prop := if (M.1 44) = 0 then p_X7_no M (-6) else p_X7_all M 32 1 ∧ (kk (v_X7_all M 32 1) (fun q3 : mT => p_X7_restore_r 200 q3 0))
set_option maxHeartbeats 4000000 in
theorem c_X7_restore {l : Launch} (G : zG) (a : Nat → Nat) {X : zX} (hX : XOK X) (sz : Nat) (M : mT) (hp : p_X7_restore M) : Met l yX7_restore (.code yX7_restore k_X7_restore.1 k_X7_restore.2.1 k_X7_restore.2.2.2.1 :: TS) k_X7_restore.2.2.2.2 (Pz G [.ref (a 0)] (Fw G X (mW G a M) sz)) (Qwi G (fun r w => r = (v_X7_restore M).1 ∧ w = mW G a (v_X7_restore M).2) (va_A (mW G a M) sz)) 0 0 (va_A (mW G a M) sz) := by
  refine zmet (by decide +kernel) rfl rfl (fun Γ hl0 hQ hN hF => ?_)
  refine z_start hX hF (fun hw => ?_)
  generalize va_A (mW G a M) sz = A at hQ hw ⊢
  obtain ⟨res, hv⟩ : ∃ res, v_X7_restore M = res := ⟨_, rfl⟩
  rw [hv] at hQ
  unfold v_X7_restore at hv
  unfold p_X7_restore at hp
  show Z k_X7_restore G Γ _ 0 0 [(0, .ref (a 0))] 0 []
  refine z_aload_n dX7_restore_0 rfl ?_
  refine mg_44 (v := M.1 44) wr_P rfl rfl dX7_restore_1 ?_
  refine z_if_ne (tgt := 14) dX7_restore_4 (by decide) (fun c1 => ?_) (fun c1 => ?_)
  · have hp := ip_f hp c1; have hv := it_f hv c1
    refine z_aload_n dX7_restore_14 rfl ?_
    refine z_aload_n dX7_restore_15 rfl ?_
    refine mg_32 wr_P rfl dX7_restore_16 ?_
    refine z_iconst (v := 1) dX7_restore_19 rfl ?_
    obtain ⟨q2, hp⟩ := hp
    refine z_cavv hw (fun sz => c_X7_all G a hw.1 sz M 32 1 q2) zc_X7_all zv_X7_all tw_m_RX7_183 (mrec wr_P) (zroom_of rfl) rfl (Nat.le_of_ble_eq_true rfl) dX7_restore_20 ?_
    intro w0 hw0
    generalize v_X7_all M 32 1 = q3 at hp hv hw0
    have hp := kk_p hp
    have hv := kk_v hv
    subst hw0
    refine z_iconst (v := 0) dX7_restore_23 rfl ?_
    refine z_istore_n (lv' := [(1, .int 0), (0, .ref (a 0))]) dX7_restore_24 (Nat.le_of_ble_eq_true rfl) rfl ?_
    exact z_lv rfl ((w_X7_restore hw hQ 200) q3 0 hp hv)
  · have hp := ip_t hp c1; have hv := it_t hv c1
    refine z_aload_n dX7_restore_7 rfl ?_
    refine z_bipush (v := (-6)) dX7_restore_8 rfl ?_
    have q4 := hp
    refine z_cavi hw (fun sz => c_X7_no G a hw.1 sz M (-6) q4) zc_X7_no zv_X7_no tw_m_RX7_106 (mrec wr_P) (zroom_of rfl) rfl (Nat.le_of_ble_eq_true rfl) dX7_restore_10 ?_
    intro r0 w0 hw0
    generalize v_X7_no M (-6) = q5 at hv hw0
    have hv := kk_v hv
    obtain ⟨rfl, rfl⟩ := hw0
    subst hv; exact z_iret_W hQ rfl rfl rfl ⟨rfl, rfl⟩ dX7_restore_13
theorem dX7_together_0 : decode cX7_together 0 = .ok (.iconst 0, 1) := by decide +kernel
theorem dX7_together_1 : decode cX7_together 1 = .ok (.istore_n 2, 1) := by decide +kernel
theorem dX7_together_2 : decode cX7_together 2 = .ok (.iconst 0, 1) := by decide +kernel
theorem dX7_together_3 : decode cX7_together 3 = .ok (.istore_n 3, 1) := by decide +kernel
theorem dX7_together_4 : decode cX7_together 4 = .ok (.iload_n 3, 1) := by decide +kernel
theorem dX7_together_5 : decode cX7_together 5 = .ok (.aload_n 0, 1) := by decide +kernel
theorem dX7_together_6 : decode cX7_together 6 = .ok (.getfield 99, 3) := by decide +kernel
theorem dX7_together_9 : decode cX7_together 9 = .ok (.if_icmp .ge 15, 3) := by decide +kernel
theorem dX7_together_12 : decode cX7_together 12 = .ok (.iload_n 2, 1) := by decide +kernel
theorem dX7_together_13 : decode cX7_together 13 = .ok (.aload_n 1, 1) := by decide +kernel
theorem dX7_together_14 : decode cX7_together 14 = .ok (.iload_n 3, 1) := by decide +kernel
theorem dX7_together_15 : decode cX7_together 15 = .ok (.iaload, 1) := by decide +kernel
theorem dX7_together_16 : decode cX7_together 16 = .ok (.iadd, 1) := by decide +kernel
theorem dX7_together_17 : decode cX7_together 17 = .ok (.istore_n 2, 1) := by decide +kernel
theorem dX7_together_18 : decode cX7_together 18 = .ok (.iinc 3 1, 3) := by decide +kernel
theorem dX7_together_21 : decode cX7_together 21 = .ok (.goto (-17), 3) := by decide +kernel
theorem dX7_together_24 : decode cX7_together 24 = .ok (.iload_n 2, 1) := by decide +kernel
theorem dX7_together_25 : decode cX7_together 25 = .ok (.ireturn, 1) := by decide +kernel
abbrev k_X7_together : zK := (cX7_together, 4, RX7, (some .int), ({ frames := 0, cells := 0, slots := 0, locals := 0 } : Room))
theorem zc_X7_together : zcal yX7_together k_X7_together.1 k_X7_together.2.1 k_X7_together.2.2.2.1 1 := ⟨tw_code_yX7_together, tw_i_TollForHesitatorsModel, ⟨by decide +kernel, by decide +kernel⟩, by decide +kernel⟩
theorem zv_X7_together : Cond.instanceMethod yX7_together ∈ TS ∧ Cond.selects RX7 yX7_together yX7_together ∈ TS := ⟨tw_inst_yX7_together, tw_s_yX7_together⟩
def v_X7_together_r (M : mT) (j1 : Nat) : Nat → Int32 → Int32 → Int32
  | 0, _, _ => 0
  | n + 1, v2, v3 => if (M.1 0) ≤ v3 then v2 else v_X7_together_r M j1 n (v2 + ((M.2.1 j1) v3.toNatClampNeg)) (v3 + 1)
def p_X7_together_r (M : mT) (j1 : Nat) : Nat → Int32 → Int32 → Prop
  | 0, _, _ => False
  | n + 1, v2, v3 => if (M.1 0) ≤ v3 then True else mO7 j1 ∧ (vp_in v3 7 ∧ (p_X7_together_r M j1 n (v2 + ((M.2.1 j1) v3.toNatClampNeg)) (v3 + 1)))
set_option maxHeartbeats 4000000 in
theorem w_X7_together {G : zG} {Γ : zT} {a : Nat → Nat} {res : Int32} (M : mT) (j1 : Nat) (hF : va_P G.2.1 CL (mW G a M) Γ.2.2.1.1.heap) (hQ : zQ Γ (vp_Si (fun r => r = res)) 0 0 (fun _ => False)) : ∀ n : Nat, (∀ (v2 : Int32) (v3 : Int32), p_X7_together_r M j1 n v2 v3 → v_X7_together_r M j1 n v2 v3 = res → Z k_X7_together G Γ (rd Γ.2.2.1.1.heap) 0 0 [(0, .ref (a 0)), (1, .ref (a j1)), (2, .int v2), (3, .int v3)] 4 []) := by
  have hI := rd_P (G := G) hF
  intro n
  induction n with
  | zero => exact fun v2 v3 hp => absurd hp (by rw [p_X7_together_r]; exact not_false)
  | succ n ih =>
    intro v2 v3 hp hv
    rw [p_X7_together_r] at hp
    rw [v_X7_together_r] at hv
    refine z_iload_n dX7_together_4 rfl ?_
    refine z_aload_n dX7_together_5 rfl ?_
    refine mg_0 (v := M.1 0) hI rfl rfl dX7_together_6 ?_
    refine z_icmp_ge (tgt := 24) dX7_together_9 (by decide) (fun c1 => ?_) (fun c1 => ?_)
    · have hp := ip_t hp c1; have hv := it_t hv c1
      refine z_iload_n dX7_together_24 rfl ?_
      exact z_iret_S hQ rfl hv dX7_together_25
    · have hp := ip_f hp c1; have hv := it_f hv c1
      refine z_iload_n dX7_together_12 rfl ?_
      refine z_aload_n dX7_together_13 rfl ?_
      refine z_iload_n dX7_together_14 rfl ?_
      obtain ⟨q5, hp⟩ := hp
      skip
      obtain ⟨q4, hp⟩ := hp
      refine mlv7 (x := (M.2.1 j1) v3.toNatClampNeg) hI q5 q4 rfl dX7_together_15 ?_
      refine z_iadd dX7_together_16 ?_
      refine z_istore_n (lv' := [(2, .int (v2 + ((M.2.1 j1) v3.toNatClampNeg))), (0, .ref (a 0)), (1, .ref (a j1)), (3, .int v3)]) dX7_together_17 (Nat.le_of_ble_eq_true rfl) rfl ?_
      refine z_iinc (v := v3 + 1) (lv' := [(3, .int (v3 + 1)), (2, .int (v2 + ((M.2.1 j1) v3.toNatClampNeg))), (0, .ref (a 0)), (1, .ref (a j1))]) dX7_together_18 3 rfl rfl (Nat.le_of_ble_eq_true rfl) rfl ?_
      refine z_goto (tgt := 4) dX7_together_21 (by decide) ?_
      exact z_lv rfl ((ih) (v2 + ((M.2.1 j1) v3.toNatClampNeg)) (v3 + 1) hp hv)
def v_X7_together (M : mT) (j1 : Nat) : Int32 := v_X7_together_r M j1 200 0 0
def p_X7_together (M : mT) (j1 : Nat) : Prop := p_X7_together_r M j1 200 0 0
set_option maxHeartbeats 4000000 in
theorem c_X7_together {l : Launch} (G : zG) (a : Nat → Nat) (M : mT) (j1 : Nat) (hp : p_X7_together M j1) : Met l yX7_together (.code yX7_together k_X7_together.1 k_X7_together.2.1 k_X7_together.2.2.2.1 :: TS) k_X7_together.2.2.2.2 (Pz G [.ref (a 0), .ref (a j1)] (va_P G.2.1 CL (mW G a M))) (vp_Si (fun r => r = v_X7_together M j1)) 0 0 (fun _ => False) := by
  refine zmet (by decide +kernel) rfl rfl (fun Γ hl0 hQ hN hF => ?_)
  have hI := rd_P (G := G) hF
  obtain ⟨res, hv⟩ : ∃ res, v_X7_together M j1 = res := ⟨_, rfl⟩
  rw [hv] at hQ
  unfold v_X7_together at hv
  unfold p_X7_together at hp
  show Z k_X7_together G Γ _ 0 0 [(0, .ref (a 0)), (1, .ref (a j1))] 0 []
  refine z_iconst (v := 0) dX7_together_0 rfl ?_
  refine z_istore_n (lv' := [(2, .int 0), (0, .ref (a 0)), (1, .ref (a j1))]) dX7_together_1 (Nat.le_of_ble_eq_true rfl) rfl ?_
  refine z_iconst (v := 0) dX7_together_2 rfl ?_
  refine z_istore_n (lv' := [(3, .int 0), (2, .int 0), (0, .ref (a 0)), (1, .ref (a j1))]) dX7_together_3 (Nat.le_of_ble_eq_true rfl) rfl ?_
  exact z_lv rfl ((w_X7_together M j1 hF hQ 200) 0 0 hp hv)
theorem dX7_status_0 : decode cX7_status 0 = .ok (.iload_n 1, 1) := by decide +kernel
theorem dX7_status_1 : decode cX7_status 1 = .ok (.bipush 11, 2) := by decide +kernel
theorem dX7_status_3 : decode cX7_status 3 = .ok (.if_icmp .lt 19, 3) := by decide +kernel
theorem dX7_status_6 : decode cX7_status 6 = .ok (.iload_n 1, 1) := by decide +kernel
theorem dX7_status_7 : decode cX7_status 7 = .ok (.bipush 17, 2) := by decide +kernel
theorem dX7_status_9 : decode cX7_status 9 = .ok (.if_icmp .gt 13, 3) := by decide +kernel
theorem dX7_status_12 : decode cX7_status 12 = .ok (.aload_n 0, 1) := by decide +kernel
theorem dX7_status_13 : decode cX7_status 13 = .ok (.getfield 25, 3) := by decide +kernel
theorem dX7_status_16 : decode cX7_status 16 = .ok (.iload_n 1, 1) := by decide +kernel
theorem dX7_status_17 : decode cX7_status 17 = .ok (.bipush 10, 2) := by decide +kernel
theorem dX7_status_19 : decode cX7_status 19 = .ok (.isub, 1) := by decide +kernel
theorem dX7_status_20 : decode cX7_status 20 = .ok (.iaload, 1) := by decide +kernel
theorem dX7_status_21 : decode cX7_status 21 = .ok (.ireturn, 1) := by decide +kernel
theorem dX7_status_22 : decode cX7_status 22 = .ok (.iload_n 1, 1) := by decide +kernel
theorem dX7_status_23 : decode cX7_status 23 = .ok (.tableswitch 111 0 9 #[53, 58, 63, 68, 73, 78, 83, 92, 101, 106], 53) := by decide +kernel
theorem dX7_status_76 : decode cX7_status 76 = .ok (.aload_n 0, 1) := by decide +kernel
theorem dX7_status_77 : decode cX7_status 77 = .ok (.getfield 99, 3) := by decide +kernel
theorem dX7_status_80 : decode cX7_status 80 = .ok (.ireturn, 1) := by decide +kernel
theorem dX7_status_81 : decode cX7_status 81 = .ok (.aload_n 0, 1) := by decide +kernel
theorem dX7_status_82 : decode cX7_status 82 = .ok (.getfield 7, 3) := by decide +kernel
theorem dX7_status_85 : decode cX7_status 85 = .ok (.ireturn, 1) := by decide +kernel
theorem dX7_status_86 : decode cX7_status 86 = .ok (.aload_n 0, 1) := by decide +kernel
theorem dX7_status_87 : decode cX7_status 87 = .ok (.getfield 124, 3) := by decide +kernel
theorem dX7_status_90 : decode cX7_status 90 = .ok (.ireturn, 1) := by decide +kernel
theorem dX7_status_91 : decode cX7_status 91 = .ok (.aload_n 0, 1) := by decide +kernel
theorem dX7_status_92 : decode cX7_status 92 = .ok (.getfield 13, 3) := by decide +kernel
theorem dX7_status_95 : decode cX7_status 95 = .ok (.ireturn, 1) := by decide +kernel
theorem dX7_status_96 : decode cX7_status 96 = .ok (.aload_n 0, 1) := by decide +kernel
theorem dX7_status_97 : decode cX7_status 97 = .ok (.getfield 16, 3) := by decide +kernel
theorem dX7_status_100 : decode cX7_status 100 = .ok (.ireturn, 1) := by decide +kernel
theorem dX7_status_101 : decode cX7_status 101 = .ok (.aload_n 0, 1) := by decide +kernel
theorem dX7_status_102 : decode cX7_status 102 = .ok (.getfield 177, 3) := by decide +kernel
theorem dX7_status_105 : decode cX7_status 105 = .ok (.ireturn, 1) := by decide +kernel
theorem dX7_status_106 : decode cX7_status 106 = .ok (.aload_n 0, 1) := by decide +kernel
theorem dX7_status_107 : decode cX7_status 107 = .ok (.aload_n 0, 1) := by decide +kernel
theorem dX7_status_108 : decode cX7_status 108 = .ok (.getfield 35, 3) := by decide +kernel
theorem dX7_status_111 : decode cX7_status 111 = .ok (.invokevirtual 298, 3) := by decide +kernel
theorem dX7_status_114 : decode cX7_status 114 = .ok (.ireturn, 1) := by decide +kernel
theorem dX7_status_115 : decode cX7_status 115 = .ok (.aload_n 0, 1) := by decide +kernel
theorem dX7_status_116 : decode cX7_status 116 = .ok (.aload_n 0, 1) := by decide +kernel
theorem dX7_status_117 : decode cX7_status 117 = .ok (.getfield 44, 3) := by decide +kernel
theorem dX7_status_120 : decode cX7_status 120 = .ok (.invokevirtual 298, 3) := by decide +kernel
theorem dX7_status_123 : decode cX7_status 123 = .ok (.ireturn, 1) := by decide +kernel
theorem dX7_status_124 : decode cX7_status 124 = .ok (.aload_n 0, 1) := by decide +kernel
theorem dX7_status_125 : decode cX7_status 125 = .ok (.getfield 19, 3) := by decide +kernel
theorem dX7_status_128 : decode cX7_status 128 = .ok (.ireturn, 1) := by decide +kernel
theorem dX7_status_129 : decode cX7_status 129 = .ok (.aload_n 0, 1) := by decide +kernel
theorem dX7_status_130 : decode cX7_status 130 = .ok (.getfield 279, 3) := by decide +kernel
theorem dX7_status_133 : decode cX7_status 133 = .ok (.ireturn, 1) := by decide +kernel
theorem dX7_status_134 : decode cX7_status 134 = .ok (.iconst (-1), 1) := by decide +kernel
theorem dX7_status_135 : decode cX7_status 135 = .ok (.ireturn, 1) := by decide +kernel
abbrev k_X7_status : zK := (cX7_status, 2, RX7, (some .int), ({ frames := 1, cells := 0, slots := 0, locals := 23 } : Room))
theorem zc_X7_status : zcal yX7_status k_X7_status.1 k_X7_status.2.1 k_X7_status.2.2.2.1 1 := ⟨tw_code_yX7_status, tw_i_TollForHesitatorsModel, ⟨by decide +kernel, by decide +kernel⟩, by decide +kernel⟩
theorem zv_X7_status : Cond.instanceMethod yX7_status ∈ TS ∧ Cond.selects RX7 yX7_status yX7_status ∈ TS := ⟨tw_inst_yX7_status, tw_s_yX7_status⟩
def v_X7_status (M : mT) (x1 : Int32) : Int32 × mT := if x1 < 11 then if x1 = 0 then (M.1 0, M) else if x1 = 1 then (M.1 1, M) else if x1 = 2 then (M.1 2, M) else if x1 = 3 then (M.1 3, M) else if x1 = 4 then (M.1 4, M) else if x1 = 5 then (M.1 5, M) else if x1 = 6 then ((v_X7_together M 11), M) else if x1 = 7 then ((v_X7_together M 14), M) else if x1 = 8 then (M.1 6, M) else if x1 = 9 then (M.1 43, M) else ((-1), M) else if 17 < x1 then if x1 = 0 then (M.1 0, M) else if x1 = 1 then (M.1 1, M) else if x1 = 2 then (M.1 2, M) else if x1 = 3 then (M.1 3, M) else if x1 = 4 then (M.1 4, M) else if x1 = 5 then (M.1 5, M) else if x1 = 6 then ((v_X7_together M 11), M) else if x1 = 7 then ((v_X7_together M 14), M) else if x1 = 8 then (M.1 6, M) else if x1 = 9 then (M.1 43, M) else ((-1), M) else ((M.2.1 8) (x1 - 10).toNatClampNeg, M)
def p_X7_status (M : mT) (x1 : Int32) : Prop := if x1 < 11 then if x1 = 0 then True else if x1 = 1 then True else if x1 = 2 then True else if x1 = 3 then True else if x1 = 4 then True else if x1 = 5 then True else if x1 = 6 then p_X7_together M 11 else if x1 = 7 then p_X7_together M 14 else if x1 = 8 then True else if x1 = 9 then True else True else if 17 < x1 then if x1 = 0 then True else if x1 = 1 then True else if x1 = 2 then True else if x1 = 3 then True else if x1 = 4 then True else if x1 = 5 then True else if x1 = 6 then p_X7_together M 11 else if x1 = 7 then p_X7_together M 14 else if x1 = 8 then True else if x1 = 9 then True else True else vp_in (x1 - 10) 8
set_option maxHeartbeats 4000000 in
theorem c_X7_status {l : Launch} (G : zG) (a : Nat → Nat) {X : zX} (hX : XOK X) (sz : Nat) (M : mT) (x1 : Int32) (hp : p_X7_status M x1) : Met l yX7_status (.code yX7_status k_X7_status.1 k_X7_status.2.1 k_X7_status.2.2.2.1 :: TS) k_X7_status.2.2.2.2 (Pz G [.ref (a 0), .int x1] (Fw G X (mW G a M) sz)) (Qwi G (fun r w => r = (v_X7_status M x1).1 ∧ w = mW G a (v_X7_status M x1).2) (va_A (mW G a M) sz)) 0 0 (va_A (mW G a M) sz) := by
  refine zmet (by decide +kernel) rfl rfl (fun Γ hl0 hQ hN hF => ?_)
  refine z_start hX hF (fun hw => ?_)
  generalize va_A (mW G a M) sz = A at hQ hw ⊢
  obtain ⟨res, hv⟩ : ∃ res, v_X7_status M x1 = res := ⟨_, rfl⟩
  rw [hv] at hQ
  unfold v_X7_status at hv
  unfold p_X7_status at hp
  show Z k_X7_status G Γ _ 0 0 [(0, .ref (a 0)), (1, .int x1)] 0 []
  refine z_iload_n dX7_status_0 rfl ?_
  refine z_bipush (v := 11) dX7_status_1 rfl ?_
  refine z_icmp_lt (tgt := 22) dX7_status_3 (by decide) (fun c1 => ?_) (fun c1 => ?_)
  · have hp := ip_t hp c1; have hv := it_t hv c1
    refine z_iload_n dX7_status_22 rfl ?_
    by_cases c2 : x1 = 0
    · have hp := ip_t hp c2; have hv := it_t hv c2
      refine z_tableIn (tgt := 76) dX7_status_23 0 c2 (by decide) (by decide) rfl (by decide) ?_
      refine z_aload_n dX7_status_76 rfl ?_
      refine mg_0 (v := M.1 0) wr_P rfl rfl dX7_status_77 ?_
      subst hv; exact z_iret_W hQ rfl rfl rfl ⟨rfl, rfl⟩ dX7_status_80
    have hp := ip_f hp c2
    have hv := it_f hv c2
    by_cases c3 : x1 = 1
    · have hp := ip_t hp c3; have hv := it_t hv c3
      refine z_tableIn (tgt := 81) dX7_status_23 1 c3 (by decide) (by decide) rfl (by decide) ?_
      refine z_aload_n dX7_status_81 rfl ?_
      refine mg_1 (v := M.1 1) wr_P rfl rfl dX7_status_82 ?_
      subst hv; exact z_iret_W hQ rfl rfl rfl ⟨rfl, rfl⟩ dX7_status_85
    have hp := ip_f hp c3
    have hv := it_f hv c3
    by_cases c4 : x1 = 2
    · have hp := ip_t hp c4; have hv := it_t hv c4
      refine z_tableIn (tgt := 86) dX7_status_23 2 c4 (by decide) (by decide) rfl (by decide) ?_
      refine z_aload_n dX7_status_86 rfl ?_
      refine mg_2 (v := M.1 2) wr_P rfl rfl dX7_status_87 ?_
      subst hv; exact z_iret_W hQ rfl rfl rfl ⟨rfl, rfl⟩ dX7_status_90
    have hp := ip_f hp c4
    have hv := it_f hv c4
    by_cases c5 : x1 = 3
    · have hp := ip_t hp c5; have hv := it_t hv c5
      refine z_tableIn (tgt := 91) dX7_status_23 3 c5 (by decide) (by decide) rfl (by decide) ?_
      refine z_aload_n dX7_status_91 rfl ?_
      refine mg_3 (v := M.1 3) wr_P rfl rfl dX7_status_92 ?_
      subst hv; exact z_iret_W hQ rfl rfl rfl ⟨rfl, rfl⟩ dX7_status_95
    have hp := ip_f hp c5
    have hv := it_f hv c5
    by_cases c6 : x1 = 4
    · have hp := ip_t hp c6; have hv := it_t hv c6
      refine z_tableIn (tgt := 96) dX7_status_23 4 c6 (by decide) (by decide) rfl (by decide) ?_
      refine z_aload_n dX7_status_96 rfl ?_
      refine mg_4 (v := M.1 4) wr_P rfl rfl dX7_status_97 ?_
      subst hv; exact z_iret_W hQ rfl rfl rfl ⟨rfl, rfl⟩ dX7_status_100
    have hp := ip_f hp c6
    have hv := it_f hv c6
    by_cases c7 : x1 = 5
    · have hp := ip_t hp c7; have hv := it_t hv c7
      refine z_tableIn (tgt := 101) dX7_status_23 5 c7 (by decide) (by decide) rfl (by decide) ?_
      refine z_aload_n dX7_status_101 rfl ?_
      refine mg_5 (v := M.1 5) wr_P rfl rfl dX7_status_102 ?_
      subst hv; exact z_iret_W hQ rfl rfl rfl ⟨rfl, rfl⟩ dX7_status_105
    have hp := ip_f hp c7
    have hv := it_f hv c7
    by_cases c9 : x1 = 6
    · have hp := ip_t hp c9; have hv := it_t hv c9
      refine z_tableIn (tgt := 106) dX7_status_23 6 c9 (by decide) (by decide) rfl (by decide) ?_
      refine z_aload_n dX7_status_106 rfl ?_
      refine z_aload_n dX7_status_107 rfl ?_
      refine mg_11 wr_P rfl dX7_status_108 ?_
      have q8 := hp
      refine z_cvi (c_X7_together G a M 11 q8) zc_X7_together zv_X7_together tw_m_RX7_298 (mrec wr_P) wr_P (zroom_of rfl) rfl (Nat.le_of_ble_eq_true rfl) dX7_status_111 ?_
      subst hv; exact z_iret_W hQ rfl rfl rfl ⟨rfl, rfl⟩ dX7_status_114
    have hp := ip_f hp c9
    have hv := it_f hv c9
    by_cases c11 : x1 = 7
    · have hp := ip_t hp c11; have hv := it_t hv c11
      refine z_tableIn (tgt := 115) dX7_status_23 7 c11 (by decide) (by decide) rfl (by decide) ?_
      refine z_aload_n dX7_status_115 rfl ?_
      refine z_aload_n dX7_status_116 rfl ?_
      refine mg_14 wr_P rfl dX7_status_117 ?_
      have q10 := hp
      refine z_cvi (c_X7_together G a M 14 q10) zc_X7_together zv_X7_together tw_m_RX7_298 (mrec wr_P) wr_P (zroom_of rfl) rfl (Nat.le_of_ble_eq_true rfl) dX7_status_120 ?_
      subst hv; exact z_iret_W hQ rfl rfl rfl ⟨rfl, rfl⟩ dX7_status_123
    have hp := ip_f hp c11
    have hv := it_f hv c11
    by_cases c12 : x1 = 8
    · have hp := ip_t hp c12; have hv := it_t hv c12
      refine z_tableIn (tgt := 124) dX7_status_23 8 c12 (by decide) (by decide) rfl (by decide) ?_
      refine z_aload_n dX7_status_124 rfl ?_
      refine mg_6 (v := M.1 6) wr_P rfl rfl dX7_status_125 ?_
      subst hv; exact z_iret_W hQ rfl rfl rfl ⟨rfl, rfl⟩ dX7_status_128
    have hp := ip_f hp c12
    have hv := it_f hv c12
    by_cases c13 : x1 = 9
    · have hp := ip_t hp c13; have hv := it_t hv c13
      refine z_tableIn (tgt := 129) dX7_status_23 9 c13 (by decide) (by decide) rfl (by decide) ?_
      refine z_aload_n dX7_status_129 rfl ?_
      refine mg_43 (v := M.1 43) wr_P rfl rfl dX7_status_130 ?_
      subst hv; exact z_iret_W hQ rfl rfl rfl ⟨rfl, rfl⟩ dX7_status_133
    have hp := ip_f hp c13
    have hv := it_f hv c13
    refine z_tableOut (tgt := 134) dX7_status_23 (zout10_0 c2 c3 c4 c5 c6 c7 c9 c11 c12 c13) (by decide) ?_
    refine z_iconst (v := (-1)) dX7_status_134 rfl ?_
    subst hv; exact z_iret_W hQ rfl rfl rfl ⟨rfl, rfl⟩ dX7_status_135
  · have hp := ip_f hp c1; have hv := it_f hv c1
    refine z_iload_n dX7_status_6 rfl ?_
    refine z_bipush (v := 17) dX7_status_7 rfl ?_
    refine z_icmp_gt (tgt := 22) dX7_status_9 (by decide) (fun c14 => ?_) (fun c14 => ?_)
    · have hp := ip_t hp c14; have hv := it_t hv c14
      refine z_iload_n dX7_status_22 rfl ?_
      by_cases c15 : x1 = 0
      · have hp := ip_t hp c15; have hv := it_t hv c15
        refine z_tableIn (tgt := 76) dX7_status_23 0 c15 (by decide) (by decide) rfl (by decide) ?_
        refine z_aload_n dX7_status_76 rfl ?_
        refine mg_0 (v := M.1 0) wr_P rfl rfl dX7_status_77 ?_
        subst hv; exact z_iret_W hQ rfl rfl rfl ⟨rfl, rfl⟩ dX7_status_80
      have hp := ip_f hp c15
      have hv := it_f hv c15
      by_cases c16 : x1 = 1
      · have hp := ip_t hp c16; have hv := it_t hv c16
        refine z_tableIn (tgt := 81) dX7_status_23 1 c16 (by decide) (by decide) rfl (by decide) ?_
        refine z_aload_n dX7_status_81 rfl ?_
        refine mg_1 (v := M.1 1) wr_P rfl rfl dX7_status_82 ?_
        subst hv; exact z_iret_W hQ rfl rfl rfl ⟨rfl, rfl⟩ dX7_status_85
      have hp := ip_f hp c16
      have hv := it_f hv c16
      by_cases c17 : x1 = 2
      · have hp := ip_t hp c17; have hv := it_t hv c17
        refine z_tableIn (tgt := 86) dX7_status_23 2 c17 (by decide) (by decide) rfl (by decide) ?_
        refine z_aload_n dX7_status_86 rfl ?_
        refine mg_2 (v := M.1 2) wr_P rfl rfl dX7_status_87 ?_
        subst hv; exact z_iret_W hQ rfl rfl rfl ⟨rfl, rfl⟩ dX7_status_90
      have hp := ip_f hp c17
      have hv := it_f hv c17
      by_cases c18 : x1 = 3
      · have hp := ip_t hp c18; have hv := it_t hv c18
        refine z_tableIn (tgt := 91) dX7_status_23 3 c18 (by decide) (by decide) rfl (by decide) ?_
        refine z_aload_n dX7_status_91 rfl ?_
        refine mg_3 (v := M.1 3) wr_P rfl rfl dX7_status_92 ?_
        subst hv; exact z_iret_W hQ rfl rfl rfl ⟨rfl, rfl⟩ dX7_status_95
      have hp := ip_f hp c18
      have hv := it_f hv c18
      by_cases c19 : x1 = 4
      · have hp := ip_t hp c19; have hv := it_t hv c19
        refine z_tableIn (tgt := 96) dX7_status_23 4 c19 (by decide) (by decide) rfl (by decide) ?_
        refine z_aload_n dX7_status_96 rfl ?_
        refine mg_4 (v := M.1 4) wr_P rfl rfl dX7_status_97 ?_
        subst hv; exact z_iret_W hQ rfl rfl rfl ⟨rfl, rfl⟩ dX7_status_100
      have hp := ip_f hp c19
      have hv := it_f hv c19
      by_cases c20 : x1 = 5
      · have hp := ip_t hp c20; have hv := it_t hv c20
        refine z_tableIn (tgt := 101) dX7_status_23 5 c20 (by decide) (by decide) rfl (by decide) ?_
        refine z_aload_n dX7_status_101 rfl ?_
        refine mg_5 (v := M.1 5) wr_P rfl rfl dX7_status_102 ?_
        subst hv; exact z_iret_W hQ rfl rfl rfl ⟨rfl, rfl⟩ dX7_status_105
      have hp := ip_f hp c20
      have hv := it_f hv c20
      by_cases c22 : x1 = 6
      · have hp := ip_t hp c22; have hv := it_t hv c22
        refine z_tableIn (tgt := 106) dX7_status_23 6 c22 (by decide) (by decide) rfl (by decide) ?_
        refine z_aload_n dX7_status_106 rfl ?_
        refine z_aload_n dX7_status_107 rfl ?_
        refine mg_11 wr_P rfl dX7_status_108 ?_
        have q21 := hp
        refine z_cvi (c_X7_together G a M 11 q21) zc_X7_together zv_X7_together tw_m_RX7_298 (mrec wr_P) wr_P (zroom_of rfl) rfl (Nat.le_of_ble_eq_true rfl) dX7_status_111 ?_
        subst hv; exact z_iret_W hQ rfl rfl rfl ⟨rfl, rfl⟩ dX7_status_114
      have hp := ip_f hp c22
      have hv := it_f hv c22
      by_cases c24 : x1 = 7
      · have hp := ip_t hp c24; have hv := it_t hv c24
        refine z_tableIn (tgt := 115) dX7_status_23 7 c24 (by decide) (by decide) rfl (by decide) ?_
        refine z_aload_n dX7_status_115 rfl ?_
        refine z_aload_n dX7_status_116 rfl ?_
        refine mg_14 wr_P rfl dX7_status_117 ?_
        have q23 := hp
        refine z_cvi (c_X7_together G a M 14 q23) zc_X7_together zv_X7_together tw_m_RX7_298 (mrec wr_P) wr_P (zroom_of rfl) rfl (Nat.le_of_ble_eq_true rfl) dX7_status_120 ?_
        subst hv; exact z_iret_W hQ rfl rfl rfl ⟨rfl, rfl⟩ dX7_status_123
      have hp := ip_f hp c24
      have hv := it_f hv c24
      by_cases c25 : x1 = 8
      · have hp := ip_t hp c25; have hv := it_t hv c25
        refine z_tableIn (tgt := 124) dX7_status_23 8 c25 (by decide) (by decide) rfl (by decide) ?_
        refine z_aload_n dX7_status_124 rfl ?_
        refine mg_6 (v := M.1 6) wr_P rfl rfl dX7_status_125 ?_
        subst hv; exact z_iret_W hQ rfl rfl rfl ⟨rfl, rfl⟩ dX7_status_128
      have hp := ip_f hp c25
      have hv := it_f hv c25
      by_cases c26 : x1 = 9
      · have hp := ip_t hp c26; have hv := it_t hv c26
        refine z_tableIn (tgt := 129) dX7_status_23 9 c26 (by decide) (by decide) rfl (by decide) ?_
        refine z_aload_n dX7_status_129 rfl ?_
        refine mg_43 (v := M.1 43) wr_P rfl rfl dX7_status_130 ?_
        subst hv; exact z_iret_W hQ rfl rfl rfl ⟨rfl, rfl⟩ dX7_status_133
      have hp := ip_f hp c26
      have hv := it_f hv c26
      refine z_tableOut (tgt := 134) dX7_status_23 (zout10_0 c15 c16 c17 c18 c19 c20 c22 c24 c25 c26) (by decide) ?_
      refine z_iconst (v := (-1)) dX7_status_134 rfl ?_
      subst hv; exact z_iret_W hQ rfl rfl rfl ⟨rfl, rfl⟩ dX7_status_135
    · have hp := ip_f hp c14; have hv := it_f hv c14
      refine z_aload_n dX7_status_12 rfl ?_
      refine mg_8 wr_P rfl dX7_status_13 ?_
      refine z_iload_n dX7_status_16 rfl ?_
      refine z_bipush (v := 10) dX7_status_17 rfl ?_
      refine z_isub dX7_status_19 ?_
      have q27 := hp
      refine ml_8 (x := (M.2.1 8) (x1 - 10).toNatClampNeg) wr_P q27 rfl dX7_status_20 ?_
      subst hv; exact z_iret_W hQ rfl rfl rfl ⟨rfl, rfl⟩ dX7_status_21
