theorem oc_vq {α β : Type} {e q : Option α} {b r : β} {f : α → β} (h : oc e b f = r) (hq : q = e) : oc q b f = r := by subst hq; exact h
theorem oc_pq {α : Type} {e q : Option α} {b : Prop} {f : α → Prop} (h : oc e b f) (hq : q = e) : oc q b f := by subst hq; exact h
theorem nb_oc {r : Option Nat} {b : Int32} {f : Nat → Int32} (h1 : narrow .boolean (.int b) = .int b) (h2 : ∀ a, narrow .boolean (.int (f a)) = .int (f a)) : narrow .boolean (.int (oc r b f)) = .int (oc r b f) := by
  cases r with
  | none => exact h1
  | some a => exact h2 a
theorem tw_code_yJ3_checkIndex_8e157 : Cond.code yJ3_checkIndex_8e157 cJ3_checkIndex_8e157 3 (some .int) ∈ TS := ts_mem 524 (by decide +kernel) rfl
theorem tw_i_jdk_internal_util_Preconditions : Cond.initialized RJ3 ∈ TS := ts_mem 80 (by decide +kernel) rfl
theorem tw_m_RJ0_1059 : Cond.methodLink RJ0 1059 yJ3_checkIndex_8e157 ∈ TS := ts_mem 522 (by decide +kernel) rfl
theorem tw_f_RJ0_1053 : Cond.fieldLink RJ0 1053 RJ3 "SIOOBE_FORMATTER" "Ljava/util/function/BiFunction;" ∈ TS := ts_mem 520 (by decide +kernel) rfl
theorem tw_st_yJ3_checkIndex_8e157 : Cond.static yJ3_checkIndex_8e157 ∈ TS := ts_mem 523 (by decide +kernel) rfl
theorem tw_code_yJ0_checkIndex_df160 : Cond.code yJ0_checkIndex_df160 cJ0_checkIndex_df160 2 none ∈ TS := ts_mem 519 (by decide +kernel) rfl
theorem tw_i_java_lang_String : Cond.initialized RJ0 ∈ TS := ts_mem 78 (by decide +kernel) rfl
theorem tw_m_RJ1_9 : Cond.methodLink RJ1 9 yJ0_checkIndex_df160 ∈ TS := ts_mem 517 (by decide +kernel) rfl
theorem tw_st_yJ0_checkIndex_df160 : Cond.static yJ0_checkIndex_df160 ∈ TS := ts_mem 518 (by decide +kernel) rfl
theorem tw_code_yJ1_charAt_3b067 : Cond.code yJ1_charAt_3b067 cJ1_charAt_3b067 2 (some .char) ∈ TS := ts_mem 516 (by decide +kernel) rfl
theorem tw_i_java_lang_StringLatin1 : Cond.initialized RJ1 ∈ TS := ts_mem 79 (by decide +kernel) rfl
theorem tw_f_RJ0_38 : Cond.fieldLink RJ0 38 RJ0 "COMPACT_STRINGS" "Z" ∈ TS := ts_mem 504 (by decide +kernel) rfl
theorem tw_f_RJ0_15 : Cond.fieldLink RJ0 15 RJ0 "coder" "B" ∈ TS := ts_mem 1314 (by decide +kernel) rfl
theorem tw_f_RJ0_9 : Cond.fieldLink RJ0 9 RJ0 "value" "[B" ∈ TS := ts_mem 1313 (by decide +kernel) rfl
theorem tw_code_yJ0_isLatin1_aae02 : Cond.code yJ0_isLatin1_aae02 cJ0_isLatin1_aae02 1 (some .boolean) ∈ TS := ts_mem 513 (by decide +kernel) rfl
theorem tw_inst_yJ0_isLatin1_aae02 : Cond.instanceMethod yJ0_isLatin1_aae02 ∈ TS := ts_mem 511 (by decide +kernel) rfl
theorem tw_s_yJ0_isLatin1_aae02 : Cond.selects RJ0 yJ0_isLatin1_aae02 yJ0_isLatin1_aae02 ∈ TS := ts_mem 512 (by decide +kernel) rfl
theorem tw_code_yJ0_coder_7d493 : Cond.code yJ0_coder_7d493 cJ0_coder_7d493 1 (some .byte) ∈ TS := ts_mem 503 (by decide +kernel) rfl
theorem tw_inst_yJ0_coder_7d493 : Cond.instanceMethod yJ0_coder_7d493 ∈ TS := ts_mem 501 (by decide +kernel) rfl
theorem tw_s_yJ0_coder_7d493 : Cond.selects RJ0 yJ0_coder_7d493 yJ0_coder_7d493 ∈ TS := ts_mem 502 (by decide +kernel) rfl
theorem tw_code_yJ0_isEmpty_aae02 : Cond.code yJ0_isEmpty_aae02 cJ0_isEmpty_aae02 1 (some .boolean) ∈ TS := ts_mem 491 (by decide +kernel) rfl
theorem tw_inst_yJ0_isEmpty_aae02 : Cond.instanceMethod yJ0_isEmpty_aae02 ∈ TS := ts_mem 489 (by decide +kernel) rfl
theorem tw_s_yJ0_isEmpty_aae02 : Cond.selects RJ0 yJ0_isEmpty_aae02 yJ0_isEmpty_aae02 ∈ TS := ts_mem 490 (by decide +kernel) rfl
theorem tw_m_RJ0_335 : Cond.methodLink RJ0 335 yJ0_coder_7d493 ∈ TS := ts_mem 500 (by decide +kernel) rfl
theorem tw_code_yJ0_length_8abf5 : Cond.code yJ0_length_8abf5 cJ0_length_8abf5 1 (some .int) ∈ TS := ts_mem 499 (by decide +kernel) rfl
theorem tw_inst_yJ0_length_8abf5 : Cond.instanceMethod yJ0_length_8abf5 ∈ TS := ts_mem 497 (by decide +kernel) rfl
theorem tw_s_yJ0_length_8abf5 : Cond.selects RJ0 yJ0_length_8abf5 yJ0_length_8abf5 ∈ TS := ts_mem 498 (by decide +kernel) rfl
theorem tw_m_RJ0_492 : Cond.methodLink RJ0 492 yJ0_isLatin1_aae02 ∈ TS := ts_mem 510 (by decide +kernel) rfl
theorem tw_st_yJ1_charAt_3b067 : Cond.static yJ1_charAt_3b067 ∈ TS := ts_mem 515 (by decide +kernel) rfl
theorem tw_m_RJ0_495 : Cond.methodLink RJ0 495 yJ1_charAt_3b067 ∈ TS := ts_mem 514 (by decide +kernel) rfl
theorem tw_code_yJ0_charAt_5068e : Cond.code yJ0_charAt_5068e cJ0_charAt_5068e 2 (some .char) ∈ TS := ts_mem 509 (by decide +kernel) rfl
theorem tw_inst_yJ0_charAt_5068e : Cond.instanceMethod yJ0_charAt_5068e ∈ TS := ts_mem 507 (by decide +kernel) rfl
theorem tw_s_yJ0_charAt_5068e : Cond.selects RJ0 yJ0_charAt_5068e yJ0_charAt_5068e ∈ TS := ts_mem 508 (by decide +kernel) rfl
section STRS
variable {K : zK} {G : zG} {P : pT} {Γ : zT} {I : Heap → List Loc → Prop} {k n : Nat} {lv lv' : List (Nat × Value)} {pc : Nat} {st : List Value} {i : Nat}
theorem z_getK {C0 f d : String} {v : Value} {index q : Nat} (hS : ∀ H locs, I H locs → va_OF C0 f d v q nA G.1 H) (hlk : Cond.fieldLink K.2.2.1 index C0 f d ∈ TS) (hdg : decode K.1 pc = .ok (.getfield index, 3)) (h : Z K G Γ I k n lv (pc + 3) (v :: st)) : Z K G Γ I k n lv pc (.ref q :: st) := fun C H locs ls hi hl => by
  obtain ⟨cf, kf, fi, fd, cell, g1, g2, g3, g4, g5, g6⟩ := va_OF.moved C.2.2.2.2.2.2.2.1 (hS H locs hi)
  exact W.getf C.1 C.2.1 C.2.2.2.1 (C.2.2.2.2.1 _ hlk) g1 g2 g3 g4 (v := v) g5 rfl rfl hdg (h C H locs ls hi hl)
theorem z_getsK {C0 f d : String} {v : Value} {index : Nat} (hS : ∀ H locs, I H locs → va_Z C0 f d v nA G.1 H) (hlk : Cond.fieldLink K.2.2.1 index C0 f d ∈ TS) (hdg : decode K.1 pc = .ok (.getstatic index, 3)) (h : Z K G Γ I k n lv (pc + 3) (v :: st)) : Z K G Γ I k n lv pc st := fun C H locs ls hi hl => by
  obtain ⟨cf, kf, fi, fd, a, cell, g1, g2, g3, g4, g5, g6, g7, g8⟩ := va_Z.moved C.2.2.2.2.2.2.2.1 (hS H locs hi)
  exact W.gets C.1 C.2.1 C.2.2.2.1 (C.2.2.2.2.1 _ hlk) g1 g2 g3 g4 g5 (fun e => by rw [e] at g6; cases g6) g7 rfl hdg (h C H locs ls hi hl)
theorem z_tlenK {ty : FieldType} {t N : Nat} {f : Nat → Value} {v : Int32} (hS : ∀ H locs, I H locs → va_T ty t N f nA G.1 H) (hv : Int32.ofNat N = v) (hdg : decode K.1 pc = .ok (.arraylength, 1)) (h : Z K G Γ I k n lv (pc + 1) (.int v :: st)) : Z K G Γ I k n lv pc (.ref t :: st) := fun C H locs ls hi hl => by
  obtain ⟨cell, h1, h2, h3, h4, h5, h6, h7⟩ := va_T.moved C.2.2.2.2.2.2.2.1 (hS H locs hi)
  exact W.alen C.1 C.2.1 h1 h2 (h5.trans hv) rfl rfl hdg (h C H locs ls hi hl)
theorem z_tbK {t N : Nat} {f : Nat → Int32} {j : Int32} (hS : ∀ H locs, I H locs → va_T .byte t N (fun j => .int (f j)) nA G.1 H) (hin : vp_in j N) (hdg : decode K.1 pc = .ok (.baload, 1)) (h : Z K G Γ I k n lv (pc + 1) (.int (f j.toNatClampNeg) :: st)) : Z K G Γ I k n lv pc (.int j :: .ref t :: st) := fun C H locs ls hi hl => by
  obtain ⟨cell, h1, h2, h3, h4, h5, h6, h7⟩ := va_T.moved C.2.2.2.2.2.2.2.1 (hS H locs hi)
  have hlt : j.toNatClampNeg < N := Nat.not_le.mp fun q => hin (Or.inr q)
  exact W.bald (v := .int (f j.toNatClampNeg)) C.1 C.2.1 h1 h2 h3 (fun q => by rcases q with q | q; exact hin (Or.inl q); omega) (h6 _ hlt) rfl rfl hdg (h C H locs ls hi hl)
theorem z_ldcS {index i : Nat} {tx : String} (hK : K.2.2.1 = RX3) (hm : (index, tx, i) ∈ STs) (hdg : decode K.1 pc = .ok (.ldc index, 2)) (h : Z K G Γ I k n lv (pc + 2) (.ref (G.2.2.2 (10 + i)) :: st)) : Z K G Γ I k n lv pc st := fun C H locs ls hi hl => va_ldcS C.1 C.2.1 (own := RX3) (hK ▸ C.2.2.2.1) (C.2.2.2.2.2.2.2.2.2.2.2 _ hm) hdg (h C H locs ls hi hl)
theorem z_i2c {x v : Int32} (hdg : decode K.1 pc = .ok (.i2c, 1)) (hv : (x.toUInt32 % 65536).toInt32 = v) (h : Z K G Γ I k n lv (pc + 1) (.int v :: st)) : Z K G Γ I k n lv pc (.int x :: st) := fun C H locs ls hi hl => lv_i2c C.1 C.2.1 hdg hv (h C H locs ls hi hl)
theorem z_runVO {y : MethodName} {C0 : String} {a : Nat} {b : ByteArray} {maxL mc ms index : Nat} {ret : Option FieldType} {rm : Room} {As : List Value} {F : Heap → Prop} {Qc : Array Value → State → Outcome → State → Prop} {free : Addr → Prop} {ls : Array Slot} {H : Heap} {locs : List Loc} {st0 : List Value} (C : zC K G Γ) (hl : lv_has ls K.2.1 lv)
    (hM : Met Γ.1 y (.code y b maxL ret :: TS) rm (Pz G (.ref a :: As) F) Qc mc ms free) (hy : zcal y b maxL ret As.length) (hv : Cond.instanceMethod y ∈ TS ∧ Cond.selects C0 y y ∈ TS) (hlk : Cond.methodLink K.2.2.1 index y ∈ TS) (hrec : va_O C0 a nA G.1 H) (hF : F H) (hR : zroom rm K.2.2.2.2 maxL mc ms k n) (hst : st0 = As.reverse ++ .ref a :: st) (hW : st.length ≤ 4) (hdg : decode K.1 pc = .ok (.invokevirtual index, 3)) :
    va_Run Γ.2.1.1 Γ.1 Γ.2.1.2 K.2.2.2.2 Γ.2.2.1.1 Γ.2.2.1.2.1 Γ.2.2.1.2.2 Γ.2.2.2.1.1 Γ.2.2.2.1.2.1 Γ.2.2.2.1.2.2 H locs k n mc ms (F0 Γ.2.2.1.2.1 pc ls st0) st (Qc (Value.ref a :: As).toArray) free := by
  obtain ⟨hx, hb, hml, ho, hts, hlo, hre, hG⟩ := C
  obtain ⟨cell, e1, e2, e3, -⟩ := va_O.moved hG.1 hrec
  refine va_runV (n := As.length) ⟨hx, hb, hml, ho, hts⟩ hM ⟨callB_of As.length hts (zcal_good hy) rfl hR.1 hR.2.1 (hts _ hy.2.1) (hts _ hlk) ⟨hy.2.2.1.1, hy.2.2.1.2, hy.2.2.2⟩ hR.2.2.1, hts _ hv.1, hts _ hv.2⟩ ⟨Pz_blind, ⟨cell, e1, e2, e3⟩, fun U hU hW => ⟨rfl, hG.warm hW, by rw [hU]; exact hF⟩⟩ rfl rfl hl.1 hst (lv_room (zcat hW)) hdg hR.2.2.2
theorem z_cviO {y : MethodName} {C0 : String} {a : Nat} {b : ByteArray} {maxL index : Nat} {ret : Option FieldType} {rm : Room} {As : List Value} {F : Heap → Prop} {v : Int32} {st0 : List Value}
    (hM : Met Γ.1 y (.code y b maxL ret :: TS) rm (Pz G (.ref a :: As) F) (vp_Si (fun r => r = v)) 0 0 (fun _ => False)) (hy : zcal y b maxL ret As.length) (hv : Cond.instanceMethod y ∈ TS ∧ Cond.selects C0 y y ∈ TS) (hlk : Cond.methodLink K.2.2.1 index y ∈ TS) (hrec : ∀ H locs, I H locs → va_O C0 a nA G.1 H) (hF : ∀ H locs, I H locs → F H) (hR : zroom rm K.2.2.2.2 maxL 0 0 k n) (hst : st0 = As.reverse ++ .ref a :: st) (hW : st.length ≤ 4) (hdg : decode K.1 pc = .ok (.invokevirtual index, 3)) (h : Z K G Γ I k n lv (pc + 3) (.int v :: st)) : Z K G Γ I k n lv pc st0 := fun C H locs ls hi hl =>
  vp_callSi (run_of_va (z_runVO C hl hM hy hv hlk (hrec H locs hi) (hF H locs hi) hR hst hW hdg)) (fun r hr => hr ▸ h C H locs ls hi hl)
theorem z_csv {y : MethodName} {b : ByteArray} {maxL index : Nat} {ret : Option FieldType} {rm : Room} {As : List Value} {F : Heap → Prop} {st0 : List Value}
    (hM : Met Γ.1 y (.code y b maxL ret :: TS) rm (Pz G As F) (va_Sv (fun _ => True)) 0 0 (fun _ => False)) (hy : zcal y b maxL ret As.length) (hv : Cond.static y ∈ TS) (hlk : Cond.methodLink K.2.2.1 index y ∈ TS) (hF : ∀ H locs, I H locs → F H) (hR : zroom rm K.2.2.2.2 maxL 0 0 k n) (hst : st0 = As.reverse ++ st) (hW : st.length ≤ 4) (hdg : decode K.1 pc = .ok (.invokestatic index, 3)) (h : Z K G Γ I k n lv (pc + 3) st) : Z K G Γ I k n lv pc st0 := fun C H locs ls hi hl =>
  va_csv (run_of_va (z_runS C hl hM hy hv hlk (hF H locs hi) hR hst hW hdg)) (fun _ => h C H locs ls hi hl)
theorem z_vret_S {post : Unit → Prop} (hQ : zQ Γ (va_Sv post) 0 0 (fun _ => False)) (hr : K.2.2.2.1 = none) (hp : post ()) (hdg : decode K.1 pc = .ok (.return_, 1)) : Z K G Γ (rd Γ.2.2.1.1.heap) 0 0 lv pc [] := fun C H locs ls hi hl => by
  obtain ⟨rfl, rfl⟩ := hi
  rw [show Γ.2.2.2.2 = _ from hQ]
  exact W.vret C.1 C.2.1 (C.2.2.2.2.2.2.1.trans hr) (fun t ht hW => ⟨rfl, hp, ht⟩) (fun _ h => by cases h) hdg C.2.2.2.2.2.1
theorem fr_N {ws : va_W} (h : ∀ H locs, I H locs → Fr G P ws H) : ∀ H locs, I H locs → Fr G P [] H := fun H locs hi => ⟨fun j q hq => by simp at hq, (h H locs hi).2⟩
theorem str_at (hG : ∀ H locs, I H locs → gX G P nA H) (hi : i < 7) : ∀ H locs, I H locs → xstr1 G i nA H := fun H locs h => (hG H locs h).1.2.2.2.2.2.2 i hi
theorem str_O (hG : ∀ H locs, I H locs → gX G P nA H) (hi : i < 7) : ∀ H locs, I H locs → va_O "java/lang/String" (G.2.2.2 (10 + i)) nA G.1 H := fun H locs h => (str_at hG hi H locs h).1
end STRS
def v_str (i : Nat) (j : Int32) : Int32 := (((s_byt.getD i []).getD j.toNatClampNeg 0) &&& 255).toUInt32 % 65536 |>.toInt32
theorem nc_str (i : Nat) (j : Int32) : narrow .char (.int (v_str i j)) = .int (v_str i j) := by
  have h : ∀ b ∈ ([99, 111, 109, 101, 114, 100, 111, 117, 98, 116, 119, 97, 121, 102, 111, 103, 116, 111, 108, 108, 112, 117, 115, 104, 0] : List Int32), narrow .char (.int ((b &&& 255).toUInt32 % 65536).toInt32) = .int ((b &&& 255).toUInt32 % 65536).toInt32 := by decide +kernel
  have hm : ∀ l ∈ s_byt, ∀ b ∈ l, b ∈ ([99, 111, 109, 101, 114, 100, 111, 117, 98, 116, 119, 97, 121, 102, 111, 103, 116, 111, 108, 108, 112, 117, 115, 104, 0] : List Int32) := by decide +kernel
  refine h _ ?_
  rw [List.getD_eq_getElem?_getD, List.getD_eq_getElem?_getD]
  cases h1 : s_byt[i]? with
  | none => simp
  | some l =>
    rw [Option.getD_some]
    cases h2 : l[j.toNatClampNeg]? with
    | none => simp
    | some b => exact hm l (List.mem_of_getElem? h1) b (List.mem_of_getElem? h2)

theorem dJ3_checkIndex_8e157_0 : decode cJ3_checkIndex_8e157 0 = .ok (.iload_n 0, 1) := by decide +kernel
theorem dJ3_checkIndex_8e157_1 : decode cJ3_checkIndex_8e157 1 = .ok (.ifCond .lt 8, 3) := by decide +kernel
theorem dJ3_checkIndex_8e157_4 : decode cJ3_checkIndex_8e157 4 = .ok (.iload_n 0, 1) := by decide +kernel
theorem dJ3_checkIndex_8e157_5 : decode cJ3_checkIndex_8e157 5 = .ok (.iload_n 1, 1) := by decide +kernel
theorem dJ3_checkIndex_8e157_6 : decode cJ3_checkIndex_8e157 6 = .ok (.if_icmp .lt 10, 3) := by decide +kernel
theorem dJ3_checkIndex_8e157_9 : decode cJ3_checkIndex_8e157 9 = .ok (.aload_n 2, 1) := by decide +kernel
theorem dJ3_checkIndex_8e157_10 : decode cJ3_checkIndex_8e157 10 = .ok (.iload_n 0, 1) := by decide +kernel
theorem dJ3_checkIndex_8e157_11 : decode cJ3_checkIndex_8e157 11 = .ok (.iload_n 1, 1) := by decide +kernel
theorem dJ3_checkIndex_8e157_12 : decode cJ3_checkIndex_8e157 12 = .ok (.invokestatic 95, 3) := by decide +kernel
theorem dJ3_checkIndex_8e157_15 : decode cJ3_checkIndex_8e157 15 = .ok (.athrow, 1) := by decide +kernel
theorem dJ3_checkIndex_8e157_16 : decode cJ3_checkIndex_8e157 16 = .ok (.iload_n 0, 1) := by decide +kernel
theorem dJ3_checkIndex_8e157_17 : decode cJ3_checkIndex_8e157 17 = .ok (.ireturn, 1) := by decide +kernel
abbrev k_J3_checkIndex_8e157 : zK := (cJ3_checkIndex_8e157, 3, RJ3, (some .int), ({ frames := 0, cells := 0, slots := 0, locals := 0 } : Room))
theorem zc_J3_checkIndex_8e157 : zcal yJ3_checkIndex_8e157 k_J3_checkIndex_8e157.1 k_J3_checkIndex_8e157.2.1 k_J3_checkIndex_8e157.2.2.2.1 3 := ⟨tw_code_yJ3_checkIndex_8e157, tw_i_jdk_internal_util_Preconditions, ⟨by decide +kernel, by decide +kernel⟩, by decide +kernel⟩
set_option maxHeartbeats 1000000 in
theorem c_J3_checkIndex_8e157 {l : Launch} (G : zG) (P : pT) (x0 x1 : Int32) (q : Option Nat) (h0 : ¬ x0 < 0) (h1 : x0 < x1) : Met l yJ3_checkIndex_8e157 (.code yJ3_checkIndex_8e157 k_J3_checkIndex_8e157.1 k_J3_checkIndex_8e157.2.1 k_J3_checkIndex_8e157.2.2.2.1 :: TS) k_J3_checkIndex_8e157.2.2.2.2 (Pz G [.int x0, .int x1, va_rf q] (Fr G P [])) (vp_Si (fun r => r = x0)) 0 0 (fun _ => False) := by
  refine zmet (K := k_J3_checkIndex_8e157) (by decide +kernel) rfl (by cases q <;> rfl) (fun Γ hl0 hQ hN hF => ?_)
  have hG := rd_F hF.2
  have hX := fr_all (P := P) (rd_P (G := G) hF.1) hG
  show Z k_J3_checkIndex_8e157 G Γ _ 0 0 (lv_args 0 [.int x0, .int x1, va_rf q]) 0 []
  refine z_lv (lv' := [(0, .int x0), (1, .int x1)]) rfl ?_
  refine z_iload_n dJ3_checkIndex_8e157_0 rfl ?_
  refine z_if_lt (tgt := 9) dJ3_checkIndex_8e157_1 (by decide) (fun c => absurd c h0) (fun _ => ?_)
  refine z_iload_n dJ3_checkIndex_8e157_4 rfl ?_
  refine z_iload_n dJ3_checkIndex_8e157_5 rfl ?_
  refine z_icmp_lt (tgt := 16) dJ3_checkIndex_8e157_6 (by decide) (fun _ => ?_) (fun c => absurd h1 c)
  refine z_iload_n dJ3_checkIndex_8e157_16 rfl ?_
  exact z_iret_S hQ rfl rfl dJ3_checkIndex_8e157_17
theorem dJ0_checkIndex_df160_0 : decode cJ0_checkIndex_df160 0 = .ok (.iload_n 0, 1) := by decide +kernel
theorem dJ0_checkIndex_df160_1 : decode cJ0_checkIndex_df160 1 = .ok (.iload_n 1, 1) := by decide +kernel
theorem dJ0_checkIndex_df160_2 : decode cJ0_checkIndex_df160 2 = .ok (.getstatic 1053, 3) := by decide +kernel
theorem dJ0_checkIndex_df160_5 : decode cJ0_checkIndex_df160 5 = .ok (.invokestatic 1059, 3) := by decide +kernel
theorem dJ0_checkIndex_df160_8 : decode cJ0_checkIndex_df160 8 = .ok (.pop, 1) := by decide +kernel
theorem dJ0_checkIndex_df160_9 : decode cJ0_checkIndex_df160 9 = .ok (.return_, 1) := by decide +kernel
abbrev k_J0_checkIndex_df160 : zK := (cJ0_checkIndex_df160, 2, RJ0, none, ({ frames := 1, cells := 0, slots := 0, locals := 22 } : Room))
theorem zc_J0_checkIndex_df160 : zcal yJ0_checkIndex_df160 k_J0_checkIndex_df160.1 k_J0_checkIndex_df160.2.1 k_J0_checkIndex_df160.2.2.2.1 2 := ⟨tw_code_yJ0_checkIndex_df160, tw_i_java_lang_String, ⟨by decide +kernel, by decide +kernel⟩, by decide +kernel⟩
set_option maxHeartbeats 1000000 in
theorem c_J0_checkIndex_df160 {l : Launch} (G : zG) (P : pT) (x0 x1 : Int32) (h0 : ¬ x0 < 0) (h1 : x0 < x1) : Met l yJ0_checkIndex_df160 (.code yJ0_checkIndex_df160 k_J0_checkIndex_df160.1 k_J0_checkIndex_df160.2.1 k_J0_checkIndex_df160.2.2.2.1 :: TS) k_J0_checkIndex_df160.2.2.2.2 (Pz G [.int x0, .int x1] (Fr G P [])) (va_Sv (fun _ => True)) 0 0 (fun _ => False) := by
  refine zmet (K := k_J0_checkIndex_df160) (by decide +kernel) rfl rfl (fun Γ hl0 hQ hN hF => ?_)
  have hG := rd_F hF.2
  have hX := fr_all (P := P) (rd_P (G := G) hF.1) hG
  show Z k_J0_checkIndex_df160 G Γ _ 0 0 [(0, .int x0), (1, .int x1)] 0 []
  refine z_iload_n dJ0_checkIndex_df160_0 rfl ?_
  refine z_iload_n dJ0_checkIndex_df160_1 rfl ?_
  have hs : ∃ q : Option Nat, ∀ H locs, rd Γ.2.2.1.1.heap H locs → va_Z "jdk/internal/util/Preconditions" "SIOOBE_FORMATTER" "Ljava/util/function/BiFunction;" (va_rf q) nA G.1 H := by
    rcases (hG _ _ ⟨rfl, rfl⟩).1.2.2.2.2.2.1 with h | ⟨t, h⟩
    · exact ⟨none, rd_F h⟩
    · exact ⟨some t, rd_F h⟩
  obtain ⟨q, hs⟩ := hs
  refine z_getsK hs tw_f_RJ0_1053 dJ0_checkIndex_df160_2 ?_
  refine z_csi (c_J3_checkIndex_8e157 G P x0 x1 q h0 h1) zc_J3_checkIndex_8e157 tw_st_yJ3_checkIndex_8e157 tw_m_RJ0_1059 (fr_N hX) (zroom_of rfl) rfl (Nat.le_of_ble_eq_true rfl) dJ0_checkIndex_df160_5 ?_
  refine z_pop dJ0_checkIndex_df160_8 rfl ?_
  exact z_vret_S hQ rfl trivial dJ0_checkIndex_df160_9
theorem dJ1_charAt_3b067_0 : decode cJ1_charAt_3b067 0 = .ok (.iload_n 1, 1) := by decide +kernel
theorem dJ1_charAt_3b067_1 : decode cJ1_charAt_3b067 1 = .ok (.aload_n 0, 1) := by decide +kernel
theorem dJ1_charAt_3b067_2 : decode cJ1_charAt_3b067 2 = .ok (.arraylength, 1) := by decide +kernel
theorem dJ1_charAt_3b067_3 : decode cJ1_charAt_3b067 3 = .ok (.invokestatic 9, 3) := by decide +kernel
theorem dJ1_charAt_3b067_6 : decode cJ1_charAt_3b067 6 = .ok (.aload_n 0, 1) := by decide +kernel
theorem dJ1_charAt_3b067_7 : decode cJ1_charAt_3b067 7 = .ok (.iload_n 1, 1) := by decide +kernel
theorem dJ1_charAt_3b067_8 : decode cJ1_charAt_3b067 8 = .ok (.baload, 1) := by decide +kernel
theorem dJ1_charAt_3b067_9 : decode cJ1_charAt_3b067 9 = .ok (.sipush 255, 3) := by decide +kernel
theorem dJ1_charAt_3b067_12 : decode cJ1_charAt_3b067 12 = .ok (.iand, 1) := by decide +kernel
theorem dJ1_charAt_3b067_13 : decode cJ1_charAt_3b067 13 = .ok (.i2c, 1) := by decide +kernel
theorem dJ1_charAt_3b067_14 : decode cJ1_charAt_3b067 14 = .ok (.ireturn, 1) := by decide +kernel
abbrev k_J1_charAt_3b067 : zK := (cJ1_charAt_3b067, 2, RJ1, (some .char), ({ frames := 2, cells := 0, slots := 0, locals := 43 } : Room))
theorem zc_J1_charAt_3b067 : zcal yJ1_charAt_3b067 k_J1_charAt_3b067.1 k_J1_charAt_3b067.2.1 k_J1_charAt_3b067.2.2.2.1 2 := ⟨tw_code_yJ1_charAt_3b067, tw_i_java_lang_StringLatin1, ⟨by decide +kernel, by decide +kernel⟩, by decide +kernel⟩
set_option maxHeartbeats 1000000 in
theorem c_J1_charAt_3b067 {l : Launch} (G : zG) (P : pT) (i : Nat) (x1 : Int32) (hi : i < 7) (h0 : ¬ x1 < 0) (h1 : x1 < Int32.ofNat (s_len.getD i 0)) (h2 : vp_in x1 (s_len.getD i 0)) : Met l yJ1_charAt_3b067 (.code yJ1_charAt_3b067 k_J1_charAt_3b067.1 k_J1_charAt_3b067.2.1 k_J1_charAt_3b067.2.2.2.1 :: TS) k_J1_charAt_3b067.2.2.2.2 (Pz G [.ref (G.2.2.2 (20 + i)), .int x1] (Fr G P [])) (vp_Si (fun r => r = v_str i x1)) 0 0 (fun _ => False) := by
  refine zmet (K := k_J1_charAt_3b067) (by decide +kernel) rfl rfl (fun Γ hl0 hQ hN hF => ?_)
  have hG := rd_F hF.2
  have hX := fr_all (P := P) (rd_P (G := G) hF.1) hG
  show Z k_J1_charAt_3b067 G Γ _ 0 0 [(0, .ref (G.2.2.2 (20 + i))), (1, .int x1)] 0 []
  have hs := str_at hG hi
  have hT : ∀ H locs, rd Γ.2.2.1.1.heap H locs → va_T .byte (G.2.2.2 (20 + i)) (s_len.getD i 0) (fun j => .int ((s_byt.getD i []).getD j 0)) nA G.1 H := fun H locs h => (hs H locs h).2.2.2
  refine z_iload_n dJ1_charAt_3b067_0 rfl ?_
  refine z_aload_n dJ1_charAt_3b067_1 rfl ?_
  refine z_tlenK hT rfl dJ1_charAt_3b067_2 ?_
  refine z_csv (c_J0_checkIndex_df160 G P x1 _ h0 h1) zc_J0_checkIndex_df160 tw_st_yJ0_checkIndex_df160 tw_m_RJ1_9 (fr_N hX) (zroom_of rfl) rfl (Nat.le_of_ble_eq_true rfl) dJ1_charAt_3b067_3 ?_
  refine z_aload_n dJ1_charAt_3b067_6 rfl ?_
  refine z_iload_n dJ1_charAt_3b067_7 rfl ?_
  refine z_tbK (f := fun j => (s_byt.getD i []).getD j 0) hT h2 dJ1_charAt_3b067_8 ?_
  refine z_sipush (v := 255) dJ1_charAt_3b067_9 rfl ?_
  refine z_iand dJ1_charAt_3b067_12 ?_
  refine z_i2c (v := v_str i x1) dJ1_charAt_3b067_13 rfl ?_
  exact z_zret_S hQ rfl (nc_str i x1) rfl dJ1_charAt_3b067_14
theorem dJ0_isLatin1_aae02_0 : decode cJ0_isLatin1_aae02 0 = .ok (.getstatic 38, 3) := by decide +kernel
theorem dJ0_isLatin1_aae02_3 : decode cJ0_isLatin1_aae02 3 = .ok (.ifCond .eq 14, 3) := by decide +kernel
theorem dJ0_isLatin1_aae02_6 : decode cJ0_isLatin1_aae02 6 = .ok (.aload_n 0, 1) := by decide +kernel
theorem dJ0_isLatin1_aae02_7 : decode cJ0_isLatin1_aae02 7 = .ok (.getfield 15, 3) := by decide +kernel
theorem dJ0_isLatin1_aae02_10 : decode cJ0_isLatin1_aae02 10 = .ok (.ifCond .ne 7, 3) := by decide +kernel
theorem dJ0_isLatin1_aae02_13 : decode cJ0_isLatin1_aae02 13 = .ok (.iconst 1, 1) := by decide +kernel
theorem dJ0_isLatin1_aae02_14 : decode cJ0_isLatin1_aae02 14 = .ok (.goto 4, 3) := by decide +kernel
theorem dJ0_isLatin1_aae02_17 : decode cJ0_isLatin1_aae02 17 = .ok (.iconst 0, 1) := by decide +kernel
theorem dJ0_isLatin1_aae02_18 : decode cJ0_isLatin1_aae02 18 = .ok (.ireturn, 1) := by decide +kernel
abbrev k_J0_isLatin1_aae02 : zK := (cJ0_isLatin1_aae02, 1, RJ0, (some .boolean), ({ frames := 0, cells := 0, slots := 0, locals := 0 } : Room))
theorem zc_J0_isLatin1_aae02 : zcal yJ0_isLatin1_aae02 k_J0_isLatin1_aae02.1 k_J0_isLatin1_aae02.2.1 k_J0_isLatin1_aae02.2.2.2.1 0 := ⟨tw_code_yJ0_isLatin1_aae02, tw_i_java_lang_String, ⟨by decide +kernel, by decide +kernel⟩, by decide +kernel⟩
theorem zv_J0_isLatin1_aae02 : Cond.instanceMethod yJ0_isLatin1_aae02 ∈ TS ∧ Cond.selects RJ0 yJ0_isLatin1_aae02 yJ0_isLatin1_aae02 ∈ TS := ⟨tw_inst_yJ0_isLatin1_aae02, tw_s_yJ0_isLatin1_aae02⟩
set_option maxHeartbeats 1000000 in
theorem c_J0_isLatin1_aae02 {l : Launch} (G : zG) (P : pT) (i : Nat) (hi : i < 7) : Met l yJ0_isLatin1_aae02 (.code yJ0_isLatin1_aae02 k_J0_isLatin1_aae02.1 k_J0_isLatin1_aae02.2.1 k_J0_isLatin1_aae02.2.2.2.1 :: TS) k_J0_isLatin1_aae02.2.2.2.2 (Pz G [.ref (G.2.2.2 (10 + i))] (Fr G P [])) (vp_Si (fun r => r = 1)) 0 0 (fun _ => False) := by
  refine zmet (K := k_J0_isLatin1_aae02) (by decide +kernel) rfl rfl (fun Γ hl0 hQ hN hF => ?_)
  have hG := rd_F hF.2
  have hX := fr_all (P := P) (rd_P (G := G) hF.1) hG
  show Z k_J0_isLatin1_aae02 G Γ _ 0 0 [(0, .ref (G.2.2.2 (10 + i)))] 0 []
  have hcs : ∀ H locs, rd Γ.2.2.1.1.heap H locs → va_Z "java/lang/String" "COMPACT_STRINGS" "Z" (.int 1) nA G.1 H := fun H locs h => (hG H locs h).1.2.2.2.2.1
  have hco : ∀ H locs, rd Γ.2.2.1.1.heap H locs → va_OF "java/lang/String" "coder" "B" (.int 0) (G.2.2.2 (10 + i)) nA G.1 H := fun H locs h => (str_at hG hi H locs h).2.1
  refine z_getsK hcs tw_f_RJ0_38 dJ0_isLatin1_aae02_0 ?_
  refine z_if_eq (tgt := 17) dJ0_isLatin1_aae02_3 (by decide) (fun c => absurd c (by decide)) (fun _ => ?_)
  refine z_aload_n dJ0_isLatin1_aae02_6 rfl ?_
  refine z_getK hco tw_f_RJ0_15 dJ0_isLatin1_aae02_7 ?_
  refine z_if_ne (tgt := 17) dJ0_isLatin1_aae02_10 (by decide) (fun c => absurd rfl c) (fun _ => ?_)
  refine z_iconst (v := 1) dJ0_isLatin1_aae02_13 rfl ?_
  refine z_goto (tgt := 18) dJ0_isLatin1_aae02_14 (by decide) ?_
  exact z_zret_S hQ rfl rfl rfl dJ0_isLatin1_aae02_18
theorem dJ0_coder_7d493_0 : decode cJ0_coder_7d493 0 = .ok (.getstatic 38, 3) := by decide +kernel
theorem dJ0_coder_7d493_3 : decode cJ0_coder_7d493 3 = .ok (.ifCond .eq 10, 3) := by decide +kernel
theorem dJ0_coder_7d493_6 : decode cJ0_coder_7d493 6 = .ok (.aload_n 0, 1) := by decide +kernel
theorem dJ0_coder_7d493_7 : decode cJ0_coder_7d493 7 = .ok (.getfield 15, 3) := by decide +kernel
theorem dJ0_coder_7d493_10 : decode cJ0_coder_7d493 10 = .ok (.goto 4, 3) := by decide +kernel
theorem dJ0_coder_7d493_13 : decode cJ0_coder_7d493 13 = .ok (.iconst 1, 1) := by decide +kernel
theorem dJ0_coder_7d493_14 : decode cJ0_coder_7d493 14 = .ok (.ireturn, 1) := by decide +kernel
abbrev k_J0_coder_7d493 : zK := (cJ0_coder_7d493, 1, RJ0, (some .byte), ({ frames := 0, cells := 0, slots := 0, locals := 0 } : Room))
theorem zc_J0_coder_7d493 : zcal yJ0_coder_7d493 k_J0_coder_7d493.1 k_J0_coder_7d493.2.1 k_J0_coder_7d493.2.2.2.1 0 := ⟨tw_code_yJ0_coder_7d493, tw_i_java_lang_String, ⟨by decide +kernel, by decide +kernel⟩, by decide +kernel⟩
theorem zv_J0_coder_7d493 : Cond.instanceMethod yJ0_coder_7d493 ∈ TS ∧ Cond.selects RJ0 yJ0_coder_7d493 yJ0_coder_7d493 ∈ TS := ⟨tw_inst_yJ0_coder_7d493, tw_s_yJ0_coder_7d493⟩
set_option maxHeartbeats 1000000 in
theorem c_J0_coder_7d493 {l : Launch} (G : zG) (P : pT) (i : Nat) (hi : i < 7) : Met l yJ0_coder_7d493 (.code yJ0_coder_7d493 k_J0_coder_7d493.1 k_J0_coder_7d493.2.1 k_J0_coder_7d493.2.2.2.1 :: TS) k_J0_coder_7d493.2.2.2.2 (Pz G [.ref (G.2.2.2 (10 + i))] (Fr G P [])) (vp_Si (fun r => r = 0)) 0 0 (fun _ => False) := by
  refine zmet (K := k_J0_coder_7d493) (by decide +kernel) rfl rfl (fun Γ hl0 hQ hN hF => ?_)
  have hG := rd_F hF.2
  have hX := fr_all (P := P) (rd_P (G := G) hF.1) hG
  show Z k_J0_coder_7d493 G Γ _ 0 0 [(0, .ref (G.2.2.2 (10 + i)))] 0 []
  have hcs : ∀ H locs, rd Γ.2.2.1.1.heap H locs → va_Z "java/lang/String" "COMPACT_STRINGS" "Z" (.int 1) nA G.1 H := fun H locs h => (hG H locs h).1.2.2.2.2.1
  have hco : ∀ H locs, rd Γ.2.2.1.1.heap H locs → va_OF "java/lang/String" "coder" "B" (.int 0) (G.2.2.2 (10 + i)) nA G.1 H := fun H locs h => (str_at hG hi H locs h).2.1
  refine z_getsK hcs tw_f_RJ0_38 dJ0_coder_7d493_0 ?_
  refine z_if_eq (tgt := 13) dJ0_coder_7d493_3 (by decide) (fun c => absurd c (by decide)) (fun _ => ?_)
  refine z_aload_n dJ0_coder_7d493_6 rfl ?_
  refine z_getK hco tw_f_RJ0_15 dJ0_coder_7d493_7 ?_
  refine z_goto (tgt := 14) dJ0_coder_7d493_10 (by decide) ?_
  exact z_zret_S hQ rfl rfl rfl dJ0_coder_7d493_14
def v_isEmpty (i : Nat) : Int32 := if Int32.ofNat (s_len.getD i 0) = 0 then 1 else 0
theorem dJ0_isEmpty_aae02_0 : decode cJ0_isEmpty_aae02 0 = .ok (.aload_n 0, 1) := by decide +kernel
theorem dJ0_isEmpty_aae02_1 : decode cJ0_isEmpty_aae02 1 = .ok (.getfield 9, 3) := by decide +kernel
theorem dJ0_isEmpty_aae02_4 : decode cJ0_isEmpty_aae02 4 = .ok (.arraylength, 1) := by decide +kernel
theorem dJ0_isEmpty_aae02_5 : decode cJ0_isEmpty_aae02 5 = .ok (.ifCond .ne 7, 3) := by decide +kernel
theorem dJ0_isEmpty_aae02_8 : decode cJ0_isEmpty_aae02 8 = .ok (.iconst 1, 1) := by decide +kernel
theorem dJ0_isEmpty_aae02_9 : decode cJ0_isEmpty_aae02 9 = .ok (.goto 4, 3) := by decide +kernel
theorem dJ0_isEmpty_aae02_12 : decode cJ0_isEmpty_aae02 12 = .ok (.iconst 0, 1) := by decide +kernel
theorem dJ0_isEmpty_aae02_13 : decode cJ0_isEmpty_aae02 13 = .ok (.ireturn, 1) := by decide +kernel
abbrev k_J0_isEmpty_aae02 : zK := (cJ0_isEmpty_aae02, 1, RJ0, (some .boolean), ({ frames := 0, cells := 0, slots := 0, locals := 0 } : Room))
theorem zc_J0_isEmpty_aae02 : zcal yJ0_isEmpty_aae02 k_J0_isEmpty_aae02.1 k_J0_isEmpty_aae02.2.1 k_J0_isEmpty_aae02.2.2.2.1 0 := ⟨tw_code_yJ0_isEmpty_aae02, tw_i_java_lang_String, ⟨by decide +kernel, by decide +kernel⟩, by decide +kernel⟩
theorem zv_J0_isEmpty_aae02 : Cond.instanceMethod yJ0_isEmpty_aae02 ∈ TS ∧ Cond.selects RJ0 yJ0_isEmpty_aae02 yJ0_isEmpty_aae02 ∈ TS := ⟨tw_inst_yJ0_isEmpty_aae02, tw_s_yJ0_isEmpty_aae02⟩
set_option maxHeartbeats 1000000 in
theorem c_J0_isEmpty_aae02 {l : Launch} (G : zG) (P : pT) (i : Nat) (hi : i < 7) : Met l yJ0_isEmpty_aae02 (.code yJ0_isEmpty_aae02 k_J0_isEmpty_aae02.1 k_J0_isEmpty_aae02.2.1 k_J0_isEmpty_aae02.2.2.2.1 :: TS) k_J0_isEmpty_aae02.2.2.2.2 (Pz G [.ref (G.2.2.2 (10 + i))] (Fr G P [])) (vp_Si (fun r => r = v_isEmpty i)) 0 0 (fun _ => False) := by
  refine zmet (K := k_J0_isEmpty_aae02) (by decide +kernel) rfl rfl (fun Γ hl0 hQ hN hF => ?_)
  have hG := rd_F hF.2
  have hX := fr_all (P := P) (rd_P (G := G) hF.1) hG
  show Z k_J0_isEmpty_aae02 G Γ _ 0 0 [(0, .ref (G.2.2.2 (10 + i)))] 0 []
  have hva : ∀ H locs, rd Γ.2.2.1.1.heap H locs → va_OF "java/lang/String" "value" "[B" (.ref (G.2.2.2 (20 + i))) (G.2.2.2 (10 + i)) nA G.1 H := fun H locs h => (str_at hG hi H locs h).2.2.1
  have hT : ∀ H locs, rd Γ.2.2.1.1.heap H locs → va_T .byte (G.2.2.2 (20 + i)) (s_len.getD i 0) (fun j => .int ((s_byt.getD i []).getD j 0)) nA G.1 H := fun H locs h => (str_at hG hi H locs h).2.2.2
  refine z_aload_n dJ0_isEmpty_aae02_0 rfl ?_
  refine z_getK hva tw_f_RJ0_9 dJ0_isEmpty_aae02_1 ?_
  refine z_tlenK hT rfl dJ0_isEmpty_aae02_4 ?_
  refine z_if_ne (tgt := 12) dJ0_isEmpty_aae02_5 (by decide) (fun c => ?_) (fun c => ?_)
  · refine z_iconst (v := 0) dJ0_isEmpty_aae02_12 rfl ?_
    exact z_zret_S hQ rfl rfl (if_neg c).symm dJ0_isEmpty_aae02_13
  · refine z_iconst (v := 1) dJ0_isEmpty_aae02_8 rfl ?_
    refine z_goto (tgt := 13) dJ0_isEmpty_aae02_9 (by decide) ?_
    exact z_zret_S hQ rfl rfl (if_pos c).symm dJ0_isEmpty_aae02_13
theorem dJ0_length_8abf5_0 : decode cJ0_length_8abf5 0 = .ok (.aload_n 0, 1) := by decide +kernel
theorem dJ0_length_8abf5_1 : decode cJ0_length_8abf5 1 = .ok (.getfield 9, 3) := by decide +kernel
theorem dJ0_length_8abf5_4 : decode cJ0_length_8abf5 4 = .ok (.arraylength, 1) := by decide +kernel
theorem dJ0_length_8abf5_5 : decode cJ0_length_8abf5 5 = .ok (.aload_n 0, 1) := by decide +kernel
theorem dJ0_length_8abf5_6 : decode cJ0_length_8abf5 6 = .ok (.invokevirtual 335, 3) := by decide +kernel
theorem dJ0_length_8abf5_9 : decode cJ0_length_8abf5 9 = .ok (.ishr, 1) := by decide +kernel
theorem dJ0_length_8abf5_10 : decode cJ0_length_8abf5 10 = .ok (.ireturn, 1) := by decide +kernel
abbrev k_J0_length_8abf5 : zK := (cJ0_length_8abf5, 1, RJ0, (some .int), ({ frames := 1, cells := 0, slots := 0, locals := 20 } : Room))
theorem zc_J0_length_8abf5 : zcal yJ0_length_8abf5 k_J0_length_8abf5.1 k_J0_length_8abf5.2.1 k_J0_length_8abf5.2.2.2.1 0 := ⟨tw_code_yJ0_length_8abf5, tw_i_java_lang_String, ⟨by decide +kernel, by decide +kernel⟩, by decide +kernel⟩
theorem zv_J0_length_8abf5 : Cond.instanceMethod yJ0_length_8abf5 ∈ TS ∧ Cond.selects RJ0 yJ0_length_8abf5 yJ0_length_8abf5 ∈ TS := ⟨tw_inst_yJ0_length_8abf5, tw_s_yJ0_length_8abf5⟩
set_option maxHeartbeats 1000000 in
theorem c_J0_length_8abf5 {l : Launch} (G : zG) (P : pT) (i : Nat) (hi : i < 7) : Met l yJ0_length_8abf5 (.code yJ0_length_8abf5 k_J0_length_8abf5.1 k_J0_length_8abf5.2.1 k_J0_length_8abf5.2.2.2.1 :: TS) k_J0_length_8abf5.2.2.2.2 (Pz G [.ref (G.2.2.2 (10 + i))] (Fr G P [])) (vp_Si (fun r => r = Int32.ofNat (s_len.getD i 0) >>> ((0 : Int32) &&& 31))) 0 0 (fun _ => False) := by
  refine zmet (K := k_J0_length_8abf5) (by decide +kernel) rfl rfl (fun Γ hl0 hQ hN hF => ?_)
  have hG := rd_F hF.2
  have hX := fr_all (P := P) (rd_P (G := G) hF.1) hG
  show Z k_J0_length_8abf5 G Γ _ 0 0 [(0, .ref (G.2.2.2 (10 + i)))] 0 []
  have hva : ∀ H locs, rd Γ.2.2.1.1.heap H locs → va_OF "java/lang/String" "value" "[B" (.ref (G.2.2.2 (20 + i))) (G.2.2.2 (10 + i)) nA G.1 H := fun H locs h => (str_at hG hi H locs h).2.2.1
  have hT : ∀ H locs, rd Γ.2.2.1.1.heap H locs → va_T .byte (G.2.2.2 (20 + i)) (s_len.getD i 0) (fun j => .int ((s_byt.getD i []).getD j 0)) nA G.1 H := fun H locs h => (str_at hG hi H locs h).2.2.2
  have hO : ∀ H locs, rd Γ.2.2.1.1.heap H locs → va_O "java/lang/String" (G.2.2.2 (10 + i)) nA G.1 H := fun H locs h => (str_at hG hi H locs h).1
  refine z_aload_n dJ0_length_8abf5_0 rfl ?_
  refine z_getK hva tw_f_RJ0_9 dJ0_length_8abf5_1 ?_
  refine z_tlenK hT rfl dJ0_length_8abf5_4 ?_
  refine z_aload_n dJ0_length_8abf5_5 rfl ?_
  refine z_cviO (c_J0_coder_7d493 G P i hi) zc_J0_coder_7d493 zv_J0_coder_7d493 tw_m_RJ0_335 hO (fr_N hX) (zroom_of rfl) rfl (Nat.le_of_ble_eq_true rfl) dJ0_length_8abf5_6 ?_
  refine z_ishr dJ0_length_8abf5_9 ?_
  exact z_iret_S hQ rfl rfl dJ0_length_8abf5_10
theorem dJ0_charAt_5068e_0 : decode cJ0_charAt_5068e 0 = .ok (.aload_n 0, 1) := by decide +kernel
theorem dJ0_charAt_5068e_1 : decode cJ0_charAt_5068e 1 = .ok (.invokevirtual 492, 3) := by decide +kernel
theorem dJ0_charAt_5068e_4 : decode cJ0_charAt_5068e 4 = .ok (.ifCond .eq 12, 3) := by decide +kernel
theorem dJ0_charAt_5068e_7 : decode cJ0_charAt_5068e 7 = .ok (.aload_n 0, 1) := by decide +kernel
theorem dJ0_charAt_5068e_8 : decode cJ0_charAt_5068e 8 = .ok (.getfield 9, 3) := by decide +kernel
theorem dJ0_charAt_5068e_11 : decode cJ0_charAt_5068e 11 = .ok (.iload_n 1, 1) := by decide +kernel
theorem dJ0_charAt_5068e_12 : decode cJ0_charAt_5068e 12 = .ok (.invokestatic 495, 3) := by decide +kernel
theorem dJ0_charAt_5068e_15 : decode cJ0_charAt_5068e 15 = .ok (.ireturn, 1) := by decide +kernel
theorem dJ0_charAt_5068e_16 : decode cJ0_charAt_5068e 16 = .ok (.aload_n 0, 1) := by decide +kernel
theorem dJ0_charAt_5068e_17 : decode cJ0_charAt_5068e 17 = .ok (.getfield 9, 3) := by decide +kernel
theorem dJ0_charAt_5068e_20 : decode cJ0_charAt_5068e 20 = .ok (.iload_n 1, 1) := by decide +kernel
theorem dJ0_charAt_5068e_21 : decode cJ0_charAt_5068e 21 = .ok (.invokestatic 498, 3) := by decide +kernel
theorem dJ0_charAt_5068e_24 : decode cJ0_charAt_5068e 24 = .ok (.ireturn, 1) := by decide +kernel
abbrev k_J0_charAt_5068e : zK := (cJ0_charAt_5068e, 2, RJ0, (some .char), ({ frames := 3, cells := 0, slots := 0, locals := 64 } : Room))
theorem zc_J0_charAt_5068e : zcal yJ0_charAt_5068e k_J0_charAt_5068e.1 k_J0_charAt_5068e.2.1 k_J0_charAt_5068e.2.2.2.1 1 := ⟨tw_code_yJ0_charAt_5068e, tw_i_java_lang_String, ⟨by decide +kernel, by decide +kernel⟩, by decide +kernel⟩
theorem zv_J0_charAt_5068e : Cond.instanceMethod yJ0_charAt_5068e ∈ TS ∧ Cond.selects RJ0 yJ0_charAt_5068e yJ0_charAt_5068e ∈ TS := ⟨tw_inst_yJ0_charAt_5068e, tw_s_yJ0_charAt_5068e⟩
set_option maxHeartbeats 1000000 in
theorem c_J0_charAt_5068e {l : Launch} (G : zG) (P : pT) (i : Nat) (x1 : Int32) (hi : i < 7) (h0 : ¬ x1 < 0) (h1 : x1 < Int32.ofNat (s_len.getD i 0)) (h2 : vp_in x1 (s_len.getD i 0)) : Met l yJ0_charAt_5068e (.code yJ0_charAt_5068e k_J0_charAt_5068e.1 k_J0_charAt_5068e.2.1 k_J0_charAt_5068e.2.2.2.1 :: TS) k_J0_charAt_5068e.2.2.2.2 (Pz G [.ref (G.2.2.2 (10 + i)), .int x1] (Fr G P [])) (vp_Si (fun r => r = v_str i x1)) 0 0 (fun _ => False) := by
  refine zmet (K := k_J0_charAt_5068e) (by decide +kernel) rfl rfl (fun Γ hl0 hQ hN hF => ?_)
  have hG := rd_F hF.2
  have hX := fr_all (P := P) (rd_P (G := G) hF.1) hG
  show Z k_J0_charAt_5068e G Γ _ 0 0 [(0, .ref (G.2.2.2 (10 + i))), (1, .int x1)] 0 []
  have hva : ∀ H locs, rd Γ.2.2.1.1.heap H locs → va_OF "java/lang/String" "value" "[B" (.ref (G.2.2.2 (20 + i))) (G.2.2.2 (10 + i)) nA G.1 H := fun H locs h => (str_at hG hi H locs h).2.2.1
  have hO : ∀ H locs, rd Γ.2.2.1.1.heap H locs → va_O "java/lang/String" (G.2.2.2 (10 + i)) nA G.1 H := fun H locs h => (str_at hG hi H locs h).1
  refine z_aload_n dJ0_charAt_5068e_0 rfl ?_
  refine z_cviO (c_J0_isLatin1_aae02 G P i hi) zc_J0_isLatin1_aae02 zv_J0_isLatin1_aae02 tw_m_RJ0_492 hO (fr_N hX) (zroom_of rfl) rfl (Nat.le_of_ble_eq_true rfl) dJ0_charAt_5068e_1 ?_
  refine z_if_eq (tgt := 16) dJ0_charAt_5068e_4 (by decide) (fun c => absurd c (by decide)) (fun _ => ?_)
  refine z_aload_n dJ0_charAt_5068e_7 rfl ?_
  refine z_getK hva tw_f_RJ0_9 dJ0_charAt_5068e_8 ?_
  refine z_iload_n dJ0_charAt_5068e_11 rfl ?_
  refine z_csi (c_J1_charAt_3b067 G P i x1 hi h0 h1 h2) zc_J1_charAt_3b067 tw_st_yJ1_charAt_3b067 tw_m_RJ0_495 (fr_N hX) (zroom_of rfl) rfl (Nat.le_of_ble_eq_true rfl) dJ0_charAt_5068e_12 ?_
  exact z_zret_S hQ rfl (nc_str i x1) rfl dJ0_charAt_5068e_15
