theorem dX7_isShelf_0 : decode cX7_isShelf 0 = .ok (.iload_n 1, 1) := by decide +kernel
theorem dX7_isShelf_1 : decode cX7_isShelf 1 = .ok (.ifCond .lt 13, 3) := by decide +kernel
theorem dX7_isShelf_4 : decode cX7_isShelf 4 = .ok (.iload_n 1, 1) := by decide +kernel
theorem dX7_isShelf_5 : decode cX7_isShelf 5 = .ok (.bipush 8, 2) := by decide +kernel
theorem dX7_isShelf_7 : decode cX7_isShelf 7 = .ok (.if_icmp .ge 7, 3) := by decide +kernel
theorem dX7_isShelf_10 : decode cX7_isShelf 10 = .ok (.iconst 1, 1) := by decide +kernel
theorem dX7_isShelf_11 : decode cX7_isShelf 11 = .ok (.goto 4, 3) := by decide +kernel
theorem dX7_isShelf_14 : decode cX7_isShelf 14 = .ok (.iconst 0, 1) := by decide +kernel
theorem dX7_isShelf_15 : decode cX7_isShelf 15 = .ok (.ireturn, 1) := by decide +kernel
abbrev k_X7_isShelf : zK := (cX7_isShelf, 2, RX7, (some .boolean), ({ frames := 0, cells := 0, slots := 0, locals := 0 } : Room))
theorem zc_X7_isShelf : zcal yX7_isShelf k_X7_isShelf.1 k_X7_isShelf.2.1 k_X7_isShelf.2.2.2.1 1 := ⟨tw_code_yX7_isShelf, tw_i_TollForHesitatorsModel, ⟨by decide +kernel, by decide +kernel⟩, by decide +kernel⟩
theorem zv_X7_isShelf : Cond.instanceMethod yX7_isShelf ∈ TS ∧ Cond.selects RX7 yX7_isShelf yX7_isShelf ∈ TS := ⟨tw_inst_yX7_isShelf, tw_s_yX7_isShelf⟩
def v_X7_isShelf (M : mT) (x1 : Int32) : Int32 := (if x1 < 0 then 0 else (if 8 ≤ x1 then 0 else 1))
theorem nb_X7_isShelf (M : mT) (x1 : Int32) : narrow .boolean (.int (v_X7_isShelf M x1)) = .int (v_X7_isShelf M x1) := by
  unfold v_X7_isShelf
  skip
  (repeat' (first | with_reducible exact nz0 | with_reducible exact nz1 | with_reducible assumption | split))
set_option maxHeartbeats 4000000 in
theorem c_X7_isShelf {l : Launch} (G : zG) (a : Nat → Nat) (M : mT) (x1 : Int32) : Met l yX7_isShelf (.code yX7_isShelf k_X7_isShelf.1 k_X7_isShelf.2.1 k_X7_isShelf.2.2.2.1 :: TS) k_X7_isShelf.2.2.2.2 (Pz G [.ref (a 0), .int x1] (va_P G.2.1 CL (mW G a M))) (vp_Si (fun r => r = v_X7_isShelf M x1)) 0 0 (fun _ => False) := by
  refine zmet (by decide +kernel) rfl rfl (fun Γ hl0 hQ hN hF => ?_)
  have hI := rd_P (G := G) hF
  obtain ⟨res, hv⟩ : ∃ res, v_X7_isShelf M x1 = res := ⟨_, rfl⟩
  rw [hv] at hQ
  unfold v_X7_isShelf at hv
  show Z k_X7_isShelf G Γ _ 0 0 [(0, .ref (a 0)), (1, .int x1)] 0 []
  refine z_iload_n dX7_isShelf_0 rfl ?_
  have J5 : ∀ m4 : Int32, m4 = (if x1 < 0 then 0 else (if 8 ≤ x1 then 0 else 1)) → Z k_X7_isShelf G Γ (rd Γ.2.2.1.1.heap) 0 0 [(0, .ref (a 0)), (1, .int x1)] 15 [.int m4] := by
    intro m4 em4
    rewrite [em4]; clear em4
    exact z_zret_S hQ rfl (by (repeat' (first | with_reducible exact nz0 | with_reducible exact nz1 | with_reducible assumption | split))) hv dX7_isShelf_15
  refine z_if_lt (tgt := 14) dX7_isShelf_1 (by decide) (fun c1 => ?_) (fun c1 => ?_)
  · skip
    refine z_iconst (v := 0) dX7_isShelf_14 rfl ?_
    exact z_lv rfl (J5 _ (if_pos c1).symm)
  · skip
    refine z_iload_n dX7_isShelf_4 rfl ?_
    refine z_bipush (v := 8) dX7_isShelf_5 rfl ?_
    have J6 : ∀ m3 : Int32, m3 = (if 8 ≤ x1 then 0 else 1) → Z k_X7_isShelf G Γ (rd Γ.2.2.1.1.heap) 0 0 [(0, .ref (a 0)), (1, .int x1)] 15 [.int m3] := by
      intro m3 em3
      rewrite [em3]; clear em3
      exact z_lv rfl (J5 _ (if_neg c1).symm)
    refine z_icmp_ge (tgt := 14) dX7_isShelf_7 (by decide) (fun c2 => ?_) (fun c2 => ?_)
    · skip
      refine z_iconst (v := 0) dX7_isShelf_14 rfl ?_
      exact z_lv rfl (J6 _ (if_pos c2).symm)
    · skip
      refine z_iconst (v := 1) dX7_isShelf_10 rfl ?_
      refine z_goto (tgt := 15) dX7_isShelf_11 (by decide) ?_
      exact z_lv rfl (J6 _ (if_neg c2).symm)
theorem dX7_isComer_0 : decode cX7_isComer 0 = .ok (.iload_n 1, 1) := by decide +kernel
theorem dX7_isComer_1 : decode cX7_isComer 1 = .ok (.ifCond .lt 15, 3) := by decide +kernel
theorem dX7_isComer_4 : decode cX7_isComer 4 = .ok (.iload_n 1, 1) := by decide +kernel
theorem dX7_isComer_5 : decode cX7_isComer 5 = .ok (.aload_n 0, 1) := by decide +kernel
theorem dX7_isComer_6 : decode cX7_isComer 6 = .ok (.getfield 99, 3) := by decide +kernel
theorem dX7_isComer_9 : decode cX7_isComer 9 = .ok (.if_icmp .ge 7, 3) := by decide +kernel
theorem dX7_isComer_12 : decode cX7_isComer 12 = .ok (.iconst 1, 1) := by decide +kernel
theorem dX7_isComer_13 : decode cX7_isComer 13 = .ok (.goto 4, 3) := by decide +kernel
theorem dX7_isComer_16 : decode cX7_isComer 16 = .ok (.iconst 0, 1) := by decide +kernel
theorem dX7_isComer_17 : decode cX7_isComer 17 = .ok (.ireturn, 1) := by decide +kernel
abbrev k_X7_isComer : zK := (cX7_isComer, 2, RX7, (some .boolean), ({ frames := 0, cells := 0, slots := 0, locals := 0 } : Room))
theorem zc_X7_isComer : zcal yX7_isComer k_X7_isComer.1 k_X7_isComer.2.1 k_X7_isComer.2.2.2.1 1 := ⟨tw_code_yX7_isComer, tw_i_TollForHesitatorsModel, ⟨by decide +kernel, by decide +kernel⟩, by decide +kernel⟩
theorem zv_X7_isComer : Cond.instanceMethod yX7_isComer ∈ TS ∧ Cond.selects RX7 yX7_isComer yX7_isComer ∈ TS := ⟨tw_inst_yX7_isComer, tw_s_yX7_isComer⟩
def v_X7_isComer (M : mT) (x1 : Int32) : Int32 := (if x1 < 0 then 0 else (if (M.1 0) ≤ x1 then 0 else 1))
theorem nb_X7_isComer (M : mT) (x1 : Int32) : narrow .boolean (.int (v_X7_isComer M x1)) = .int (v_X7_isComer M x1) := by
  unfold v_X7_isComer
  skip
  (repeat' (first | with_reducible exact nz0 | with_reducible exact nz1 | with_reducible assumption | split))
set_option maxHeartbeats 4000000 in
theorem c_X7_isComer {l : Launch} (G : zG) (a : Nat → Nat) (M : mT) (x1 : Int32) : Met l yX7_isComer (.code yX7_isComer k_X7_isComer.1 k_X7_isComer.2.1 k_X7_isComer.2.2.2.1 :: TS) k_X7_isComer.2.2.2.2 (Pz G [.ref (a 0), .int x1] (va_P G.2.1 CL (mW G a M))) (vp_Si (fun r => r = v_X7_isComer M x1)) 0 0 (fun _ => False) := by
  refine zmet (by decide +kernel) rfl rfl (fun Γ hl0 hQ hN hF => ?_)
  have hI := rd_P (G := G) hF
  obtain ⟨res, hv⟩ : ∃ res, v_X7_isComer M x1 = res := ⟨_, rfl⟩
  rw [hv] at hQ
  unfold v_X7_isComer at hv
  show Z k_X7_isComer G Γ _ 0 0 [(0, .ref (a 0)), (1, .int x1)] 0 []
  refine z_iload_n dX7_isComer_0 rfl ?_
  have J5 : ∀ m4 : Int32, m4 = (if x1 < 0 then 0 else (if (M.1 0) ≤ x1 then 0 else 1)) → Z k_X7_isComer G Γ (rd Γ.2.2.1.1.heap) 0 0 [(0, .ref (a 0)), (1, .int x1)] 17 [.int m4] := by
    intro m4 em4
    rewrite [em4]; clear em4
    exact z_zret_S hQ rfl (by (repeat' (first | with_reducible exact nz0 | with_reducible exact nz1 | with_reducible assumption | split))) hv dX7_isComer_17
  refine z_if_lt (tgt := 16) dX7_isComer_1 (by decide) (fun c1 => ?_) (fun c1 => ?_)
  · skip
    refine z_iconst (v := 0) dX7_isComer_16 rfl ?_
    exact z_lv rfl (J5 _ (if_pos c1).symm)
  · skip
    refine z_iload_n dX7_isComer_4 rfl ?_
    refine z_aload_n dX7_isComer_5 rfl ?_
    refine mg_0 (v := M.1 0) hI rfl rfl dX7_isComer_6 ?_
    have J6 : ∀ m3 : Int32, m3 = (if (M.1 0) ≤ x1 then 0 else 1) → Z k_X7_isComer G Γ (rd Γ.2.2.1.1.heap) 0 0 [(0, .ref (a 0)), (1, .int x1)] 17 [.int m3] := by
      intro m3 em3
      rewrite [em3]; clear em3
      exact z_lv rfl (J5 _ (if_neg c1).symm)
    refine z_icmp_ge (tgt := 16) dX7_isComer_9 (by decide) (fun c2 => ?_) (fun c2 => ?_)
    · skip
      refine z_iconst (v := 0) dX7_isComer_16 rfl ?_
      exact z_lv rfl (J6 _ (if_pos c2).symm)
    · skip
      refine z_iconst (v := 1) dX7_isComer_12 rfl ?_
      refine z_goto (tgt := 17) dX7_isComer_13 (by decide) ?_
      exact z_lv rfl (J6 _ (if_neg c2).symm)
theorem dX7_isFrom_0 : decode cX7_isFrom 0 = .ok (.iload_n 1, 1) := by decide +kernel
theorem dX7_isFrom_1 : decode cX7_isFrom 1 = .ok (.iload_n 2, 1) := by decide +kernel
theorem dX7_isFrom_2 : decode cX7_isFrom 2 = .ok (.if_icmp .lt 12, 3) := by decide +kernel
theorem dX7_isFrom_5 : decode cX7_isFrom 5 = .ok (.iload_n 1, 1) := by decide +kernel
theorem dX7_isFrom_6 : decode cX7_isFrom 6 = .ok (.iload_n 3, 1) := by decide +kernel
theorem dX7_isFrom_7 : decode cX7_isFrom 7 = .ok (.if_icmp .gt 7, 3) := by decide +kernel
theorem dX7_isFrom_10 : decode cX7_isFrom 10 = .ok (.iconst 1, 1) := by decide +kernel
theorem dX7_isFrom_11 : decode cX7_isFrom 11 = .ok (.goto 4, 3) := by decide +kernel
theorem dX7_isFrom_14 : decode cX7_isFrom 14 = .ok (.iconst 0, 1) := by decide +kernel
theorem dX7_isFrom_15 : decode cX7_isFrom 15 = .ok (.ireturn, 1) := by decide +kernel
abbrev k_X7_isFrom : zK := (cX7_isFrom, 4, RX7, (some .boolean), ({ frames := 0, cells := 0, slots := 0, locals := 0 } : Room))
theorem zc_X7_isFrom : zcal yX7_isFrom k_X7_isFrom.1 k_X7_isFrom.2.1 k_X7_isFrom.2.2.2.1 3 := ⟨tw_code_yX7_isFrom, tw_i_TollForHesitatorsModel, ⟨by decide +kernel, by decide +kernel⟩, by decide +kernel⟩
theorem zv_X7_isFrom : Cond.instanceMethod yX7_isFrom ∈ TS ∧ Cond.selects RX7 yX7_isFrom yX7_isFrom ∈ TS := ⟨tw_inst_yX7_isFrom, tw_s_yX7_isFrom⟩
def v_X7_isFrom (M : mT) (x1 : Int32) (x2 : Int32) (x3 : Int32) : Int32 := (if x1 < x2 then 0 else (if x3 < x1 then 0 else 1))
theorem nb_X7_isFrom (M : mT) (x1 : Int32) (x2 : Int32) (x3 : Int32) : narrow .boolean (.int (v_X7_isFrom M x1 x2 x3)) = .int (v_X7_isFrom M x1 x2 x3) := by
  unfold v_X7_isFrom
  skip
  (repeat' (first | with_reducible exact nz0 | with_reducible exact nz1 | with_reducible assumption | split))
set_option maxHeartbeats 4000000 in
theorem c_X7_isFrom {l : Launch} (G : zG) (a : Nat → Nat) (M : mT) (x1 : Int32) (x2 : Int32) (x3 : Int32) : Met l yX7_isFrom (.code yX7_isFrom k_X7_isFrom.1 k_X7_isFrom.2.1 k_X7_isFrom.2.2.2.1 :: TS) k_X7_isFrom.2.2.2.2 (Pz G [.ref (a 0), .int x1, .int x2, .int x3] (va_P G.2.1 CL (mW G a M))) (vp_Si (fun r => r = v_X7_isFrom M x1 x2 x3)) 0 0 (fun _ => False) := by
  refine zmet (by decide +kernel) rfl rfl (fun Γ hl0 hQ hN hF => ?_)
  have hI := rd_P (G := G) hF
  obtain ⟨res, hv⟩ : ∃ res, v_X7_isFrom M x1 x2 x3 = res := ⟨_, rfl⟩
  rw [hv] at hQ
  unfold v_X7_isFrom at hv
  show Z k_X7_isFrom G Γ _ 0 0 [(0, .ref (a 0)), (1, .int x1), (2, .int x2), (3, .int x3)] 0 []
  refine z_iload_n dX7_isFrom_0 rfl ?_
  refine z_iload_n dX7_isFrom_1 rfl ?_
  have J5 : ∀ m4 : Int32, m4 = (if x1 < x2 then 0 else (if x3 < x1 then 0 else 1)) → Z k_X7_isFrom G Γ (rd Γ.2.2.1.1.heap) 0 0 [(0, .ref (a 0)), (1, .int x1), (2, .int x2), (3, .int x3)] 15 [.int m4] := by
    intro m4 em4
    rewrite [em4]; clear em4
    exact z_zret_S hQ rfl (by (repeat' (first | with_reducible exact nz0 | with_reducible exact nz1 | with_reducible assumption | split))) hv dX7_isFrom_15
  refine z_icmp_lt (tgt := 14) dX7_isFrom_2 (by decide) (fun c1 => ?_) (fun c1 => ?_)
  · skip
    refine z_iconst (v := 0) dX7_isFrom_14 rfl ?_
    exact z_lv rfl (J5 _ (if_pos c1).symm)
  · skip
    refine z_iload_n dX7_isFrom_5 rfl ?_
    refine z_iload_n dX7_isFrom_6 rfl ?_
    have J6 : ∀ m3 : Int32, m3 = (if x3 < x1 then 0 else 1) → Z k_X7_isFrom G Γ (rd Γ.2.2.1.1.heap) 0 0 [(0, .ref (a 0)), (1, .int x1), (2, .int x2), (3, .int x3)] 15 [.int m3] := by
      intro m3 em3
      rewrite [em3]; clear em3
      exact z_lv rfl (J5 _ (if_neg c1).symm)
    refine z_icmp_gt (tgt := 14) dX7_isFrom_7 (by decide) (fun c2 => ?_) (fun c2 => ?_)
    · skip
      refine z_iconst (v := 0) dX7_isFrom_14 rfl ?_
      exact z_lv rfl (J6 _ (if_pos c2).symm)
    · skip
      refine z_iconst (v := 1) dX7_isFrom_10 rfl ?_
      refine z_goto (tgt := 15) dX7_isFrom_11 (by decide) ?_
      exact z_lv rfl (J6 _ (if_neg c2).symm)
theorem dX7_no_0 : decode cX7_no 0 = .ok (.aload_n 0, 1) := by decide +kernel
theorem dX7_no_1 : decode cX7_no 1 = .ok (.getfield 25, 3) := by decide +kernel
theorem dX7_no_4 : decode cX7_no 4 = .ok (.iload_n 1, 1) := by decide +kernel
theorem dX7_no_5 : decode cX7_no 5 = .ok (.ineg, 1) := by decide +kernel
theorem dX7_no_6 : decode cX7_no 6 = .ok (.dup2, 1) := by decide +kernel
theorem dX7_no_7 : decode cX7_no 7 = .ok (.iaload, 1) := by decide +kernel
theorem dX7_no_8 : decode cX7_no 8 = .ok (.iconst 1, 1) := by decide +kernel
theorem dX7_no_9 : decode cX7_no 9 = .ok (.iadd, 1) := by decide +kernel
theorem dX7_no_10 : decode cX7_no 10 = .ok (.iastore, 1) := by decide +kernel
theorem dX7_no_11 : decode cX7_no 11 = .ok (.iload_n 1, 1) := by decide +kernel
theorem dX7_no_12 : decode cX7_no 12 = .ok (.ireturn, 1) := by decide +kernel
abbrev k_X7_no : zK := (cX7_no, 2, RX7, (some .int), ({ frames := 0, cells := 0, slots := 0, locals := 0 } : Room))
theorem zc_X7_no : zcal yX7_no k_X7_no.1 k_X7_no.2.1 k_X7_no.2.2.2.1 1 := ⟨tw_code_yX7_no, tw_i_TollForHesitatorsModel, ⟨by decide +kernel, by decide +kernel⟩, by decide +kernel⟩
theorem zv_X7_no : Cond.instanceMethod yX7_no ∈ TS ∧ Cond.selects RX7 yX7_no yX7_no ∈ TS := ⟨tw_inst_yX7_no, tw_s_yX7_no⟩
def v_X7_no (M : mT) (x1 : Int32) : Int32 × mT := (x1, msa M 8 (upd (M.2.1 8) (-x1).toNatClampNeg (((M.2.1 8) (-x1).toNatClampNeg) + 1)))
def p_X7_no (M : mT) (x1 : Int32) : Prop := (vp_in (-x1) 8) ∧ (vp_in (-x1) 8)
set_option maxHeartbeats 4000000 in
theorem c_X7_no {l : Launch} (G : zG) (a : Nat → Nat) {X : zX} (hX : XOK X) (sz : Nat) (M : mT) (x1 : Int32) (hp : p_X7_no M x1) : Met l yX7_no (.code yX7_no k_X7_no.1 k_X7_no.2.1 k_X7_no.2.2.2.1 :: TS) k_X7_no.2.2.2.2 (Pz G [.ref (a 0), .int x1] (Fw G X (mW G a M) sz)) (Qwi G (fun r w => r = (v_X7_no M x1).1 ∧ w = mW G a (v_X7_no M x1).2) (va_A (mW G a M) sz)) 0 0 (va_A (mW G a M) sz) := by
  refine zmet (by decide +kernel) rfl rfl (fun Γ hl0 hQ hN hF => ?_)
  refine z_start hX hF (fun hw => ?_)
  generalize va_A (mW G a M) sz = A at hQ hw ⊢
  obtain ⟨res, hv⟩ : ∃ res, v_X7_no M x1 = res := ⟨_, rfl⟩
  rw [hv] at hQ
  unfold v_X7_no at hv
  unfold p_X7_no at hp
  show Z k_X7_no G Γ _ 0 0 [(0, .ref (a 0)), (1, .int x1)] 0 []
  refine z_aload_n dX7_no_0 rfl ?_
  refine mg_8 wr_P rfl dX7_no_1 ?_
  refine z_iload_n dX7_no_4 rfl ?_
  refine z_ineg dX7_no_5 ?_
  refine z_dup2_11 dX7_no_6 rfl rfl ?_
  obtain ⟨q1, hp⟩ := hp
  refine ml_8 (x := (M.2.1 8) (-x1).toNatClampNeg) wr_P q1 rfl dX7_no_7 ?_
  refine z_iconst (v := 1) dX7_no_8 rfl ?_
  refine z_iadd dX7_no_9 ?_
  have q2 := hp
  refine ms_8 (F := upd (M.2.1 8) (-x1).toNatClampNeg (((M.2.1 8) (-x1).toNatClampNeg) + 1)) q2 rfl dX7_no_10 ?_
  refine z_iload_n dX7_no_11 rfl ?_
  subst hv; exact z_iret_W hQ rfl rfl rfl ⟨rfl, rfl⟩ dX7_no_12
theorem dX7_noTen_0 : decode cX7_noTen 0 = .ok (.aload_n 0, 1) := by decide +kernel
theorem dX7_noTen_1 : decode cX7_noTen 1 = .ok (.getfield 25, 3) := by decide +kernel
theorem dX7_noTen_4 : decode cX7_noTen 4 = .ok (.iload_n 1, 1) := by decide +kernel
theorem dX7_noTen_5 : decode cX7_noTen 5 = .ok (.ineg, 1) := by decide +kernel
theorem dX7_noTen_6 : decode cX7_noTen 6 = .ok (.dup2, 1) := by decide +kernel
theorem dX7_noTen_7 : decode cX7_noTen 7 = .ok (.iaload, 1) := by decide +kernel
theorem dX7_noTen_8 : decode cX7_noTen 8 = .ok (.iconst 1, 1) := by decide +kernel
theorem dX7_noTen_9 : decode cX7_noTen 9 = .ok (.iadd, 1) := by decide +kernel
theorem dX7_noTen_10 : decode cX7_noTen 10 = .ok (.iastore, 1) := by decide +kernel
theorem dX7_noTen_11 : decode cX7_noTen 11 = .ok (.iload_n 1, 1) := by decide +kernel
theorem dX7_noTen_12 : decode cX7_noTen 12 = .ok (.bipush 10, 2) := by decide +kernel
theorem dX7_noTen_14 : decode cX7_noTen 14 = .ok (.isub, 1) := by decide +kernel
theorem dX7_noTen_15 : decode cX7_noTen 15 = .ok (.ireturn, 1) := by decide +kernel
abbrev k_X7_noTen : zK := (cX7_noTen, 2, RX7, (some .int), ({ frames := 0, cells := 0, slots := 0, locals := 0 } : Room))
theorem zc_X7_noTen : zcal yX7_noTen k_X7_noTen.1 k_X7_noTen.2.1 k_X7_noTen.2.2.2.1 1 := ⟨tw_code_yX7_noTen, tw_i_TollForHesitatorsModel, ⟨by decide +kernel, by decide +kernel⟩, by decide +kernel⟩
theorem zv_X7_noTen : Cond.instanceMethod yX7_noTen ∈ TS ∧ Cond.selects RX7 yX7_noTen yX7_noTen ∈ TS := ⟨tw_inst_yX7_noTen, tw_s_yX7_noTen⟩
def v_X7_noTen (M : mT) (x1 : Int32) : Int32 × mT := (x1 - 10, msa M 8 (upd (M.2.1 8) (-x1).toNatClampNeg (((M.2.1 8) (-x1).toNatClampNeg) + 1)))
def p_X7_noTen (M : mT) (x1 : Int32) : Prop := (vp_in (-x1) 8) ∧ (vp_in (-x1) 8)
set_option maxHeartbeats 4000000 in
theorem c_X7_noTen {l : Launch} (G : zG) (a : Nat → Nat) {X : zX} (hX : XOK X) (sz : Nat) (M : mT) (x1 : Int32) (hp : p_X7_noTen M x1) : Met l yX7_noTen (.code yX7_noTen k_X7_noTen.1 k_X7_noTen.2.1 k_X7_noTen.2.2.2.1 :: TS) k_X7_noTen.2.2.2.2 (Pz G [.ref (a 0), .int x1] (Fw G X (mW G a M) sz)) (Qwi G (fun r w => r = (v_X7_noTen M x1).1 ∧ w = mW G a (v_X7_noTen M x1).2) (va_A (mW G a M) sz)) 0 0 (va_A (mW G a M) sz) := by
  refine zmet (by decide +kernel) rfl rfl (fun Γ hl0 hQ hN hF => ?_)
  refine z_start hX hF (fun hw => ?_)
  generalize va_A (mW G a M) sz = A at hQ hw ⊢
  obtain ⟨res, hv⟩ : ∃ res, v_X7_noTen M x1 = res := ⟨_, rfl⟩
  rw [hv] at hQ
  unfold v_X7_noTen at hv
  unfold p_X7_noTen at hp
  show Z k_X7_noTen G Γ _ 0 0 [(0, .ref (a 0)), (1, .int x1)] 0 []
  refine z_aload_n dX7_noTen_0 rfl ?_
  refine mg_8 wr_P rfl dX7_noTen_1 ?_
  refine z_iload_n dX7_noTen_4 rfl ?_
  refine z_ineg dX7_noTen_5 ?_
  refine z_dup2_11 dX7_noTen_6 rfl rfl ?_
  obtain ⟨q1, hp⟩ := hp
  refine ml_8 (x := (M.2.1 8) (-x1).toNatClampNeg) wr_P q1 rfl dX7_noTen_7 ?_
  refine z_iconst (v := 1) dX7_noTen_8 rfl ?_
  refine z_iadd dX7_noTen_9 ?_
  have q2 := hp
  refine ms_8 (F := upd (M.2.1 8) (-x1).toNatClampNeg (((M.2.1 8) (-x1).toNatClampNeg) + 1)) q2 rfl dX7_noTen_10 ?_
  refine z_iload_n dX7_noTen_11 rfl ?_
  refine z_bipush (v := 10) dX7_noTen_12 rfl ?_
  refine z_isub dX7_noTen_14 ?_
  subst hv; exact z_iret_W hQ rfl rfl rfl ⟨rfl, rfl⟩ dX7_noTen_15
theorem dX7_row_0 : decode cX7_row 0 = .ok (.aload_n 0, 1) := by decide +kernel
theorem dX7_row_1 : decode cX7_row 1 = .ok (.iload_n 1, 1) := by decide +kernel
theorem dX7_row_2 : decode cX7_row 2 = .ok (.invokevirtual 102, 3) := by decide +kernel
theorem dX7_row_5 : decode cX7_row 5 = .ok (.ifCond .ne 9, 3) := by decide +kernel
theorem dX7_row_8 : decode cX7_row 8 = .ok (.aload_n 0, 1) := by decide +kernel
theorem dX7_row_9 : decode cX7_row 9 = .ok (.iconst (-1), 1) := by decide +kernel
theorem dX7_row_10 : decode cX7_row 10 = .ok (.invokevirtual 106, 3) := by decide +kernel
theorem dX7_row_13 : decode cX7_row 13 = .ok (.ireturn, 1) := by decide +kernel
theorem dX7_row_14 : decode cX7_row 14 = .ok (.iload_n 3, 1) := by decide +kernel
theorem dX7_row_15 : decode cX7_row 15 = .ok (.ifCond .ge 10, 3) := by decide +kernel
theorem dX7_row_18 : decode cX7_row 18 = .ok (.aload_n 0, 1) := by decide +kernel
theorem dX7_row_19 : decode cX7_row 19 = .ok (.bipush (-4), 2) := by decide +kernel
theorem dX7_row_21 : decode cX7_row 21 = .ok (.invokevirtual 106, 3) := by decide +kernel
theorem dX7_row_24 : decode cX7_row 24 = .ok (.ireturn, 1) := by decide +kernel
theorem dX7_row_25 : decode cX7_row 25 = .ok (.iload_n 2, 1) := by decide +kernel
theorem dX7_row_26 : decode cX7_row 26 = .ok (.ifCond .lt 8, 3) := by decide +kernel
theorem dX7_row_29 : decode cX7_row 29 = .ok (.iload_n 2, 1) := by decide +kernel
theorem dX7_row_30 : decode cX7_row 30 = .ok (.iconst 3, 1) := by decide +kernel
theorem dX7_row_31 : decode cX7_row 31 = .ok (.if_icmp .le 10, 3) := by decide +kernel
theorem dX7_row_34 : decode cX7_row 34 = .ok (.aload_n 0, 1) := by decide +kernel
theorem dX7_row_35 : decode cX7_row 35 = .ok (.bipush (-6), 2) := by decide +kernel
theorem dX7_row_37 : decode cX7_row 37 = .ok (.invokevirtual 106, 3) := by decide +kernel
theorem dX7_row_40 : decode cX7_row 40 = .ok (.ireturn, 1) := by decide +kernel
theorem dX7_row_41 : decode cX7_row 41 = .ok (.iload_n 3, 1) := by decide +kernel
theorem dX7_row_42 : decode cX7_row 42 = .ok (.sipush 160, 3) := by decide +kernel
theorem dX7_row_45 : decode cX7_row 45 = .ok (.if_icmp .le 10, 3) := by decide +kernel
theorem dX7_row_48 : decode cX7_row 48 = .ok (.aload_n 0, 1) := by decide +kernel
theorem dX7_row_49 : decode cX7_row 49 = .ok (.bipush (-7), 2) := by decide +kernel
theorem dX7_row_51 : decode cX7_row 51 = .ok (.invokevirtual 106, 3) := by decide +kernel
theorem dX7_row_54 : decode cX7_row 54 = .ok (.ireturn, 1) := by decide +kernel
theorem dX7_row_55 : decode cX7_row 55 = .ok (.aload_n 0, 1) := by decide +kernel
theorem dX7_row_56 : decode cX7_row 56 = .ok (.getfield 50, 3) := by decide +kernel
theorem dX7_row_59 : decode cX7_row 59 = .ok (.iload_n 1, 1) := by decide +kernel
theorem dX7_row_60 : decode cX7_row 60 = .ok (.iconst 1, 1) := by decide +kernel
theorem dX7_row_61 : decode cX7_row 61 = .ok (.iastore, 1) := by decide +kernel
theorem dX7_row_62 : decode cX7_row 62 = .ok (.aload_n 0, 1) := by decide +kernel
theorem dX7_row_63 : decode cX7_row 63 = .ok (.getfield 53, 3) := by decide +kernel
theorem dX7_row_66 : decode cX7_row 66 = .ok (.iload_n 1, 1) := by decide +kernel
theorem dX7_row_67 : decode cX7_row 67 = .ok (.iload_n 2, 1) := by decide +kernel
theorem dX7_row_68 : decode cX7_row 68 = .ok (.iastore, 1) := by decide +kernel
theorem dX7_row_69 : decode cX7_row 69 = .ok (.aload_n 0, 1) := by decide +kernel
theorem dX7_row_70 : decode cX7_row 70 = .ok (.getfield 56, 3) := by decide +kernel
theorem dX7_row_73 : decode cX7_row 73 = .ok (.iload_n 1, 1) := by decide +kernel
theorem dX7_row_74 : decode cX7_row 74 = .ok (.iload_n 3, 1) := by decide +kernel
theorem dX7_row_75 : decode cX7_row 75 = .ok (.iastore, 1) := by decide +kernel
theorem dX7_row_76 : decode cX7_row 76 = .ok (.iconst 0, 1) := by decide +kernel
theorem dX7_row_77 : decode cX7_row 77 = .ok (.istore 4, 2) := by decide +kernel
theorem dX7_row_79 : decode cX7_row 79 = .ok (.iload 4, 2) := by decide +kernel
theorem dX7_row_81 : decode cX7_row 81 = .ok (.sipush 160, 3) := by decide +kernel
theorem dX7_row_84 : decode cX7_row 84 = .ok (.if_icmp .ge 23, 3) := by decide +kernel
theorem dX7_row_87 : decode cX7_row 87 = .ok (.aload_n 0, 1) := by decide +kernel
theorem dX7_row_88 : decode cX7_row 88 = .ok (.getfield 62, 3) := by decide +kernel
theorem dX7_row_91 : decode cX7_row 91 = .ok (.sipush 160, 3) := by decide +kernel
theorem dX7_row_94 : decode cX7_row 94 = .ok (.iload_n 1, 1) := by decide +kernel
theorem dX7_row_95 : decode cX7_row 95 = .ok (.imul, 1) := by decide +kernel
theorem dX7_row_96 : decode cX7_row 96 = .ok (.iload 4, 2) := by decide +kernel
theorem dX7_row_98 : decode cX7_row 98 = .ok (.iadd, 1) := by decide +kernel
theorem dX7_row_99 : decode cX7_row 99 = .ok (.lconst 0, 1) := by decide +kernel
theorem dX7_row_100 : decode cX7_row 100 = .ok (.lastore, 1) := by decide +kernel
theorem dX7_row_101 : decode cX7_row 101 = .ok (.iinc 4 1, 3) := by decide +kernel
theorem dX7_row_104 : decode cX7_row 104 = .ok (.goto (-25), 3) := by decide +kernel
theorem dX7_row_107 : decode cX7_row 107 = .ok (.iconst 1, 1) := by decide +kernel
theorem dX7_row_108 : decode cX7_row 108 = .ok (.ireturn, 1) := by decide +kernel
abbrev k_X7_row : zK := (cX7_row, 5, RX7, (some .int), ({ frames := 1, cells := 0, slots := 0, locals := 21 } : Room))
theorem zc_X7_row : zcal yX7_row k_X7_row.1 k_X7_row.2.1 k_X7_row.2.2.2.1 3 := ⟨tw_code_yX7_row, tw_i_TollForHesitatorsModel, ⟨by decide +kernel, by decide +kernel⟩, by decide +kernel⟩
theorem zv_X7_row : Cond.instanceMethod yX7_row ∈ TS ∧ Cond.selects RX7 yX7_row yX7_row ∈ TS := ⟨tw_inst_yX7_row, tw_s_yX7_row⟩
def v_X7_row_r : Nat → mT → Int32 → Int32 → Int32 × mT
  | 0, M, _, _ => (0, M)
  | n + 1, M, v1, v4 => if 160 ≤ v4 then (1, M) else v_X7_row_r n (msl M 20 (vp_updL (M.2.2 20) ((160 * v1) + v4).toNatClampNeg 0)) v1 (v4 + 1)
def p_X7_row_r : Nat → mT → Int32 → Int32 → Prop
  | 0, _, _, _ => False
  | n + 1, M, v1, v4 => if 160 ≤ v4 then True else (vp_in ((160 * v1) + v4) 1280) ∧ (p_X7_row_r n (msl M 20 (vp_updL (M.2.2 20) ((160 * v1) + v4).toNatClampNeg 0)) v1 (v4 + 1))
set_option maxHeartbeats 4000000 in
theorem w_X7_row {G : zG} {Γ : zT} {a : Nat → Nat} {A : Nat → Prop} {res : Int32 × mT} {X : zX} (hw : wk X A Γ.2.2.1.1.heap) (hQ : zQ Γ (Qwi G (fun r w => r = res.1 ∧ w = mW G a res.2) A) 0 0 A) : ∀ n : Nat, (∀ (M : mT) (v1 : Int32) (v4 : Int32), p_X7_row_r n M v1 v4 → v_X7_row_r n M v1 v4 = res → Z k_X7_row G Γ (wr G A Γ.2.2.1.1.heap (mW G a M)) 0 0 [(0, .ref (a 0)), (1, .int v1), (4, .int v4)] 79 []) := by
  intro n
  induction n with
  | zero => exact fun M v1 v4 hp => absurd hp (by rw [p_X7_row_r]; exact not_false)
  | succ n ih =>
    intro M v1 v4 hp hv
    rw [p_X7_row_r] at hp
    rw [v_X7_row_r] at hv
    refine z_iload dX7_row_79 rfl ?_
    refine z_sipush (v := 160) dX7_row_81 rfl ?_
    refine z_icmp_ge (tgt := 107) dX7_row_84 (by decide) (fun c19 => ?_) (fun c19 => ?_)
    · have hp := ip_t hp c19; have hv := it_t hv c19
      refine z_iconst (v := 1) dX7_row_107 rfl ?_
      subst hv; exact z_iret_W hQ rfl rfl rfl ⟨rfl, rfl⟩ dX7_row_108
    · have hp := ip_f hp c19; have hv := it_f hv c19
      refine z_aload_n dX7_row_87 rfl ?_
      refine mg_20 wr_P rfl dX7_row_88 ?_
      refine z_sipush (v := 160) dX7_row_91 rfl ?_
      refine z_iload_n dX7_row_94 rfl ?_
      refine z_imul dX7_row_95 ?_
      refine z_iload dX7_row_96 rfl ?_
      refine z_iadd dX7_row_98 ?_
      refine z_lconst (v := 0) dX7_row_99 rfl ?_
      obtain ⟨q21, hp⟩ := hp
      refine ms_20 (F := vp_updL (M.2.2 20) ((160 * v1) + v4).toNatClampNeg 0) q21 rfl dX7_row_100 ?_
      refine z_iinc (v := v4 + 1) (lv' := [(4, .int (v4 + 1)), (0, .ref (a 0)), (1, .int v1)]) dX7_row_101 2 rfl rfl (Nat.le_of_ble_eq_true rfl) rfl ?_
      refine z_goto (tgt := 79) dX7_row_104 (by decide) ?_
      exact z_lv rfl ((ih) (msl M 20 (vp_updL (M.2.2 20) ((160 * v1) + v4).toNatClampNeg 0)) v1 (v4 + 1) hp hv)
def v_X7_row (M : mT) (x1 : Int32) (x2 : Int32) (x3 : Int32) : Int32 × mT := if (v_X7_isShelf M x1) = 0 then kk (v_X7_no M (-1)) (fun q18 : Int32 × mT => (q18.1, q18.2)) else if 0 ≤ x3 then if x2 < 0 then kk (v_X7_no M (-6)) (fun q5 : Int32 × mT => (q5.1, q5.2)) else if x2 ≤ 3 then if x3 ≤ 160 then v_X7_row_r 200 (msa (msa (msa M 16 (upd (M.2.1 16) x1.toNatClampNeg 1)) 17 (upd (M.2.1 17) x1.toNatClampNeg x2)) 18 (upd (M.2.1 18) x1.toNatClampNeg x3)) x1 0 else kk (v_X7_no M (-7)) (fun q12 : Int32 × mT => (q12.1, q12.2)) else kk (v_X7_no M (-6)) (fun q14 : Int32 × mT => (q14.1, q14.2)) else kk (v_X7_no M (-4)) (fun q16 : Int32 × mT => (q16.1, q16.2))
def p_X7_row (M : mT) (x1 : Int32) (x2 : Int32) (x3 : Int32) : Prop := if (v_X7_isShelf M x1) = 0 then p_X7_no M (-1) else if 0 ≤ x3 then if x2 < 0 then p_X7_no M (-6) else if x2 ≤ 3 then if x3 ≤ 160 then vp_in x1 8 ∧ (vp_in x1 8 ∧ (vp_in x1 8 ∧ (p_X7_row_r 200 (msa (msa (msa M 16 (upd (M.2.1 16) x1.toNatClampNeg 1)) 17 (upd (M.2.1 17) x1.toNatClampNeg x2)) 18 (upd (M.2.1 18) x1.toNatClampNeg x3)) x1 0))) else p_X7_no M (-7) else p_X7_no M (-6) else p_X7_no M (-4)
set_option maxHeartbeats 4000000 in
theorem c_X7_row {l : Launch} (G : zG) (a : Nat → Nat) {X : zX} (hX : XOK X) (sz : Nat) (M : mT) (x1 : Int32) (x2 : Int32) (x3 : Int32) (hp : p_X7_row M x1 x2 x3) : Met l yX7_row (.code yX7_row k_X7_row.1 k_X7_row.2.1 k_X7_row.2.2.2.1 :: TS) k_X7_row.2.2.2.2 (Pz G [.ref (a 0), .int x1, .int x2, .int x3] (Fw G X (mW G a M) sz)) (Qwi G (fun r w => r = (v_X7_row M x1 x2 x3).1 ∧ w = mW G a (v_X7_row M x1 x2 x3).2) (va_A (mW G a M) sz)) 0 0 (va_A (mW G a M) sz) := by
  refine zmet (by decide +kernel) rfl rfl (fun Γ hl0 hQ hN hF => ?_)
  refine z_start hX hF (fun hw => ?_)
  generalize va_A (mW G a M) sz = A at hQ hw ⊢
  obtain ⟨res, hv⟩ : ∃ res, v_X7_row M x1 x2 x3 = res := ⟨_, rfl⟩
  rw [hv] at hQ
  unfold v_X7_row at hv
  unfold p_X7_row at hp
  show Z k_X7_row G Γ _ 0 0 [(0, .ref (a 0)), (1, .int x1), (2, .int x2), (3, .int x3)] 0 []
  refine z_aload_n dX7_row_0 rfl ?_
  refine z_iload_n dX7_row_1 rfl ?_
  refine z_cvi (c_X7_isShelf G a M x1 ) zc_X7_isShelf zv_X7_isShelf tw_m_RX7_102 (mrec wr_P) wr_P (zroom_of rfl) rfl (Nat.le_of_ble_eq_true rfl) dX7_row_2 ?_
  refine z_if_ne (tgt := 14) dX7_row_5 (by decide) (fun c1 => ?_) (fun c1 => ?_)
  · have hp := ip_f hp c1; have hv := it_f hv c1
    refine z_iload_n dX7_row_14 rfl ?_
    refine z_if_ge (tgt := 25) dX7_row_15 (by decide) (fun c2 => ?_) (fun c2 => ?_)
    · have hp := ip_t hp c2; have hv := it_t hv c2
      refine z_iload_n dX7_row_25 rfl ?_
      refine z_if_lt (tgt := 34) dX7_row_26 (by decide) (fun c3 => ?_) (fun c3 => ?_)
      · have hp := ip_t hp c3; have hv := it_t hv c3
        refine z_aload_n dX7_row_34 rfl ?_
        refine z_bipush (v := (-6)) dX7_row_35 rfl ?_
        have q4 := hp
        refine z_caviD hw (fun sz => c_X7_no G a hw.1 sz M (-6) q4) zc_X7_no zv_X7_no tw_m_RX7_106 (mrec wr_P) (zroom_of rfl) rfl (Nat.le_of_ble_eq_true rfl) dX7_row_37 ?_
        suffices z22 : ∀ q5 : Int32 × mT, q5 = (v_X7_no M (-6)) → Z k_X7_row G Γ (wr G A Γ.2.2.1.1.heap (mW G a q5.2)) 0 0 [(0, .ref (a 0)), (1, .int x1), (2, .int x2), (3, .int x3)] 40 [.int q5.1] from z22 _ rfl
        intro q5 hq5
        have hv := kk_vq hv hq5
        clear hq5
        subst hv; exact z_iret_W hQ rfl rfl rfl ⟨rfl, rfl⟩ dX7_row_40
      · have hp := ip_f hp c3; have hv := it_f hv c3
        refine z_iload_n dX7_row_29 rfl ?_
        refine z_iconst (v := 3) dX7_row_30 rfl ?_
        refine z_icmp_le (tgt := 41) dX7_row_31 (by decide) (fun c6 => ?_) (fun c6 => ?_)
        · have hp := ip_t hp c6; have hv := it_t hv c6
          refine z_iload_n dX7_row_41 rfl ?_
          refine z_sipush (v := 160) dX7_row_42 rfl ?_
          refine z_icmp_le (tgt := 55) dX7_row_45 (by decide) (fun c7 => ?_) (fun c7 => ?_)
          · have hp := ip_t hp c7; have hv := it_t hv c7
            refine z_aload_n dX7_row_55 rfl ?_
            refine mg_16 wr_P rfl dX7_row_56 ?_
            refine z_iload_n dX7_row_59 rfl ?_
            refine z_iconst (v := 1) dX7_row_60 rfl ?_
            obtain ⟨q8, hp⟩ := hp
            refine ms_16 (F := upd (M.2.1 16) x1.toNatClampNeg 1) q8 rfl dX7_row_61 ?_
            refine z_aload_n dX7_row_62 rfl ?_
            refine mg_17 wr_P rfl dX7_row_63 ?_
            refine z_iload_n dX7_row_66 rfl ?_
            refine z_iload_n dX7_row_67 rfl ?_
            obtain ⟨q9, hp⟩ := hp
            refine ms_17 (F := upd (M.2.1 17) x1.toNatClampNeg x2) q9 rfl dX7_row_68 ?_
            refine z_aload_n dX7_row_69 rfl ?_
            refine mg_18 wr_P rfl dX7_row_70 ?_
            refine z_iload_n dX7_row_73 rfl ?_
            refine z_iload_n dX7_row_74 rfl ?_
            obtain ⟨q10, hp⟩ := hp
            refine ms_18 (F := upd (M.2.1 18) x1.toNatClampNeg x3) q10 rfl dX7_row_75 ?_
            refine z_iconst (v := 0) dX7_row_76 rfl ?_
            refine z_istore (lv' := [(4, .int 0), (0, .ref (a 0)), (1, .int x1), (2, .int x2), (3, .int x3)]) dX7_row_77 (Nat.le_of_ble_eq_true rfl) rfl ?_
            exact z_lv rfl ((w_X7_row hw hQ 200) (msa (msa (msa M 16 (upd (M.2.1 16) x1.toNatClampNeg 1)) 17 (upd (M.2.1 17) x1.toNatClampNeg x2)) 18 (upd (M.2.1 18) x1.toNatClampNeg x3)) x1 0 hp hv)
          · have hp := ip_f hp c7; have hv := it_f hv c7
            refine z_aload_n dX7_row_48 rfl ?_
            refine z_bipush (v := (-7)) dX7_row_49 rfl ?_
            have q11 := hp
            refine z_caviD hw (fun sz => c_X7_no G a hw.1 sz M (-7) q11) zc_X7_no zv_X7_no tw_m_RX7_106 (mrec wr_P) (zroom_of rfl) rfl (Nat.le_of_ble_eq_true rfl) dX7_row_51 ?_
            suffices z23 : ∀ q12 : Int32 × mT, q12 = (v_X7_no M (-7)) → Z k_X7_row G Γ (wr G A Γ.2.2.1.1.heap (mW G a q12.2)) 0 0 [(0, .ref (a 0)), (1, .int x1), (2, .int x2), (3, .int x3)] 54 [.int q12.1] from z23 _ rfl
            intro q12 hq12
            have hv := kk_vq hv hq12
            clear hq12
            subst hv; exact z_iret_W hQ rfl rfl rfl ⟨rfl, rfl⟩ dX7_row_54
        · have hp := ip_f hp c6; have hv := it_f hv c6
          refine z_aload_n dX7_row_34 rfl ?_
          refine z_bipush (v := (-6)) dX7_row_35 rfl ?_
          have q13 := hp
          refine z_caviD hw (fun sz => c_X7_no G a hw.1 sz M (-6) q13) zc_X7_no zv_X7_no tw_m_RX7_106 (mrec wr_P) (zroom_of rfl) rfl (Nat.le_of_ble_eq_true rfl) dX7_row_37 ?_
          suffices z24 : ∀ q14 : Int32 × mT, q14 = (v_X7_no M (-6)) → Z k_X7_row G Γ (wr G A Γ.2.2.1.1.heap (mW G a q14.2)) 0 0 [(0, .ref (a 0)), (1, .int x1), (2, .int x2), (3, .int x3)] 40 [.int q14.1] from z24 _ rfl
          intro q14 hq14
          have hv := kk_vq hv hq14
          clear hq14
          subst hv; exact z_iret_W hQ rfl rfl rfl ⟨rfl, rfl⟩ dX7_row_40
    · have hp := ip_f hp c2; have hv := it_f hv c2
      refine z_aload_n dX7_row_18 rfl ?_
      refine z_bipush (v := (-4)) dX7_row_19 rfl ?_
      have q15 := hp
      refine z_caviD hw (fun sz => c_X7_no G a hw.1 sz M (-4) q15) zc_X7_no zv_X7_no tw_m_RX7_106 (mrec wr_P) (zroom_of rfl) rfl (Nat.le_of_ble_eq_true rfl) dX7_row_21 ?_
      suffices z25 : ∀ q16 : Int32 × mT, q16 = (v_X7_no M (-4)) → Z k_X7_row G Γ (wr G A Γ.2.2.1.1.heap (mW G a q16.2)) 0 0 [(0, .ref (a 0)), (1, .int x1), (2, .int x2), (3, .int x3)] 24 [.int q16.1] from z25 _ rfl
      intro q16 hq16
      have hv := kk_vq hv hq16
      clear hq16
      subst hv; exact z_iret_W hQ rfl rfl rfl ⟨rfl, rfl⟩ dX7_row_24
  · have hp := ip_t hp c1; have hv := it_t hv c1
    refine z_aload_n dX7_row_8 rfl ?_
    refine z_iconst (v := (-1)) dX7_row_9 rfl ?_
    have q17 := hp
    refine z_caviD hw (fun sz => c_X7_no G a hw.1 sz M (-1) q17) zc_X7_no zv_X7_no tw_m_RX7_106 (mrec wr_P) (zroom_of rfl) rfl (Nat.le_of_ble_eq_true rfl) dX7_row_10 ?_
    suffices z26 : ∀ q18 : Int32 × mT, q18 = (v_X7_no M (-1)) → Z k_X7_row G Γ (wr G A Γ.2.2.1.1.heap (mW G a q18.2)) 0 0 [(0, .ref (a 0)), (1, .int x1), (2, .int x2), (3, .int x3)] 13 [.int q18.1] from z26 _ rfl
    intro q18 hq18
    have hv := kk_vq hv hq18
    clear hq18
    subst hv; exact z_iret_W hQ rfl rfl rfl ⟨rfl, rfl⟩ dX7_row_13
theorem dX7_set_0 : decode cX7_set 0 = .ok (.aload_n 0, 1) := by decide +kernel
theorem dX7_set_1 : decode cX7_set 1 = .ok (.iload_n 1, 1) := by decide +kernel
theorem dX7_set_2 : decode cX7_set 2 = .ok (.invokevirtual 102, 3) := by decide +kernel
theorem dX7_set_5 : decode cX7_set 5 = .ok (.ifCond .ne 9, 3) := by decide +kernel
theorem dX7_set_8 : decode cX7_set 8 = .ok (.aload_n 0, 1) := by decide +kernel
theorem dX7_set_9 : decode cX7_set 9 = .ok (.iconst (-1), 1) := by decide +kernel
theorem dX7_set_10 : decode cX7_set 10 = .ok (.invokevirtual 106, 3) := by decide +kernel
theorem dX7_set_13 : decode cX7_set 13 = .ok (.ireturn, 1) := by decide +kernel
theorem dX7_set_14 : decode cX7_set 14 = .ok (.aload_n 0, 1) := by decide +kernel
theorem dX7_set_15 : decode cX7_set 15 = .ok (.getfield 50, 3) := by decide +kernel
theorem dX7_set_18 : decode cX7_set 18 = .ok (.iload_n 1, 1) := by decide +kernel
theorem dX7_set_19 : decode cX7_set 19 = .ok (.iaload, 1) := by decide +kernel
theorem dX7_set_20 : decode cX7_set 20 = .ok (.iconst 2, 1) := by decide +kernel
theorem dX7_set_21 : decode cX7_set 21 = .ok (.if_icmp .ne 10, 3) := by decide +kernel
theorem dX7_set_24 : decode cX7_set 24 = .ok (.aload_n 0, 1) := by decide +kernel
theorem dX7_set_25 : decode cX7_set 25 = .ok (.bipush (-2), 2) := by decide +kernel
theorem dX7_set_27 : decode cX7_set 27 = .ok (.invokevirtual 106, 3) := by decide +kernel
theorem dX7_set_30 : decode cX7_set 30 = .ok (.ireturn, 1) := by decide +kernel
theorem dX7_set_31 : decode cX7_set 31 = .ok (.aload_n 0, 1) := by decide +kernel
theorem dX7_set_32 : decode cX7_set 32 = .ok (.getfield 50, 3) := by decide +kernel
theorem dX7_set_35 : decode cX7_set 35 = .ok (.iload_n 1, 1) := by decide +kernel
theorem dX7_set_36 : decode cX7_set 36 = .ok (.iaload, 1) := by decide +kernel
theorem dX7_set_37 : decode cX7_set 37 = .ok (.ifCond .ne 10, 3) := by decide +kernel
theorem dX7_set_40 : decode cX7_set 40 = .ok (.aload_n 0, 1) := by decide +kernel
theorem dX7_set_41 : decode cX7_set 41 = .ok (.bipush (-3), 2) := by decide +kernel
theorem dX7_set_43 : decode cX7_set 43 = .ok (.invokevirtual 106, 3) := by decide +kernel
theorem dX7_set_46 : decode cX7_set 46 = .ok (.ireturn, 1) := by decide +kernel
theorem dX7_set_47 : decode cX7_set 47 = .ok (.iload_n 2, 1) := by decide +kernel
theorem dX7_set_48 : decode cX7_set 48 = .ok (.ifCond .lt 13, 3) := by decide +kernel
theorem dX7_set_51 : decode cX7_set 51 = .ok (.iload_n 2, 1) := by decide +kernel
theorem dX7_set_52 : decode cX7_set 52 = .ok (.aload_n 0, 1) := by decide +kernel
theorem dX7_set_53 : decode cX7_set 53 = .ok (.getfield 56, 3) := by decide +kernel
theorem dX7_set_56 : decode cX7_set 56 = .ok (.iload_n 1, 1) := by decide +kernel
theorem dX7_set_57 : decode cX7_set 57 = .ok (.iaload, 1) := by decide +kernel
theorem dX7_set_58 : decode cX7_set 58 = .ok (.if_icmp .lt 10, 3) := by decide +kernel
theorem dX7_set_61 : decode cX7_set 61 = .ok (.aload_n 0, 1) := by decide +kernel
theorem dX7_set_62 : decode cX7_set 62 = .ok (.bipush (-5), 2) := by decide +kernel
theorem dX7_set_64 : decode cX7_set 64 = .ok (.invokevirtual 106, 3) := by decide +kernel
theorem dX7_set_67 : decode cX7_set 67 = .ok (.ireturn, 1) := by decide +kernel
theorem dX7_set_68 : decode cX7_set 68 = .ok (.aload_n 0, 1) := by decide +kernel
theorem dX7_set_69 : decode cX7_set 69 = .ok (.getfield 62, 3) := by decide +kernel
theorem dX7_set_72 : decode cX7_set 72 = .ok (.sipush 160, 3) := by decide +kernel
theorem dX7_set_75 : decode cX7_set 75 = .ok (.iload_n 1, 1) := by decide +kernel
theorem dX7_set_76 : decode cX7_set 76 = .ok (.imul, 1) := by decide +kernel
theorem dX7_set_77 : decode cX7_set 77 = .ok (.iload_n 2, 1) := by decide +kernel
theorem dX7_set_78 : decode cX7_set 78 = .ok (.iadd, 1) := by decide +kernel
theorem dX7_set_79 : decode cX7_set 79 = .ok (.aload_n 0, 1) := by decide +kernel
theorem dX7_set_80 : decode cX7_set 80 = .ok (.getfield 53, 3) := by decide +kernel
theorem dX7_set_83 : decode cX7_set 83 = .ok (.iload_n 1, 1) := by decide +kernel
theorem dX7_set_84 : decode cX7_set 84 = .ok (.iaload, 1) := by decide +kernel
theorem dX7_set_85 : decode cX7_set 85 = .ok (.ifCond .ne 10, 3) := by decide +kernel
theorem dX7_set_88 : decode cX7_set 88 = .ok (.lload_n 3, 1) := by decide +kernel
theorem dX7_set_89 : decode cX7_set 89 = .ok (.l2i, 1) := by decide +kernel
theorem dX7_set_90 : decode cX7_set 90 = .ok (.i2b, 1) := by decide +kernel
theorem dX7_set_91 : decode cX7_set 91 = .ok (.i2l, 1) := by decide +kernel
theorem dX7_set_92 : decode cX7_set 92 = .ok (.goto 37, 3) := by decide +kernel
theorem dX7_set_95 : decode cX7_set 95 = .ok (.aload_n 0, 1) := by decide +kernel
theorem dX7_set_96 : decode cX7_set 96 = .ok (.getfield 53, 3) := by decide +kernel
theorem dX7_set_99 : decode cX7_set 99 = .ok (.iload_n 1, 1) := by decide +kernel
theorem dX7_set_100 : decode cX7_set 100 = .ok (.iaload, 1) := by decide +kernel
theorem dX7_set_101 : decode cX7_set 101 = .ok (.iconst 1, 1) := by decide +kernel
theorem dX7_set_102 : decode cX7_set 102 = .ok (.if_icmp .ne 10, 3) := by decide +kernel
theorem dX7_set_105 : decode cX7_set 105 = .ok (.lload_n 3, 1) := by decide +kernel
theorem dX7_set_106 : decode cX7_set 106 = .ok (.l2i, 1) := by decide +kernel
theorem dX7_set_107 : decode cX7_set 107 = .ok (.i2s, 1) := by decide +kernel
theorem dX7_set_108 : decode cX7_set 108 = .ok (.i2l, 1) := by decide +kernel
theorem dX7_set_109 : decode cX7_set 109 = .ok (.goto 20, 3) := by decide +kernel
theorem dX7_set_112 : decode cX7_set 112 = .ok (.aload_n 0, 1) := by decide +kernel
theorem dX7_set_113 : decode cX7_set 113 = .ok (.getfield 53, 3) := by decide +kernel
theorem dX7_set_116 : decode cX7_set 116 = .ok (.iload_n 1, 1) := by decide +kernel
theorem dX7_set_117 : decode cX7_set 117 = .ok (.iaload, 1) := by decide +kernel
theorem dX7_set_118 : decode cX7_set 118 = .ok (.iconst 2, 1) := by decide +kernel
theorem dX7_set_119 : decode cX7_set 119 = .ok (.if_icmp .ne 9, 3) := by decide +kernel
theorem dX7_set_122 : decode cX7_set 122 = .ok (.lload_n 3, 1) := by decide +kernel
theorem dX7_set_123 : decode cX7_set 123 = .ok (.l2i, 1) := by decide +kernel
theorem dX7_set_124 : decode cX7_set 124 = .ok (.i2l, 1) := by decide +kernel
theorem dX7_set_125 : decode cX7_set 125 = .ok (.goto 4, 3) := by decide +kernel
theorem dX7_set_128 : decode cX7_set 128 = .ok (.lload_n 3, 1) := by decide +kernel
theorem dX7_set_129 : decode cX7_set 129 = .ok (.lastore, 1) := by decide +kernel
theorem dX7_set_130 : decode cX7_set 130 = .ok (.iconst 1, 1) := by decide +kernel
theorem dX7_set_131 : decode cX7_set 131 = .ok (.ireturn, 1) := by decide +kernel
abbrev k_X7_set : zK := (cX7_set, 5, RX7, (some .int), ({ frames := 1, cells := 0, slots := 0, locals := 21 } : Room))
theorem zc_X7_set : zcal yX7_set k_X7_set.1 k_X7_set.2.1 k_X7_set.2.2.2.1 3 := ⟨tw_code_yX7_set, tw_i_TollForHesitatorsModel, ⟨by decide +kernel, by decide +kernel⟩, by decide +kernel⟩
theorem zv_X7_set : Cond.instanceMethod yX7_set ∈ TS ∧ Cond.selects RX7 yX7_set yX7_set ∈ TS := ⟨tw_inst_yX7_set, tw_s_yX7_set⟩
def v_X7_set (M : mT) (x1 : Int32) (x2 : Int32) (x3 : Int64) : Int32 × mT := if (v_X7_isShelf M x1) = 0 then kk (v_X7_no M (-1)) (fun q28 : Int32 × mT => (q28.1, q28.2)) else if ((M.2.1 16) x1.toNatClampNeg) = 2 then kk (v_X7_no M (-2)) (fun q26 : Int32 × mT => (q26.1, q26.2)) else if ((M.2.1 16) x1.toNatClampNeg) = 0 then kk (v_X7_no M (-3)) (fun q24 : Int32 × mT => (q24.1, q24.2)) else if x2 < 0 then kk (v_X7_no M (-5)) (fun q8 : Int32 × mT => (q8.1, q8.2)) else if x2 < ((M.2.1 18) x1.toNatClampNeg) then kk (if ((M.2.1 17) x1.toNatClampNeg) = 0 then x3.toInt32.toInt8.toInt32.toInt64 else (if ((M.2.1 17) x1.toNatClampNeg) = 1 then x3.toInt32.toInt16.toInt32.toInt64 else (if ((M.2.1 17) x1.toNatClampNeg) = 2 then x3.toInt32.toInt64 else x3))) (fun m19 : Int64 => (1, msl M 20 (vp_updL (M.2.2 20) ((160 * x1) + x2).toNatClampNeg m19))) else kk (v_X7_no M (-5)) (fun q22 : Int32 × mT => (q22.1, q22.2))
def p_X7_set (M : mT) (x1 : Int32) (x2 : Int32) (x3 : Int64) : Prop := if (v_X7_isShelf M x1) = 0 then p_X7_no M (-1) else vp_in x1 8 ∧ (if ((M.2.1 16) x1.toNatClampNeg) = 2 then p_X7_no M (-2) else vp_in x1 8 ∧ (if ((M.2.1 16) x1.toNatClampNeg) = 0 then p_X7_no M (-3) else if x2 < 0 then p_X7_no M (-5) else vp_in x1 8 ∧ (if x2 < ((M.2.1 18) x1.toNatClampNeg) then vp_in x1 8 ∧ ((if ((M.2.1 17) x1.toNatClampNeg) = 0 then True else vp_in x1 8 ∧ (if ((M.2.1 17) x1.toNatClampNeg) = 1 then True else vp_in x1 8)) ∧ (kk (if ((M.2.1 17) x1.toNatClampNeg) = 0 then x3.toInt32.toInt8.toInt32.toInt64 else (if ((M.2.1 17) x1.toNatClampNeg) = 1 then x3.toInt32.toInt16.toInt32.toInt64 else (if ((M.2.1 17) x1.toNatClampNeg) = 2 then x3.toInt32.toInt64 else x3))) (fun m19 : Int64 => vp_in ((160 * x1) + x2) 1280))) else p_X7_no M (-5))))
set_option maxHeartbeats 4000000 in
theorem c_X7_set {l : Launch} (G : zG) (a : Nat → Nat) {X : zX} (hX : XOK X) (sz : Nat) (M : mT) (x1 : Int32) (x2 : Int32) (x3 : Int64) (hp : p_X7_set M x1 x2 x3) : Met l yX7_set (.code yX7_set k_X7_set.1 k_X7_set.2.1 k_X7_set.2.2.2.1 :: TS) k_X7_set.2.2.2.2 (Pz G [.ref (a 0), .int x1, .int x2, .long x3] (Fw G X (mW G a M) sz)) (Qwi G (fun r w => r = (v_X7_set M x1 x2 x3).1 ∧ w = mW G a (v_X7_set M x1 x2 x3).2) (va_A (mW G a M) sz)) 0 0 (va_A (mW G a M) sz) := by
  refine zmet (by decide +kernel) rfl rfl (fun Γ hl0 hQ hN hF => ?_)
  refine z_start hX hF (fun hw => ?_)
  generalize va_A (mW G a M) sz = A at hQ hw ⊢
  obtain ⟨res, hv⟩ : ∃ res, v_X7_set M x1 x2 x3 = res := ⟨_, rfl⟩
  rw [hv] at hQ
  unfold v_X7_set at hv
  unfold p_X7_set at hp
  show Z k_X7_set G Γ _ 0 0 [(0, .ref (a 0)), (1, .int x1), (2, .int x2), (3, .long x3)] 0 []
  refine z_aload_n dX7_set_0 rfl ?_
  refine z_iload_n dX7_set_1 rfl ?_
  refine z_cvi (c_X7_isShelf G a M x1 ) zc_X7_isShelf zv_X7_isShelf tw_m_RX7_102 (mrec wr_P) wr_P (zroom_of rfl) rfl (Nat.le_of_ble_eq_true rfl) dX7_set_2 ?_
  refine z_if_ne (tgt := 14) dX7_set_5 (by decide) (fun c1 => ?_) (fun c1 => ?_)
  · have hp := ip_f hp c1; have hv := it_f hv c1
    refine z_aload_n dX7_set_14 rfl ?_
    refine mg_16 wr_P rfl dX7_set_15 ?_
    refine z_iload_n dX7_set_18 rfl ?_
    obtain ⟨q2, hp⟩ := hp
    refine ml_16 (x := (M.2.1 16) x1.toNatClampNeg) wr_P q2 rfl dX7_set_19 ?_
    refine z_iconst (v := 2) dX7_set_20 rfl ?_
    refine z_icmp_ne (tgt := 31) dX7_set_21 (by decide) (fun c3 => ?_) (fun c3 => ?_)
    · have hp := ip_f hp c3; have hv := it_f hv c3
      refine z_aload_n dX7_set_31 rfl ?_
      refine mg_16 wr_P rfl dX7_set_32 ?_
      refine z_iload_n dX7_set_35 rfl ?_
      obtain ⟨q4, hp⟩ := hp
      refine ml_16 (x := (M.2.1 16) x1.toNatClampNeg) wr_P q4 rfl dX7_set_36 ?_
      refine z_if_ne (tgt := 47) dX7_set_37 (by decide) (fun c5 => ?_) (fun c5 => ?_)
      · have hp := ip_f hp c5; have hv := it_f hv c5
        refine z_iload_n dX7_set_47 rfl ?_
        refine z_if_lt (tgt := 61) dX7_set_48 (by decide) (fun c6 => ?_) (fun c6 => ?_)
        · have hp := ip_t hp c6; have hv := it_t hv c6
          refine z_aload_n dX7_set_61 rfl ?_
          refine z_bipush (v := (-5)) dX7_set_62 rfl ?_
          have q7 := hp
          refine z_caviD hw (fun sz => c_X7_no G a hw.1 sz M (-5) q7) zc_X7_no zv_X7_no tw_m_RX7_106 (mrec wr_P) (zroom_of rfl) rfl (Nat.le_of_ble_eq_true rfl) dX7_set_64 ?_
          suffices z29 : ∀ q8 : Int32 × mT, q8 = (v_X7_no M (-5)) → Z k_X7_set G Γ (wr G A Γ.2.2.1.1.heap (mW G a q8.2)) 0 0 [(0, .ref (a 0)), (1, .int x1), (2, .int x2), (3, .long x3)] 67 [.int q8.1] from z29 _ rfl
          intro q8 hq8
          have hv := kk_vq hv hq8
          clear hq8
          subst hv; exact z_iret_W hQ rfl rfl rfl ⟨rfl, rfl⟩ dX7_set_67
        · have hp := ip_f hp c6; have hv := it_f hv c6
          refine z_iload_n dX7_set_51 rfl ?_
          refine z_aload_n dX7_set_52 rfl ?_
          refine mg_18 wr_P rfl dX7_set_53 ?_
          refine z_iload_n dX7_set_56 rfl ?_
          obtain ⟨q9, hp⟩ := hp
          refine ml_18 (x := (M.2.1 18) x1.toNatClampNeg) wr_P q9 rfl dX7_set_57 ?_
          refine z_icmp_lt (tgt := 68) dX7_set_58 (by decide) (fun c10 => ?_) (fun c10 => ?_)
          · have hp := ip_t hp c10; have hv := it_t hv c10
            refine z_aload_n dX7_set_68 rfl ?_
            refine mg_20 wr_P rfl dX7_set_69 ?_
            refine z_sipush (v := 160) dX7_set_72 rfl ?_
            refine z_iload_n dX7_set_75 rfl ?_
            refine z_imul dX7_set_76 ?_
            refine z_iload_n dX7_set_77 rfl ?_
            refine z_iadd dX7_set_78 ?_
            refine z_aload_n dX7_set_79 rfl ?_
            refine mg_17 wr_P rfl dX7_set_80 ?_
            refine z_iload_n dX7_set_83 rfl ?_
            obtain ⟨q11, hp⟩ := hp
            refine ml_17 (x := (M.2.1 17) x1.toNatClampNeg) wr_P q11 rfl dX7_set_84 ?_
            obtain ⟨hpm, hp⟩ := hp
            have J30 : ∀ m19 : Int64, m19 = (if ((M.2.1 17) x1.toNatClampNeg) = 0 then x3.toInt32.toInt8.toInt32.toInt64 else (if ((M.2.1 17) x1.toNatClampNeg) = 1 then x3.toInt32.toInt16.toInt32.toInt64 else (if ((M.2.1 17) x1.toNatClampNeg) = 2 then x3.toInt32.toInt64 else x3))) → Z k_X7_set G Γ (wr G A Γ.2.2.1.1.heap (mW G a M)) 0 0 [(0, .ref (a 0)), (1, .int x1), (2, .int x2), (3, .long x3)] 129 [.long m19, .int ((160 * x1) + x2), .ref (a 20)] := by
              intro m19 em19
              have hp := kk_pq hp em19
              have hv := kk_vq hv em19
              clear em19
              have q20 := hp
              refine ms_20 (F := vp_updL (M.2.2 20) ((160 * x1) + x2).toNatClampNeg m19) q20 rfl dX7_set_129 ?_
              refine z_iconst (v := 1) dX7_set_130 rfl ?_
              subst hv; exact z_iret_W hQ rfl rfl rfl ⟨rfl, rfl⟩ dX7_set_131
            refine z_if_ne (tgt := 95) dX7_set_85 (by decide) (fun c12 => ?_) (fun c12 => ?_)
            · have hp := ip_f hpm c12
              refine z_aload_n dX7_set_95 rfl ?_
              refine mg_17 wr_P rfl dX7_set_96 ?_
              refine z_iload_n dX7_set_99 rfl ?_
              obtain ⟨q13, hp⟩ := hp
              refine ml_17 (x := (M.2.1 17) x1.toNatClampNeg) wr_P q13 rfl dX7_set_100 ?_
              refine z_iconst (v := 1) dX7_set_101 rfl ?_
              have hpm := hp
              have J31 : ∀ m18 : Int64, m18 = (if ((M.2.1 17) x1.toNatClampNeg) = 1 then x3.toInt32.toInt16.toInt32.toInt64 else (if ((M.2.1 17) x1.toNatClampNeg) = 2 then x3.toInt32.toInt64 else x3)) → Z k_X7_set G Γ (wr G A Γ.2.2.1.1.heap (mW G a M)) 0 0 [(0, .ref (a 0)), (1, .int x1), (2, .int x2), (3, .long x3)] 129 [.long m18, .int ((160 * x1) + x2), .ref (a 20)] := by
                intro m18 em18
                rewrite [em18]; clear em18
                exact z_lv rfl (J30 _ (if_neg c12).symm)
              refine z_icmp_ne (tgt := 112) dX7_set_102 (by decide) (fun c14 => ?_) (fun c14 => ?_)
              · have hp := ip_f hpm c14
                refine z_aload_n dX7_set_112 rfl ?_
                refine mg_17 wr_P rfl dX7_set_113 ?_
                refine z_iload_n dX7_set_116 rfl ?_
                have q15 := hp
                refine ml_17 (x := (M.2.1 17) x1.toNatClampNeg) wr_P q15 rfl dX7_set_117 ?_
                refine z_iconst (v := 2) dX7_set_118 rfl ?_
                have J32 : ∀ m17 : Int64, m17 = (if ((M.2.1 17) x1.toNatClampNeg) = 2 then x3.toInt32.toInt64 else x3) → Z k_X7_set G Γ (wr G A Γ.2.2.1.1.heap (mW G a M)) 0 0 [(0, .ref (a 0)), (1, .int x1), (2, .int x2), (3, .long x3)] 129 [.long m17, .int ((160 * x1) + x2), .ref (a 20)] := by
                  intro m17 em17
                  rewrite [em17]; clear em17
                  exact z_lv rfl (J31 _ (if_neg c14).symm)
                refine z_icmp_ne (tgt := 128) dX7_set_119 (by decide) (fun c16 => ?_) (fun c16 => ?_)
                · skip
                  refine z_lload_n dX7_set_128 rfl ?_
                  exact z_lv rfl (J32 _ (if_neg c16).symm)
                · skip
                  refine z_lload_n dX7_set_122 rfl ?_
                  refine z_l2i dX7_set_123 ?_
                  refine z_i2l dX7_set_124 ?_
                  refine z_goto (tgt := 129) dX7_set_125 (by decide) ?_
                  exact z_lv rfl (J32 _ (if_pos c16).symm)
              · have hp := ip_t hpm c14
                refine z_lload_n dX7_set_105 rfl ?_
                refine z_l2i dX7_set_106 ?_
                refine z_i2s dX7_set_107 ?_
                refine z_i2l dX7_set_108 ?_
                refine z_goto (tgt := 129) dX7_set_109 (by decide) ?_
                exact z_lv rfl (J31 _ (if_pos c14).symm)
            · have hp := ip_t hpm c12
              refine z_lload_n dX7_set_88 rfl ?_
              refine z_l2i dX7_set_89 ?_
              refine z_i2b dX7_set_90 ?_
              refine z_i2l dX7_set_91 ?_
              refine z_goto (tgt := 129) dX7_set_92 (by decide) ?_
              exact z_lv rfl (J30 _ (if_pos c12).symm)
          · have hp := ip_f hp c10; have hv := it_f hv c10
            refine z_aload_n dX7_set_61 rfl ?_
            refine z_bipush (v := (-5)) dX7_set_62 rfl ?_
            have q21 := hp
            refine z_caviD hw (fun sz => c_X7_no G a hw.1 sz M (-5) q21) zc_X7_no zv_X7_no tw_m_RX7_106 (mrec wr_P) (zroom_of rfl) rfl (Nat.le_of_ble_eq_true rfl) dX7_set_64 ?_
            suffices z33 : ∀ q22 : Int32 × mT, q22 = (v_X7_no M (-5)) → Z k_X7_set G Γ (wr G A Γ.2.2.1.1.heap (mW G a q22.2)) 0 0 [(0, .ref (a 0)), (1, .int x1), (2, .int x2), (3, .long x3)] 67 [.int q22.1] from z33 _ rfl
            intro q22 hq22
            have hv := kk_vq hv hq22
            clear hq22
            subst hv; exact z_iret_W hQ rfl rfl rfl ⟨rfl, rfl⟩ dX7_set_67
      · have hp := ip_t hp c5; have hv := it_t hv c5
        refine z_aload_n dX7_set_40 rfl ?_
        refine z_bipush (v := (-3)) dX7_set_41 rfl ?_
        have q23 := hp
        refine z_caviD hw (fun sz => c_X7_no G a hw.1 sz M (-3) q23) zc_X7_no zv_X7_no tw_m_RX7_106 (mrec wr_P) (zroom_of rfl) rfl (Nat.le_of_ble_eq_true rfl) dX7_set_43 ?_
        suffices z34 : ∀ q24 : Int32 × mT, q24 = (v_X7_no M (-3)) → Z k_X7_set G Γ (wr G A Γ.2.2.1.1.heap (mW G a q24.2)) 0 0 [(0, .ref (a 0)), (1, .int x1), (2, .int x2), (3, .long x3)] 46 [.int q24.1] from z34 _ rfl
        intro q24 hq24
        have hv := kk_vq hv hq24
        clear hq24
        subst hv; exact z_iret_W hQ rfl rfl rfl ⟨rfl, rfl⟩ dX7_set_46
    · have hp := ip_t hp c3; have hv := it_t hv c3
      refine z_aload_n dX7_set_24 rfl ?_
      refine z_bipush (v := (-2)) dX7_set_25 rfl ?_
      have q25 := hp
      refine z_caviD hw (fun sz => c_X7_no G a hw.1 sz M (-2) q25) zc_X7_no zv_X7_no tw_m_RX7_106 (mrec wr_P) (zroom_of rfl) rfl (Nat.le_of_ble_eq_true rfl) dX7_set_27 ?_
      suffices z35 : ∀ q26 : Int32 × mT, q26 = (v_X7_no M (-2)) → Z k_X7_set G Γ (wr G A Γ.2.2.1.1.heap (mW G a q26.2)) 0 0 [(0, .ref (a 0)), (1, .int x1), (2, .int x2), (3, .long x3)] 30 [.int q26.1] from z35 _ rfl
      intro q26 hq26
      have hv := kk_vq hv hq26
      clear hq26
      subst hv; exact z_iret_W hQ rfl rfl rfl ⟨rfl, rfl⟩ dX7_set_30
  · have hp := ip_t hp c1; have hv := it_t hv c1
    refine z_aload_n dX7_set_8 rfl ?_
    refine z_iconst (v := (-1)) dX7_set_9 rfl ?_
    have q27 := hp
    refine z_caviD hw (fun sz => c_X7_no G a hw.1 sz M (-1) q27) zc_X7_no zv_X7_no tw_m_RX7_106 (mrec wr_P) (zroom_of rfl) rfl (Nat.le_of_ble_eq_true rfl) dX7_set_10 ?_
    suffices z36 : ∀ q28 : Int32 × mT, q28 = (v_X7_no M (-1)) → Z k_X7_set G Γ (wr G A Γ.2.2.1.1.heap (mW G a q28.2)) 0 0 [(0, .ref (a 0)), (1, .int x1), (2, .int x2), (3, .long x3)] 13 [.int q28.1] from z36 _ rfl
    intro q28 hq28
    have hv := kk_vq hv hq28
    clear hq28
    subst hv; exact z_iret_W hQ rfl rfl rfl ⟨rfl, rfl⟩ dX7_set_13
theorem dX7_copy_0 : decode cX7_copy 0 = .ok (.aload_n 0, 1) := by decide +kernel
theorem dX7_copy_1 : decode cX7_copy 1 = .ok (.iload_n 1, 1) := by decide +kernel
theorem dX7_copy_2 : decode cX7_copy 2 = .ok (.invokevirtual 102, 3) := by decide +kernel
theorem dX7_copy_5 : decode cX7_copy 5 = .ok (.ifCond .eq 11, 3) := by decide +kernel
theorem dX7_copy_8 : decode cX7_copy 8 = .ok (.aload_n 0, 1) := by decide +kernel
theorem dX7_copy_9 : decode cX7_copy 9 = .ok (.iload_n 2, 1) := by decide +kernel
theorem dX7_copy_10 : decode cX7_copy 10 = .ok (.invokevirtual 102, 3) := by decide +kernel
theorem dX7_copy_13 : decode cX7_copy 13 = .ok (.ifCond .ne 9, 3) := by decide +kernel
theorem dX7_copy_16 : decode cX7_copy 16 = .ok (.aload_n 0, 1) := by decide +kernel
theorem dX7_copy_17 : decode cX7_copy 17 = .ok (.iconst (-1), 1) := by decide +kernel
theorem dX7_copy_18 : decode cX7_copy 18 = .ok (.invokevirtual 106, 3) := by decide +kernel
theorem dX7_copy_21 : decode cX7_copy 21 = .ok (.ireturn, 1) := by decide +kernel
theorem dX7_copy_22 : decode cX7_copy 22 = .ok (.aload_n 0, 1) := by decide +kernel
theorem dX7_copy_23 : decode cX7_copy 23 = .ok (.getfield 50, 3) := by decide +kernel
theorem dX7_copy_26 : decode cX7_copy 26 = .ok (.iload_n 1, 1) := by decide +kernel
theorem dX7_copy_27 : decode cX7_copy 27 = .ok (.iaload, 1) := by decide +kernel
theorem dX7_copy_28 : decode cX7_copy 28 = .ok (.iconst 2, 1) := by decide +kernel
theorem dX7_copy_29 : decode cX7_copy 29 = .ok (.if_icmp .eq 48, 3) := by decide +kernel
theorem dX7_copy_32 : decode cX7_copy 32 = .ok (.aload_n 0, 1) := by decide +kernel
theorem dX7_copy_33 : decode cX7_copy 33 = .ok (.getfield 50, 3) := by decide +kernel
theorem dX7_copy_36 : decode cX7_copy 36 = .ok (.iload_n 2, 1) := by decide +kernel
theorem dX7_copy_37 : decode cX7_copy 37 = .ok (.iaload, 1) := by decide +kernel
theorem dX7_copy_38 : decode cX7_copy 38 = .ok (.iconst 2, 1) := by decide +kernel
theorem dX7_copy_39 : decode cX7_copy 39 = .ok (.if_icmp .eq 38, 3) := by decide +kernel
theorem dX7_copy_42 : decode cX7_copy 42 = .ok (.aload_n 0, 1) := by decide +kernel
theorem dX7_copy_43 : decode cX7_copy 43 = .ok (.getfield 50, 3) := by decide +kernel
theorem dX7_copy_46 : decode cX7_copy 46 = .ok (.iload_n 1, 1) := by decide +kernel
theorem dX7_copy_47 : decode cX7_copy 47 = .ok (.iaload, 1) := by decide +kernel
theorem dX7_copy_48 : decode cX7_copy 48 = .ok (.iconst 1, 1) := by decide +kernel
theorem dX7_copy_49 : decode cX7_copy 49 = .ok (.if_icmp .ne 35, 3) := by decide +kernel
theorem dX7_copy_52 : decode cX7_copy 52 = .ok (.aload_n 0, 1) := by decide +kernel
theorem dX7_copy_53 : decode cX7_copy 53 = .ok (.getfield 50, 3) := by decide +kernel
theorem dX7_copy_56 : decode cX7_copy 56 = .ok (.iload_n 2, 1) := by decide +kernel
theorem dX7_copy_57 : decode cX7_copy 57 = .ok (.iaload, 1) := by decide +kernel
theorem dX7_copy_58 : decode cX7_copy 58 = .ok (.iconst 1, 1) := by decide +kernel
theorem dX7_copy_59 : decode cX7_copy 59 = .ok (.if_icmp .ne 25, 3) := by decide +kernel
theorem dX7_copy_62 : decode cX7_copy 62 = .ok (.aload_n 0, 1) := by decide +kernel
theorem dX7_copy_63 : decode cX7_copy 63 = .ok (.getfield 53, 3) := by decide +kernel
theorem dX7_copy_66 : decode cX7_copy 66 = .ok (.iload_n 1, 1) := by decide +kernel
theorem dX7_copy_67 : decode cX7_copy 67 = .ok (.iaload, 1) := by decide +kernel
theorem dX7_copy_68 : decode cX7_copy 68 = .ok (.aload_n 0, 1) := by decide +kernel
theorem dX7_copy_69 : decode cX7_copy 69 = .ok (.getfield 53, 3) := by decide +kernel
theorem dX7_copy_72 : decode cX7_copy 72 = .ok (.iload_n 2, 1) := by decide +kernel
theorem dX7_copy_73 : decode cX7_copy 73 = .ok (.iaload, 1) := by decide +kernel
theorem dX7_copy_74 : decode cX7_copy 74 = .ok (.if_icmp .eq 10, 3) := by decide +kernel
theorem dX7_copy_77 : decode cX7_copy 77 = .ok (.aload_n 0, 1) := by decide +kernel
theorem dX7_copy_78 : decode cX7_copy 78 = .ok (.bipush (-2), 2) := by decide +kernel
theorem dX7_copy_80 : decode cX7_copy 80 = .ok (.invokevirtual 106, 3) := by decide +kernel
theorem dX7_copy_83 : decode cX7_copy 83 = .ok (.ireturn, 1) := by decide +kernel
theorem dX7_copy_84 : decode cX7_copy 84 = .ok (.aload_n 0, 1) := by decide +kernel
theorem dX7_copy_85 : decode cX7_copy 85 = .ok (.getfield 50, 3) := by decide +kernel
theorem dX7_copy_88 : decode cX7_copy 88 = .ok (.iload_n 1, 1) := by decide +kernel
theorem dX7_copy_89 : decode cX7_copy 89 = .ok (.iaload, 1) := by decide +kernel
theorem dX7_copy_90 : decode cX7_copy 90 = .ok (.ifCond .eq 12, 3) := by decide +kernel
theorem dX7_copy_93 : decode cX7_copy 93 = .ok (.aload_n 0, 1) := by decide +kernel
theorem dX7_copy_94 : decode cX7_copy 94 = .ok (.getfield 50, 3) := by decide +kernel
theorem dX7_copy_97 : decode cX7_copy 97 = .ok (.iload_n 2, 1) := by decide +kernel
theorem dX7_copy_98 : decode cX7_copy 98 = .ok (.iaload, 1) := by decide +kernel
theorem dX7_copy_99 : decode cX7_copy 99 = .ok (.ifCond .ne 10, 3) := by decide +kernel
theorem dX7_copy_102 : decode cX7_copy 102 = .ok (.aload_n 0, 1) := by decide +kernel
theorem dX7_copy_103 : decode cX7_copy 103 = .ok (.bipush (-3), 2) := by decide +kernel
theorem dX7_copy_105 : decode cX7_copy 105 = .ok (.invokevirtual 106, 3) := by decide +kernel
theorem dX7_copy_108 : decode cX7_copy 108 = .ok (.ireturn, 1) := by decide +kernel
theorem dX7_copy_109 : decode cX7_copy 109 = .ok (.iload 5, 2) := by decide +kernel
theorem dX7_copy_111 : decode cX7_copy 111 = .ok (.ifCond .ge 10, 3) := by decide +kernel
theorem dX7_copy_114 : decode cX7_copy 114 = .ok (.aload_n 0, 1) := by decide +kernel
theorem dX7_copy_115 : decode cX7_copy 115 = .ok (.bipush (-4), 2) := by decide +kernel
theorem dX7_copy_117 : decode cX7_copy 117 = .ok (.invokevirtual 106, 3) := by decide +kernel
theorem dX7_copy_120 : decode cX7_copy 120 = .ok (.ireturn, 1) := by decide +kernel
theorem dX7_copy_121 : decode cX7_copy 121 = .ok (.iload_n 3, 1) := by decide +kernel
theorem dX7_copy_122 : decode cX7_copy 122 = .ok (.ifCond .lt 35, 3) := by decide +kernel
theorem dX7_copy_125 : decode cX7_copy 125 = .ok (.iload 4, 2) := by decide +kernel
theorem dX7_copy_127 : decode cX7_copy 127 = .ok (.ifCond .lt 30, 3) := by decide +kernel
theorem dX7_copy_130 : decode cX7_copy 130 = .ok (.iload_n 3, 1) := by decide +kernel
theorem dX7_copy_131 : decode cX7_copy 131 = .ok (.aload_n 0, 1) := by decide +kernel
theorem dX7_copy_132 : decode cX7_copy 132 = .ok (.getfield 56, 3) := by decide +kernel
theorem dX7_copy_135 : decode cX7_copy 135 = .ok (.iload_n 1, 1) := by decide +kernel
theorem dX7_copy_136 : decode cX7_copy 136 = .ok (.iaload, 1) := by decide +kernel
theorem dX7_copy_137 : decode cX7_copy 137 = .ok (.iload 5, 2) := by decide +kernel
theorem dX7_copy_139 : decode cX7_copy 139 = .ok (.isub, 1) := by decide +kernel
theorem dX7_copy_140 : decode cX7_copy 140 = .ok (.if_icmp .gt 17, 3) := by decide +kernel
theorem dX7_copy_143 : decode cX7_copy 143 = .ok (.iload 4, 2) := by decide +kernel
theorem dX7_copy_145 : decode cX7_copy 145 = .ok (.aload_n 0, 1) := by decide +kernel
theorem dX7_copy_146 : decode cX7_copy 146 = .ok (.getfield 56, 3) := by decide +kernel
theorem dX7_copy_149 : decode cX7_copy 149 = .ok (.iload_n 2, 1) := by decide +kernel
theorem dX7_copy_150 : decode cX7_copy 150 = .ok (.iaload, 1) := by decide +kernel
theorem dX7_copy_151 : decode cX7_copy 151 = .ok (.iload 5, 2) := by decide +kernel
theorem dX7_copy_153 : decode cX7_copy 153 = .ok (.isub, 1) := by decide +kernel
theorem dX7_copy_154 : decode cX7_copy 154 = .ok (.if_icmp .le 10, 3) := by decide +kernel
theorem dX7_copy_157 : decode cX7_copy 157 = .ok (.aload_n 0, 1) := by decide +kernel
theorem dX7_copy_158 : decode cX7_copy 158 = .ok (.bipush (-5), 2) := by decide +kernel
theorem dX7_copy_160 : decode cX7_copy 160 = .ok (.invokevirtual 106, 3) := by decide +kernel
theorem dX7_copy_163 : decode cX7_copy 163 = .ok (.ireturn, 1) := by decide +kernel
theorem dX7_copy_164 : decode cX7_copy 164 = .ok (.iconst 0, 1) := by decide +kernel
theorem dX7_copy_165 : decode cX7_copy 165 = .ok (.istore 6, 2) := by decide +kernel
theorem dX7_copy_167 : decode cX7_copy 167 = .ok (.iload 6, 2) := by decide +kernel
theorem dX7_copy_169 : decode cX7_copy 169 = .ok (.iload 5, 2) := by decide +kernel
theorem dX7_copy_171 : decode cX7_copy 171 = .ok (.if_icmp .ge 31, 3) := by decide +kernel
theorem dX7_copy_174 : decode cX7_copy 174 = .ok (.aload_n 0, 1) := by decide +kernel
theorem dX7_copy_175 : decode cX7_copy 175 = .ok (.getfield 66, 3) := by decide +kernel
theorem dX7_copy_178 : decode cX7_copy 178 = .ok (.iload 6, 2) := by decide +kernel
theorem dX7_copy_180 : decode cX7_copy 180 = .ok (.aload_n 0, 1) := by decide +kernel
theorem dX7_copy_181 : decode cX7_copy 181 = .ok (.getfield 62, 3) := by decide +kernel
theorem dX7_copy_184 : decode cX7_copy 184 = .ok (.sipush 160, 3) := by decide +kernel
theorem dX7_copy_187 : decode cX7_copy 187 = .ok (.iload_n 1, 1) := by decide +kernel
theorem dX7_copy_188 : decode cX7_copy 188 = .ok (.imul, 1) := by decide +kernel
theorem dX7_copy_189 : decode cX7_copy 189 = .ok (.iload_n 3, 1) := by decide +kernel
theorem dX7_copy_190 : decode cX7_copy 190 = .ok (.iadd, 1) := by decide +kernel
theorem dX7_copy_191 : decode cX7_copy 191 = .ok (.iload 6, 2) := by decide +kernel
theorem dX7_copy_193 : decode cX7_copy 193 = .ok (.iadd, 1) := by decide +kernel
theorem dX7_copy_194 : decode cX7_copy 194 = .ok (.laload, 1) := by decide +kernel
theorem dX7_copy_195 : decode cX7_copy 195 = .ok (.lastore, 1) := by decide +kernel
theorem dX7_copy_196 : decode cX7_copy 196 = .ok (.iinc 6 1, 3) := by decide +kernel
theorem dX7_copy_199 : decode cX7_copy 199 = .ok (.goto (-32), 3) := by decide +kernel
theorem dX7_copy_202 : decode cX7_copy 202 = .ok (.iconst 0, 1) := by decide +kernel
theorem dX7_copy_203 : decode cX7_copy 203 = .ok (.istore 6, 2) := by decide +kernel
theorem dX7_copy_205 : decode cX7_copy 205 = .ok (.iload 6, 2) := by decide +kernel
theorem dX7_copy_207 : decode cX7_copy 207 = .ok (.iload 5, 2) := by decide +kernel
theorem dX7_copy_209 : decode cX7_copy 209 = .ok (.if_icmp .ge 32, 3) := by decide +kernel
theorem dX7_copy_212 : decode cX7_copy 212 = .ok (.aload_n 0, 1) := by decide +kernel
theorem dX7_copy_213 : decode cX7_copy 213 = .ok (.getfield 62, 3) := by decide +kernel
theorem dX7_copy_216 : decode cX7_copy 216 = .ok (.sipush 160, 3) := by decide +kernel
theorem dX7_copy_219 : decode cX7_copy 219 = .ok (.iload_n 2, 1) := by decide +kernel
theorem dX7_copy_220 : decode cX7_copy 220 = .ok (.imul, 1) := by decide +kernel
theorem dX7_copy_221 : decode cX7_copy 221 = .ok (.iload 4, 2) := by decide +kernel
theorem dX7_copy_223 : decode cX7_copy 223 = .ok (.iadd, 1) := by decide +kernel
theorem dX7_copy_224 : decode cX7_copy 224 = .ok (.iload 6, 2) := by decide +kernel
theorem dX7_copy_226 : decode cX7_copy 226 = .ok (.iadd, 1) := by decide +kernel
theorem dX7_copy_227 : decode cX7_copy 227 = .ok (.aload_n 0, 1) := by decide +kernel
theorem dX7_copy_228 : decode cX7_copy 228 = .ok (.getfield 66, 3) := by decide +kernel
theorem dX7_copy_231 : decode cX7_copy 231 = .ok (.iload 6, 2) := by decide +kernel
theorem dX7_copy_233 : decode cX7_copy 233 = .ok (.laload, 1) := by decide +kernel
theorem dX7_copy_234 : decode cX7_copy 234 = .ok (.lastore, 1) := by decide +kernel
theorem dX7_copy_235 : decode cX7_copy 235 = .ok (.iinc 6 1, 3) := by decide +kernel
theorem dX7_copy_238 : decode cX7_copy 238 = .ok (.goto (-33), 3) := by decide +kernel
theorem dX7_copy_241 : decode cX7_copy 241 = .ok (.iconst 1, 1) := by decide +kernel
theorem dX7_copy_242 : decode cX7_copy 242 = .ok (.ireturn, 1) := by decide +kernel
abbrev k_X7_copy : zK := (cX7_copy, 7, RX7, (some .int), ({ frames := 1, cells := 0, slots := 0, locals := 21 } : Room))
theorem zc_X7_copy : zcal yX7_copy k_X7_copy.1 k_X7_copy.2.1 k_X7_copy.2.2.2.1 5 := ⟨tw_code_yX7_copy, tw_i_TollForHesitatorsModel, ⟨by decide +kernel, by decide +kernel⟩, by decide +kernel⟩
theorem zv_X7_copy : Cond.instanceMethod yX7_copy ∈ TS ∧ Cond.selects RX7 yX7_copy yX7_copy ∈ TS := ⟨tw_inst_yX7_copy, tw_s_yX7_copy⟩
def v_X7_copy_r : Nat → Nat → mT → Int32 → Int32 → Int32 → Int32 → Int32 → Int32 → Int32 × mT
  | 0, _, M, _, _, _, _, _, _ => (0, M)
  | n + 1, l, M, v1, v2, v3, v4, v5, v6 => if l = 0 then if v5 ≤ v6 then v_X7_copy_r n 1 M 0 v2 0 v4 v5 0 else v_X7_copy_r n 0 (msl M 21 (vp_updL (M.2.2 21) v6.toNatClampNeg ((M.2.2 20) (((160 * v1) + v3) + v6).toNatClampNeg))) v1 v2 v3 v4 v5 (v6 + 1) else if v5 ≤ v6 then (1, M) else v_X7_copy_r n 1 (msl M 20 (vp_updL (M.2.2 20) (((160 * v2) + v4) + v6).toNatClampNeg ((M.2.2 21) v6.toNatClampNeg))) 0 v2 0 v4 v5 (v6 + 1)
def p_X7_copy_r : Nat → Nat → mT → Int32 → Int32 → Int32 → Int32 → Int32 → Int32 → Prop
  | 0, _, _, _, _, _, _, _, _ => False
  | n + 1, l, M, v1, v2, v3, v4, v5, v6 => if l = 0 then if v5 ≤ v6 then p_X7_copy_r n 1 M 0 v2 0 v4 v5 0 else (vp_in (((160 * v1) + v3) + v6) 1280) ∧ (vp_in v6 160 ∧ (p_X7_copy_r n 0 (msl M 21 (vp_updL (M.2.2 21) v6.toNatClampNeg ((M.2.2 20) (((160 * v1) + v3) + v6).toNatClampNeg))) v1 v2 v3 v4 v5 (v6 + 1))) else if v5 ≤ v6 then True else vp_in v6 160 ∧ ((vp_in (((160 * v2) + v4) + v6) 1280) ∧ (p_X7_copy_r n 1 (msl M 20 (vp_updL (M.2.2 20) (((160 * v2) + v4) + v6).toNatClampNeg ((M.2.2 21) v6.toNatClampNeg))) 0 v2 0 v4 v5 (v6 + 1)))
set_option maxHeartbeats 4000000 in
theorem w_X7_copy {G : zG} {Γ : zT} {a : Nat → Nat} {A : Nat → Prop} {res : Int32 × mT} {X : zX} (hw : wk X A Γ.2.2.1.1.heap) (hQ : zQ Γ (Qwi G (fun r w => r = res.1 ∧ w = mW G a res.2) A) 0 0 A) : ∀ n : Nat, (∀ (M : mT) (v1 : Int32) (v2 : Int32) (v3 : Int32) (v4 : Int32) (v5 : Int32) (v6 : Int32), p_X7_copy_r n 0 M v1 v2 v3 v4 v5 v6 → v_X7_copy_r n 0 M v1 v2 v3 v4 v5 v6 = res → Z k_X7_copy G Γ (wr G A Γ.2.2.1.1.heap (mW G a M)) 0 0 [(0, .ref (a 0)), (1, .int v1), (2, .int v2), (3, .int v3), (4, .int v4), (5, .int v5), (6, .int v6)] 167 []) ∧ (∀ (M : mT) (v1 : Int32) (v2 : Int32) (v3 : Int32) (v4 : Int32) (v5 : Int32) (v6 : Int32), p_X7_copy_r n 1 M v1 v2 v3 v4 v5 v6 → v_X7_copy_r n 1 M v1 v2 v3 v4 v5 v6 = res → Z k_X7_copy G Γ (wr G A Γ.2.2.1.1.heap (mW G a M)) 0 0 [(0, .ref (a 0)), (2, .int v2), (4, .int v4), (5, .int v5), (6, .int v6)] 205 []) := by
  intro n
  induction n with
  | zero => exact ⟨fun M v1 v2 v3 v4 v5 v6 hp => absurd hp (by rw [p_X7_copy_r]; exact not_false), fun M v1 v2 v3 v4 v5 v6 hp => absurd hp (by rw [p_X7_copy_r]; exact not_false)⟩
  | succ n ih =>
    refine ⟨?_, ?_⟩
    · intro M v1 v2 v3 v4 v5 v6 hp hv
      rw [p_X7_copy_r] at hp
      rw [v_X7_copy_r] at hv
      have hp := ip_t hp rfl
      have hv := it_t hv rfl
      refine z_iload dX7_copy_167 rfl ?_
      refine z_iload dX7_copy_169 rfl ?_
      refine z_icmp_ge (tgt := 202) dX7_copy_171 (by decide) (fun c99 => ?_) (fun c99 => ?_)
      · have hp := ip_t hp c99; have hv := it_t hv c99
        refine z_iconst (v := 0) dX7_copy_202 rfl ?_
        refine z_istore (lv' := [(6, .int 0), (0, .ref (a 0)), (1, .int v1), (2, .int v2), (3, .int v3), (4, .int v4), (5, .int v5)]) dX7_copy_203 (Nat.le_of_ble_eq_true rfl) rfl ?_
        exact z_lv rfl ((ih).2 M 0 v2 0 v4 v5 0 hp hv)
      · have hp := ip_f hp c99; have hv := it_f hv c99
        refine z_aload_n dX7_copy_174 rfl ?_
        refine mg_21 wr_P rfl dX7_copy_175 ?_
        refine z_iload dX7_copy_178 rfl ?_
        refine z_aload_n dX7_copy_180 rfl ?_
        refine mg_20 wr_P rfl dX7_copy_181 ?_
        refine z_sipush (v := 160) dX7_copy_184 rfl ?_
        refine z_iload_n dX7_copy_187 rfl ?_
        refine z_imul dX7_copy_188 ?_
        refine z_iload_n dX7_copy_189 rfl ?_
        refine z_iadd dX7_copy_190 ?_
        refine z_iload dX7_copy_191 rfl ?_
        refine z_iadd dX7_copy_193 ?_
        obtain ⟨q102, hp⟩ := hp
        refine ml_20 (x := (M.2.2 20) (((160 * v1) + v3) + v6).toNatClampNeg) wr_P q102 rfl dX7_copy_194 ?_
        obtain ⟨q103, hp⟩ := hp
        refine ms_21 (F := vp_updL (M.2.2 21) v6.toNatClampNeg ((M.2.2 20) (((160 * v1) + v3) + v6).toNatClampNeg)) q103 rfl dX7_copy_195 ?_
        refine z_iinc (v := v6 + 1) (lv' := [(6, .int (v6 + 1)), (0, .ref (a 0)), (1, .int v1), (2, .int v2), (3, .int v3), (4, .int v4), (5, .int v5)]) dX7_copy_196 6 rfl rfl (Nat.le_of_ble_eq_true rfl) rfl ?_
        refine z_goto (tgt := 167) dX7_copy_199 (by decide) ?_
        exact z_lv rfl ((ih).1 (msl M 21 (vp_updL (M.2.2 21) v6.toNatClampNeg ((M.2.2 20) (((160 * v1) + v3) + v6).toNatClampNeg))) v1 v2 v3 v4 v5 (v6 + 1) hp hv)
    · intro M v1 v2 v3 v4 v5 v6 hp hv
      rw [p_X7_copy_r] at hp
      rw [v_X7_copy_r] at hv
      have hp := ip_f hp (by decide)
      have hv := it_f hv (by decide)
      refine z_iload dX7_copy_205 rfl ?_
      refine z_iload dX7_copy_207 rfl ?_
      refine z_icmp_ge (tgt := 241) dX7_copy_209 (by decide) (fun c104 => ?_) (fun c104 => ?_)
      · have hp := ip_t hp c104; have hv := it_t hv c104
        refine z_iconst (v := 1) dX7_copy_241 rfl ?_
        subst hv; exact z_iret_W hQ rfl rfl rfl ⟨rfl, rfl⟩ dX7_copy_242
      · have hp := ip_f hp c104; have hv := it_f hv c104
        refine z_aload_n dX7_copy_212 rfl ?_
        refine mg_20 wr_P rfl dX7_copy_213 ?_
        refine z_sipush (v := 160) dX7_copy_216 rfl ?_
        refine z_iload_n dX7_copy_219 rfl ?_
        refine z_imul dX7_copy_220 ?_
        refine z_iload dX7_copy_221 rfl ?_
        refine z_iadd dX7_copy_223 ?_
        refine z_iload dX7_copy_224 rfl ?_
        refine z_iadd dX7_copy_226 ?_
        refine z_aload_n dX7_copy_227 rfl ?_
        refine mg_21 wr_P rfl dX7_copy_228 ?_
        refine z_iload dX7_copy_231 rfl ?_
        obtain ⟨q107, hp⟩ := hp
        refine ml_21 (x := (M.2.2 21) v6.toNatClampNeg) wr_P q107 rfl dX7_copy_233 ?_
        obtain ⟨q108, hp⟩ := hp
        refine ms_20 (F := vp_updL (M.2.2 20) (((160 * v2) + v4) + v6).toNatClampNeg ((M.2.2 21) v6.toNatClampNeg)) q108 rfl dX7_copy_234 ?_
        refine z_iinc (v := v6 + 1) (lv' := [(6, .int (v6 + 1)), (0, .ref (a 0)), (2, .int v2), (4, .int v4), (5, .int v5)]) dX7_copy_235 4 rfl rfl (Nat.le_of_ble_eq_true rfl) rfl ?_
        refine z_goto (tgt := 205) dX7_copy_238 (by decide) ?_
        exact z_lv rfl ((ih).2 (msl M 20 (vp_updL (M.2.2 20) (((160 * v2) + v4) + v6).toNatClampNeg ((M.2.2 21) v6.toNatClampNeg))) 0 v2 0 v4 v5 (v6 + 1) hp hv)
def v_X7_copy (M : mT) (x1 : Int32) (x2 : Int32) (x3 : Int32) (x4 : Int32) (x5 : Int32) : Int32 × mT := if (v_X7_isShelf M x1) = 0 then kk (v_X7_no M (-1)) (fun q3 : Int32 × mT => (q3.1, q3.2)) else if (v_X7_isShelf M x2) = 0 then kk (v_X7_no M (-1)) (fun q98 : Int32 × mT => (q98.1, q98.2)) else if ((M.2.1 16) x1.toNatClampNeg) = 2 then kk (v_X7_no M (-2)) (fun q8 : Int32 × mT => (q8.1, q8.2)) else if ((M.2.1 16) x2.toNatClampNeg) = 2 then kk (v_X7_no M (-2)) (fun q12 : Int32 × mT => (q12.1, q12.2)) else if ((M.2.1 16) x1.toNatClampNeg) = 1 then if ((M.2.1 16) x2.toNatClampNeg) = 1 then if ((M.2.1 17) x1.toNatClampNeg) = ((M.2.1 17) x2.toNatClampNeg) then if ((M.2.1 16) x1.toNatClampNeg) = 0 then kk (v_X7_no M (-3)) (fun q73 : Int32 × mT => (q73.1, q73.2)) else if ((M.2.1 16) x2.toNatClampNeg) = 0 then kk (v_X7_no M (-3)) (fun q94 : Int32 × mT => (q94.1, q94.2)) else if 0 ≤ x5 then if x3 < 0 then kk (v_X7_no M (-5)) (fun q79 : Int32 × mT => (q79.1, q79.2)) else if x4 < 0 then kk (v_X7_no M (-5)) (fun q82 : Int32 × mT => (q82.1, q82.2)) else if (((M.2.1 18) x1.toNatClampNeg) - x5) < x3 then kk (v_X7_no M (-5)) (fun q86 : Int32 × mT => (q86.1, q86.2)) else if x4 ≤ (((M.2.1 18) x2.toNatClampNeg) - x5) then v_X7_copy_r 400 0 M x1 x2 x3 x4 x5 0 else kk (v_X7_no M (-5)) (fun q90 : Int32 × mT => (q90.1, q90.2)) else kk (v_X7_no M (-4)) (fun q92 : Int32 × mT => (q92.1, q92.2)) else kk (v_X7_no M (-2)) (fun q96 : Int32 × mT => (q96.1, q96.2)) else if ((M.2.1 16) x1.toNatClampNeg) = 0 then kk (v_X7_no M (-3)) (fun q45 : Int32 × mT => (q45.1, q45.2)) else if ((M.2.1 16) x2.toNatClampNeg) = 0 then kk (v_X7_no M (-3)) (fun q66 : Int32 × mT => (q66.1, q66.2)) else if 0 ≤ x5 then if x3 < 0 then kk (v_X7_no M (-5)) (fun q51 : Int32 × mT => (q51.1, q51.2)) else if x4 < 0 then kk (v_X7_no M (-5)) (fun q54 : Int32 × mT => (q54.1, q54.2)) else if (((M.2.1 18) x1.toNatClampNeg) - x5) < x3 then kk (v_X7_no M (-5)) (fun q58 : Int32 × mT => (q58.1, q58.2)) else if x4 ≤ (((M.2.1 18) x2.toNatClampNeg) - x5) then v_X7_copy_r 400 0 M x1 x2 x3 x4 x5 0 else kk (v_X7_no M (-5)) (fun q62 : Int32 × mT => (q62.1, q62.2)) else kk (v_X7_no M (-4)) (fun q64 : Int32 × mT => (q64.1, q64.2)) else if ((M.2.1 16) x1.toNatClampNeg) = 0 then kk (v_X7_no M (-3)) (fun q18 : Int32 × mT => (q18.1, q18.2)) else if ((M.2.1 16) x2.toNatClampNeg) = 0 then kk (v_X7_no M (-3)) (fun q39 : Int32 × mT => (q39.1, q39.2)) else if 0 ≤ x5 then if x3 < 0 then kk (v_X7_no M (-5)) (fun q24 : Int32 × mT => (q24.1, q24.2)) else if x4 < 0 then kk (v_X7_no M (-5)) (fun q27 : Int32 × mT => (q27.1, q27.2)) else if (((M.2.1 18) x1.toNatClampNeg) - x5) < x3 then kk (v_X7_no M (-5)) (fun q31 : Int32 × mT => (q31.1, q31.2)) else if x4 ≤ (((M.2.1 18) x2.toNatClampNeg) - x5) then v_X7_copy_r 400 0 M x1 x2 x3 x4 x5 0 else kk (v_X7_no M (-5)) (fun q35 : Int32 × mT => (q35.1, q35.2)) else kk (v_X7_no M (-4)) (fun q37 : Int32 × mT => (q37.1, q37.2))
def p_X7_copy (M : mT) (x1 : Int32) (x2 : Int32) (x3 : Int32) (x4 : Int32) (x5 : Int32) : Prop := if (v_X7_isShelf M x1) = 0 then p_X7_no M (-1) else if (v_X7_isShelf M x2) = 0 then p_X7_no M (-1) else vp_in x1 8 ∧ (if ((M.2.1 16) x1.toNatClampNeg) = 2 then p_X7_no M (-2) else vp_in x2 8 ∧ (if ((M.2.1 16) x2.toNatClampNeg) = 2 then p_X7_no M (-2) else vp_in x1 8 ∧ (if ((M.2.1 16) x1.toNatClampNeg) = 1 then vp_in x2 8 ∧ (if ((M.2.1 16) x2.toNatClampNeg) = 1 then vp_in x1 8 ∧ (vp_in x2 8 ∧ (if ((M.2.1 17) x1.toNatClampNeg) = ((M.2.1 17) x2.toNatClampNeg) then vp_in x1 8 ∧ (if ((M.2.1 16) x1.toNatClampNeg) = 0 then p_X7_no M (-3) else vp_in x2 8 ∧ (if ((M.2.1 16) x2.toNatClampNeg) = 0 then p_X7_no M (-3) else if 0 ≤ x5 then if x3 < 0 then p_X7_no M (-5) else if x4 < 0 then p_X7_no M (-5) else vp_in x1 8 ∧ (if (((M.2.1 18) x1.toNatClampNeg) - x5) < x3 then p_X7_no M (-5) else vp_in x2 8 ∧ (if x4 ≤ (((M.2.1 18) x2.toNatClampNeg) - x5) then p_X7_copy_r 400 0 M x1 x2 x3 x4 x5 0 else p_X7_no M (-5))) else p_X7_no M (-4))) else p_X7_no M (-2))) else vp_in x1 8 ∧ (if ((M.2.1 16) x1.toNatClampNeg) = 0 then p_X7_no M (-3) else vp_in x2 8 ∧ (if ((M.2.1 16) x2.toNatClampNeg) = 0 then p_X7_no M (-3) else if 0 ≤ x5 then if x3 < 0 then p_X7_no M (-5) else if x4 < 0 then p_X7_no M (-5) else vp_in x1 8 ∧ (if (((M.2.1 18) x1.toNatClampNeg) - x5) < x3 then p_X7_no M (-5) else vp_in x2 8 ∧ (if x4 ≤ (((M.2.1 18) x2.toNatClampNeg) - x5) then p_X7_copy_r 400 0 M x1 x2 x3 x4 x5 0 else p_X7_no M (-5))) else p_X7_no M (-4)))) else vp_in x1 8 ∧ (if ((M.2.1 16) x1.toNatClampNeg) = 0 then p_X7_no M (-3) else vp_in x2 8 ∧ (if ((M.2.1 16) x2.toNatClampNeg) = 0 then p_X7_no M (-3) else if 0 ≤ x5 then if x3 < 0 then p_X7_no M (-5) else if x4 < 0 then p_X7_no M (-5) else vp_in x1 8 ∧ (if (((M.2.1 18) x1.toNatClampNeg) - x5) < x3 then p_X7_no M (-5) else vp_in x2 8 ∧ (if x4 ≤ (((M.2.1 18) x2.toNatClampNeg) - x5) then p_X7_copy_r 400 0 M x1 x2 x3 x4 x5 0 else p_X7_no M (-5))) else p_X7_no M (-4))))))
set_option maxHeartbeats 4000000 in
theorem c_X7_copy {l : Launch} (G : zG) (a : Nat → Nat) {X : zX} (hX : XOK X) (sz : Nat) (M : mT) (x1 : Int32) (x2 : Int32) (x3 : Int32) (x4 : Int32) (x5 : Int32) (hp : p_X7_copy M x1 x2 x3 x4 x5) : Met l yX7_copy (.code yX7_copy k_X7_copy.1 k_X7_copy.2.1 k_X7_copy.2.2.2.1 :: TS) k_X7_copy.2.2.2.2 (Pz G [.ref (a 0), .int x1, .int x2, .int x3, .int x4, .int x5] (Fw G X (mW G a M) sz)) (Qwi G (fun r w => r = (v_X7_copy M x1 x2 x3 x4 x5).1 ∧ w = mW G a (v_X7_copy M x1 x2 x3 x4 x5).2) (va_A (mW G a M) sz)) 0 0 (va_A (mW G a M) sz) := by
  refine zmet (by decide +kernel) rfl rfl (fun Γ hl0 hQ hN hF => ?_)
  refine z_start hX hF (fun hw => ?_)
  generalize va_A (mW G a M) sz = A at hQ hw ⊢
  obtain ⟨res, hv⟩ : ∃ res, v_X7_copy M x1 x2 x3 x4 x5 = res := ⟨_, rfl⟩
  rw [hv] at hQ
  unfold v_X7_copy at hv
  unfold p_X7_copy at hp
  show Z k_X7_copy G Γ _ 0 0 [(0, .ref (a 0)), (1, .int x1), (2, .int x2), (3, .int x3), (4, .int x4), (5, .int x5)] 0 []
  refine z_aload_n dX7_copy_0 rfl ?_
  refine z_iload_n dX7_copy_1 rfl ?_
  refine z_cvi (c_X7_isShelf G a M x1 ) zc_X7_isShelf zv_X7_isShelf tw_m_RX7_102 (mrec wr_P) wr_P (zroom_of rfl) rfl (Nat.le_of_ble_eq_true rfl) dX7_copy_2 ?_
  refine z_if_eq (tgt := 16) dX7_copy_5 (by decide) (fun c1 => ?_) (fun c1 => ?_)
  · have hp := ip_t hp c1; have hv := it_t hv c1
    refine z_aload_n dX7_copy_16 rfl ?_
    refine z_iconst (v := (-1)) dX7_copy_17 rfl ?_
    have q2 := hp
    refine z_caviD hw (fun sz => c_X7_no G a hw.1 sz M (-1) q2) zc_X7_no zv_X7_no tw_m_RX7_106 (mrec wr_P) (zroom_of rfl) rfl (Nat.le_of_ble_eq_true rfl) dX7_copy_18 ?_
    suffices z109 : ∀ q3 : Int32 × mT, q3 = (v_X7_no M (-1)) → Z k_X7_copy G Γ (wr G A Γ.2.2.1.1.heap (mW G a q3.2)) 0 0 [(0, .ref (a 0)), (1, .int x1), (2, .int x2), (3, .int x3), (4, .int x4), (5, .int x5)] 21 [.int q3.1] from z109 _ rfl
    intro q3 hq3
    have hv := kk_vq hv hq3
    clear hq3
    subst hv; exact z_iret_W hQ rfl rfl rfl ⟨rfl, rfl⟩ dX7_copy_21
  · have hp := ip_f hp c1; have hv := it_f hv c1
    refine z_aload_n dX7_copy_8 rfl ?_
    refine z_iload_n dX7_copy_9 rfl ?_
    refine z_cvi (c_X7_isShelf G a M x2 ) zc_X7_isShelf zv_X7_isShelf tw_m_RX7_102 (mrec wr_P) wr_P (zroom_of rfl) rfl (Nat.le_of_ble_eq_true rfl) dX7_copy_10 ?_
    refine z_if_ne (tgt := 22) dX7_copy_13 (by decide) (fun c4 => ?_) (fun c4 => ?_)
    · have hp := ip_f hp c4; have hv := it_f hv c4
      refine z_aload_n dX7_copy_22 rfl ?_
      refine mg_16 wr_P rfl dX7_copy_23 ?_
      refine z_iload_n dX7_copy_26 rfl ?_
      obtain ⟨q5, hp⟩ := hp
      refine ml_16 (x := (M.2.1 16) x1.toNatClampNeg) wr_P q5 rfl dX7_copy_27 ?_
      refine z_iconst (v := 2) dX7_copy_28 rfl ?_
      refine z_icmp_eq (tgt := 77) dX7_copy_29 (by decide) (fun c6 => ?_) (fun c6 => ?_)
      · have hp := ip_t hp c6; have hv := it_t hv c6
        refine z_aload_n dX7_copy_77 rfl ?_
        refine z_bipush (v := (-2)) dX7_copy_78 rfl ?_
        have q7 := hp
        refine z_caviD hw (fun sz => c_X7_no G a hw.1 sz M (-2) q7) zc_X7_no zv_X7_no tw_m_RX7_106 (mrec wr_P) (zroom_of rfl) rfl (Nat.le_of_ble_eq_true rfl) dX7_copy_80 ?_
        suffices z110 : ∀ q8 : Int32 × mT, q8 = (v_X7_no M (-2)) → Z k_X7_copy G Γ (wr G A Γ.2.2.1.1.heap (mW G a q8.2)) 0 0 [(0, .ref (a 0)), (1, .int x1), (2, .int x2), (3, .int x3), (4, .int x4), (5, .int x5)] 83 [.int q8.1] from z110 _ rfl
        intro q8 hq8
        have hv := kk_vq hv hq8
        clear hq8
        subst hv; exact z_iret_W hQ rfl rfl rfl ⟨rfl, rfl⟩ dX7_copy_83
      · have hp := ip_f hp c6; have hv := it_f hv c6
        refine z_aload_n dX7_copy_32 rfl ?_
        refine mg_16 wr_P rfl dX7_copy_33 ?_
        refine z_iload_n dX7_copy_36 rfl ?_
        obtain ⟨q9, hp⟩ := hp
        refine ml_16 (x := (M.2.1 16) x2.toNatClampNeg) wr_P q9 rfl dX7_copy_37 ?_
        refine z_iconst (v := 2) dX7_copy_38 rfl ?_
        refine z_icmp_eq (tgt := 77) dX7_copy_39 (by decide) (fun c10 => ?_) (fun c10 => ?_)
        · have hp := ip_t hp c10; have hv := it_t hv c10
          refine z_aload_n dX7_copy_77 rfl ?_
          refine z_bipush (v := (-2)) dX7_copy_78 rfl ?_
          have q11 := hp
          refine z_caviD hw (fun sz => c_X7_no G a hw.1 sz M (-2) q11) zc_X7_no zv_X7_no tw_m_RX7_106 (mrec wr_P) (zroom_of rfl) rfl (Nat.le_of_ble_eq_true rfl) dX7_copy_80 ?_
          suffices z111 : ∀ q12 : Int32 × mT, q12 = (v_X7_no M (-2)) → Z k_X7_copy G Γ (wr G A Γ.2.2.1.1.heap (mW G a q12.2)) 0 0 [(0, .ref (a 0)), (1, .int x1), (2, .int x2), (3, .int x3), (4, .int x4), (5, .int x5)] 83 [.int q12.1] from z111 _ rfl
          intro q12 hq12
          have hv := kk_vq hv hq12
          clear hq12
          subst hv; exact z_iret_W hQ rfl rfl rfl ⟨rfl, rfl⟩ dX7_copy_83
        · have hp := ip_f hp c10; have hv := it_f hv c10
          refine z_aload_n dX7_copy_42 rfl ?_
          refine mg_16 wr_P rfl dX7_copy_43 ?_
          refine z_iload_n dX7_copy_46 rfl ?_
          obtain ⟨q13, hp⟩ := hp
          refine ml_16 (x := (M.2.1 16) x1.toNatClampNeg) wr_P q13 rfl dX7_copy_47 ?_
          refine z_iconst (v := 1) dX7_copy_48 rfl ?_
          refine z_icmp_ne (tgt := 84) dX7_copy_49 (by decide) (fun c14 => ?_) (fun c14 => ?_)
          · have hp := ip_f hp c14; have hv := it_f hv c14
            refine z_aload_n dX7_copy_84 rfl ?_
            refine mg_16 wr_P rfl dX7_copy_85 ?_
            refine z_iload_n dX7_copy_88 rfl ?_
            obtain ⟨q15, hp⟩ := hp
            refine ml_16 (x := (M.2.1 16) x1.toNatClampNeg) wr_P q15 rfl dX7_copy_89 ?_
            refine z_if_eq (tgt := 102) dX7_copy_90 (by decide) (fun c16 => ?_) (fun c16 => ?_)
            · have hp := ip_t hp c16; have hv := it_t hv c16
              refine z_aload_n dX7_copy_102 rfl ?_
              refine z_bipush (v := (-3)) dX7_copy_103 rfl ?_
              have q17 := hp
              refine z_caviD hw (fun sz => c_X7_no G a hw.1 sz M (-3) q17) zc_X7_no zv_X7_no tw_m_RX7_106 (mrec wr_P) (zroom_of rfl) rfl (Nat.le_of_ble_eq_true rfl) dX7_copy_105 ?_
              suffices z112 : ∀ q18 : Int32 × mT, q18 = (v_X7_no M (-3)) → Z k_X7_copy G Γ (wr G A Γ.2.2.1.1.heap (mW G a q18.2)) 0 0 [(0, .ref (a 0)), (1, .int x1), (2, .int x2), (3, .int x3), (4, .int x4), (5, .int x5)] 108 [.int q18.1] from z112 _ rfl
              intro q18 hq18
              have hv := kk_vq hv hq18
              clear hq18
              subst hv; exact z_iret_W hQ rfl rfl rfl ⟨rfl, rfl⟩ dX7_copy_108
            · have hp := ip_f hp c16; have hv := it_f hv c16
              refine z_aload_n dX7_copy_93 rfl ?_
              refine mg_16 wr_P rfl dX7_copy_94 ?_
              refine z_iload_n dX7_copy_97 rfl ?_
              obtain ⟨q19, hp⟩ := hp
              refine ml_16 (x := (M.2.1 16) x2.toNatClampNeg) wr_P q19 rfl dX7_copy_98 ?_
              refine z_if_ne (tgt := 109) dX7_copy_99 (by decide) (fun c20 => ?_) (fun c20 => ?_)
              · have hp := ip_f hp c20; have hv := it_f hv c20
                refine z_iload dX7_copy_109 rfl ?_
                refine z_if_ge (tgt := 121) dX7_copy_111 (by decide) (fun c21 => ?_) (fun c21 => ?_)
                · have hp := ip_t hp c21; have hv := it_t hv c21
                  refine z_iload_n dX7_copy_121 rfl ?_
                  refine z_if_lt (tgt := 157) dX7_copy_122 (by decide) (fun c22 => ?_) (fun c22 => ?_)
                  · have hp := ip_t hp c22; have hv := it_t hv c22
                    refine z_aload_n dX7_copy_157 rfl ?_
                    refine z_bipush (v := (-5)) dX7_copy_158 rfl ?_
                    have q23 := hp
                    refine z_caviD hw (fun sz => c_X7_no G a hw.1 sz M (-5) q23) zc_X7_no zv_X7_no tw_m_RX7_106 (mrec wr_P) (zroom_of rfl) rfl (Nat.le_of_ble_eq_true rfl) dX7_copy_160 ?_
                    suffices z113 : ∀ q24 : Int32 × mT, q24 = (v_X7_no M (-5)) → Z k_X7_copy G Γ (wr G A Γ.2.2.1.1.heap (mW G a q24.2)) 0 0 [(0, .ref (a 0)), (1, .int x1), (2, .int x2), (3, .int x3), (4, .int x4), (5, .int x5)] 163 [.int q24.1] from z113 _ rfl
                    intro q24 hq24
                    have hv := kk_vq hv hq24
                    clear hq24
                    subst hv; exact z_iret_W hQ rfl rfl rfl ⟨rfl, rfl⟩ dX7_copy_163
                  · have hp := ip_f hp c22; have hv := it_f hv c22
                    refine z_iload dX7_copy_125 rfl ?_
                    refine z_if_lt (tgt := 157) dX7_copy_127 (by decide) (fun c25 => ?_) (fun c25 => ?_)
                    · have hp := ip_t hp c25; have hv := it_t hv c25
                      refine z_aload_n dX7_copy_157 rfl ?_
                      refine z_bipush (v := (-5)) dX7_copy_158 rfl ?_
                      have q26 := hp
                      refine z_caviD hw (fun sz => c_X7_no G a hw.1 sz M (-5) q26) zc_X7_no zv_X7_no tw_m_RX7_106 (mrec wr_P) (zroom_of rfl) rfl (Nat.le_of_ble_eq_true rfl) dX7_copy_160 ?_
                      suffices z114 : ∀ q27 : Int32 × mT, q27 = (v_X7_no M (-5)) → Z k_X7_copy G Γ (wr G A Γ.2.2.1.1.heap (mW G a q27.2)) 0 0 [(0, .ref (a 0)), (1, .int x1), (2, .int x2), (3, .int x3), (4, .int x4), (5, .int x5)] 163 [.int q27.1] from z114 _ rfl
                      intro q27 hq27
                      have hv := kk_vq hv hq27
                      clear hq27
                      subst hv; exact z_iret_W hQ rfl rfl rfl ⟨rfl, rfl⟩ dX7_copy_163
                    · have hp := ip_f hp c25; have hv := it_f hv c25
                      refine z_iload_n dX7_copy_130 rfl ?_
                      refine z_aload_n dX7_copy_131 rfl ?_
                      refine mg_18 wr_P rfl dX7_copy_132 ?_
                      refine z_iload_n dX7_copy_135 rfl ?_
                      obtain ⟨q28, hp⟩ := hp
                      refine ml_18 (x := (M.2.1 18) x1.toNatClampNeg) wr_P q28 rfl dX7_copy_136 ?_
                      refine z_iload dX7_copy_137 rfl ?_
                      refine z_isub dX7_copy_139 ?_
                      refine z_icmp_gt (tgt := 157) dX7_copy_140 (by decide) (fun c29 => ?_) (fun c29 => ?_)
                      · have hp := ip_t hp c29; have hv := it_t hv c29
                        refine z_aload_n dX7_copy_157 rfl ?_
                        refine z_bipush (v := (-5)) dX7_copy_158 rfl ?_
                        have q30 := hp
                        refine z_caviD hw (fun sz => c_X7_no G a hw.1 sz M (-5) q30) zc_X7_no zv_X7_no tw_m_RX7_106 (mrec wr_P) (zroom_of rfl) rfl (Nat.le_of_ble_eq_true rfl) dX7_copy_160 ?_
                        suffices z115 : ∀ q31 : Int32 × mT, q31 = (v_X7_no M (-5)) → Z k_X7_copy G Γ (wr G A Γ.2.2.1.1.heap (mW G a q31.2)) 0 0 [(0, .ref (a 0)), (1, .int x1), (2, .int x2), (3, .int x3), (4, .int x4), (5, .int x5)] 163 [.int q31.1] from z115 _ rfl
                        intro q31 hq31
                        have hv := kk_vq hv hq31
                        clear hq31
                        subst hv; exact z_iret_W hQ rfl rfl rfl ⟨rfl, rfl⟩ dX7_copy_163
                      · have hp := ip_f hp c29; have hv := it_f hv c29
                        refine z_iload dX7_copy_143 rfl ?_
                        refine z_aload_n dX7_copy_145 rfl ?_
                        refine mg_18 wr_P rfl dX7_copy_146 ?_
                        refine z_iload_n dX7_copy_149 rfl ?_
                        obtain ⟨q32, hp⟩ := hp
                        refine ml_18 (x := (M.2.1 18) x2.toNatClampNeg) wr_P q32 rfl dX7_copy_150 ?_
                        refine z_iload dX7_copy_151 rfl ?_
                        refine z_isub dX7_copy_153 ?_
                        refine z_icmp_le (tgt := 164) dX7_copy_154 (by decide) (fun c33 => ?_) (fun c33 => ?_)
                        · have hp := ip_t hp c33; have hv := it_t hv c33
                          refine z_iconst (v := 0) dX7_copy_164 rfl ?_
                          refine z_istore (lv' := [(6, .int 0), (0, .ref (a 0)), (1, .int x1), (2, .int x2), (3, .int x3), (4, .int x4), (5, .int x5)]) dX7_copy_165 (Nat.le_of_ble_eq_true rfl) rfl ?_
                          exact z_lv rfl ((w_X7_copy hw hQ 400).1 M x1 x2 x3 x4 x5 0 hp hv)
                        · have hp := ip_f hp c33; have hv := it_f hv c33
                          refine z_aload_n dX7_copy_157 rfl ?_
                          refine z_bipush (v := (-5)) dX7_copy_158 rfl ?_
                          have q34 := hp
                          refine z_caviD hw (fun sz => c_X7_no G a hw.1 sz M (-5) q34) zc_X7_no zv_X7_no tw_m_RX7_106 (mrec wr_P) (zroom_of rfl) rfl (Nat.le_of_ble_eq_true rfl) dX7_copy_160 ?_
                          suffices z116 : ∀ q35 : Int32 × mT, q35 = (v_X7_no M (-5)) → Z k_X7_copy G Γ (wr G A Γ.2.2.1.1.heap (mW G a q35.2)) 0 0 [(0, .ref (a 0)), (1, .int x1), (2, .int x2), (3, .int x3), (4, .int x4), (5, .int x5)] 163 [.int q35.1] from z116 _ rfl
                          intro q35 hq35
                          have hv := kk_vq hv hq35
                          clear hq35
                          subst hv; exact z_iret_W hQ rfl rfl rfl ⟨rfl, rfl⟩ dX7_copy_163
                · have hp := ip_f hp c21; have hv := it_f hv c21
                  refine z_aload_n dX7_copy_114 rfl ?_
                  refine z_bipush (v := (-4)) dX7_copy_115 rfl ?_
                  have q36 := hp
                  refine z_caviD hw (fun sz => c_X7_no G a hw.1 sz M (-4) q36) zc_X7_no zv_X7_no tw_m_RX7_106 (mrec wr_P) (zroom_of rfl) rfl (Nat.le_of_ble_eq_true rfl) dX7_copy_117 ?_
                  suffices z117 : ∀ q37 : Int32 × mT, q37 = (v_X7_no M (-4)) → Z k_X7_copy G Γ (wr G A Γ.2.2.1.1.heap (mW G a q37.2)) 0 0 [(0, .ref (a 0)), (1, .int x1), (2, .int x2), (3, .int x3), (4, .int x4), (5, .int x5)] 120 [.int q37.1] from z117 _ rfl
                  intro q37 hq37
                  have hv := kk_vq hv hq37
                  clear hq37
                  subst hv; exact z_iret_W hQ rfl rfl rfl ⟨rfl, rfl⟩ dX7_copy_120
              · have hp := ip_t hp c20; have hv := it_t hv c20
                refine z_aload_n dX7_copy_102 rfl ?_
                refine z_bipush (v := (-3)) dX7_copy_103 rfl ?_
                have q38 := hp
                refine z_caviD hw (fun sz => c_X7_no G a hw.1 sz M (-3) q38) zc_X7_no zv_X7_no tw_m_RX7_106 (mrec wr_P) (zroom_of rfl) rfl (Nat.le_of_ble_eq_true rfl) dX7_copy_105 ?_
                suffices z118 : ∀ q39 : Int32 × mT, q39 = (v_X7_no M (-3)) → Z k_X7_copy G Γ (wr G A Γ.2.2.1.1.heap (mW G a q39.2)) 0 0 [(0, .ref (a 0)), (1, .int x1), (2, .int x2), (3, .int x3), (4, .int x4), (5, .int x5)] 108 [.int q39.1] from z118 _ rfl
                intro q39 hq39
                have hv := kk_vq hv hq39
                clear hq39
                subst hv; exact z_iret_W hQ rfl rfl rfl ⟨rfl, rfl⟩ dX7_copy_108
          · have hp := ip_t hp c14; have hv := it_t hv c14
            refine z_aload_n dX7_copy_52 rfl ?_
            refine mg_16 wr_P rfl dX7_copy_53 ?_
            refine z_iload_n dX7_copy_56 rfl ?_
            obtain ⟨q40, hp⟩ := hp
            refine ml_16 (x := (M.2.1 16) x2.toNatClampNeg) wr_P q40 rfl dX7_copy_57 ?_
            refine z_iconst (v := 1) dX7_copy_58 rfl ?_
            refine z_icmp_ne (tgt := 84) dX7_copy_59 (by decide) (fun c41 => ?_) (fun c41 => ?_)
            · have hp := ip_f hp c41; have hv := it_f hv c41
              refine z_aload_n dX7_copy_84 rfl ?_
              refine mg_16 wr_P rfl dX7_copy_85 ?_
              refine z_iload_n dX7_copy_88 rfl ?_
              obtain ⟨q42, hp⟩ := hp
              refine ml_16 (x := (M.2.1 16) x1.toNatClampNeg) wr_P q42 rfl dX7_copy_89 ?_
              refine z_if_eq (tgt := 102) dX7_copy_90 (by decide) (fun c43 => ?_) (fun c43 => ?_)
              · have hp := ip_t hp c43; have hv := it_t hv c43
                refine z_aload_n dX7_copy_102 rfl ?_
                refine z_bipush (v := (-3)) dX7_copy_103 rfl ?_
                have q44 := hp
                refine z_caviD hw (fun sz => c_X7_no G a hw.1 sz M (-3) q44) zc_X7_no zv_X7_no tw_m_RX7_106 (mrec wr_P) (zroom_of rfl) rfl (Nat.le_of_ble_eq_true rfl) dX7_copy_105 ?_
                suffices z119 : ∀ q45 : Int32 × mT, q45 = (v_X7_no M (-3)) → Z k_X7_copy G Γ (wr G A Γ.2.2.1.1.heap (mW G a q45.2)) 0 0 [(0, .ref (a 0)), (1, .int x1), (2, .int x2), (3, .int x3), (4, .int x4), (5, .int x5)] 108 [.int q45.1] from z119 _ rfl
                intro q45 hq45
                have hv := kk_vq hv hq45
                clear hq45
                subst hv; exact z_iret_W hQ rfl rfl rfl ⟨rfl, rfl⟩ dX7_copy_108
              · have hp := ip_f hp c43; have hv := it_f hv c43
                refine z_aload_n dX7_copy_93 rfl ?_
                refine mg_16 wr_P rfl dX7_copy_94 ?_
                refine z_iload_n dX7_copy_97 rfl ?_
                obtain ⟨q46, hp⟩ := hp
                refine ml_16 (x := (M.2.1 16) x2.toNatClampNeg) wr_P q46 rfl dX7_copy_98 ?_
                refine z_if_ne (tgt := 109) dX7_copy_99 (by decide) (fun c47 => ?_) (fun c47 => ?_)
                · have hp := ip_f hp c47; have hv := it_f hv c47
                  refine z_iload dX7_copy_109 rfl ?_
                  refine z_if_ge (tgt := 121) dX7_copy_111 (by decide) (fun c48 => ?_) (fun c48 => ?_)
                  · have hp := ip_t hp c48; have hv := it_t hv c48
                    refine z_iload_n dX7_copy_121 rfl ?_
                    refine z_if_lt (tgt := 157) dX7_copy_122 (by decide) (fun c49 => ?_) (fun c49 => ?_)
                    · have hp := ip_t hp c49; have hv := it_t hv c49
                      refine z_aload_n dX7_copy_157 rfl ?_
                      refine z_bipush (v := (-5)) dX7_copy_158 rfl ?_
                      have q50 := hp
                      refine z_caviD hw (fun sz => c_X7_no G a hw.1 sz M (-5) q50) zc_X7_no zv_X7_no tw_m_RX7_106 (mrec wr_P) (zroom_of rfl) rfl (Nat.le_of_ble_eq_true rfl) dX7_copy_160 ?_
                      suffices z120 : ∀ q51 : Int32 × mT, q51 = (v_X7_no M (-5)) → Z k_X7_copy G Γ (wr G A Γ.2.2.1.1.heap (mW G a q51.2)) 0 0 [(0, .ref (a 0)), (1, .int x1), (2, .int x2), (3, .int x3), (4, .int x4), (5, .int x5)] 163 [.int q51.1] from z120 _ rfl
                      intro q51 hq51
                      have hv := kk_vq hv hq51
                      clear hq51
                      subst hv; exact z_iret_W hQ rfl rfl rfl ⟨rfl, rfl⟩ dX7_copy_163
                    · have hp := ip_f hp c49; have hv := it_f hv c49
                      refine z_iload dX7_copy_125 rfl ?_
                      refine z_if_lt (tgt := 157) dX7_copy_127 (by decide) (fun c52 => ?_) (fun c52 => ?_)
                      · have hp := ip_t hp c52; have hv := it_t hv c52
                        refine z_aload_n dX7_copy_157 rfl ?_
                        refine z_bipush (v := (-5)) dX7_copy_158 rfl ?_
                        have q53 := hp
                        refine z_caviD hw (fun sz => c_X7_no G a hw.1 sz M (-5) q53) zc_X7_no zv_X7_no tw_m_RX7_106 (mrec wr_P) (zroom_of rfl) rfl (Nat.le_of_ble_eq_true rfl) dX7_copy_160 ?_
                        suffices z121 : ∀ q54 : Int32 × mT, q54 = (v_X7_no M (-5)) → Z k_X7_copy G Γ (wr G A Γ.2.2.1.1.heap (mW G a q54.2)) 0 0 [(0, .ref (a 0)), (1, .int x1), (2, .int x2), (3, .int x3), (4, .int x4), (5, .int x5)] 163 [.int q54.1] from z121 _ rfl
                        intro q54 hq54
                        have hv := kk_vq hv hq54
                        clear hq54
                        subst hv; exact z_iret_W hQ rfl rfl rfl ⟨rfl, rfl⟩ dX7_copy_163
                      · have hp := ip_f hp c52; have hv := it_f hv c52
                        refine z_iload_n dX7_copy_130 rfl ?_
                        refine z_aload_n dX7_copy_131 rfl ?_
                        refine mg_18 wr_P rfl dX7_copy_132 ?_
                        refine z_iload_n dX7_copy_135 rfl ?_
                        obtain ⟨q55, hp⟩ := hp
                        refine ml_18 (x := (M.2.1 18) x1.toNatClampNeg) wr_P q55 rfl dX7_copy_136 ?_
                        refine z_iload dX7_copy_137 rfl ?_
                        refine z_isub dX7_copy_139 ?_
                        refine z_icmp_gt (tgt := 157) dX7_copy_140 (by decide) (fun c56 => ?_) (fun c56 => ?_)
                        · have hp := ip_t hp c56; have hv := it_t hv c56
                          refine z_aload_n dX7_copy_157 rfl ?_
                          refine z_bipush (v := (-5)) dX7_copy_158 rfl ?_
                          have q57 := hp
                          refine z_caviD hw (fun sz => c_X7_no G a hw.1 sz M (-5) q57) zc_X7_no zv_X7_no tw_m_RX7_106 (mrec wr_P) (zroom_of rfl) rfl (Nat.le_of_ble_eq_true rfl) dX7_copy_160 ?_
                          suffices z122 : ∀ q58 : Int32 × mT, q58 = (v_X7_no M (-5)) → Z k_X7_copy G Γ (wr G A Γ.2.2.1.1.heap (mW G a q58.2)) 0 0 [(0, .ref (a 0)), (1, .int x1), (2, .int x2), (3, .int x3), (4, .int x4), (5, .int x5)] 163 [.int q58.1] from z122 _ rfl
                          intro q58 hq58
                          have hv := kk_vq hv hq58
                          clear hq58
                          subst hv; exact z_iret_W hQ rfl rfl rfl ⟨rfl, rfl⟩ dX7_copy_163
                        · have hp := ip_f hp c56; have hv := it_f hv c56
                          refine z_iload dX7_copy_143 rfl ?_
                          refine z_aload_n dX7_copy_145 rfl ?_
                          refine mg_18 wr_P rfl dX7_copy_146 ?_
                          refine z_iload_n dX7_copy_149 rfl ?_
                          obtain ⟨q59, hp⟩ := hp
                          refine ml_18 (x := (M.2.1 18) x2.toNatClampNeg) wr_P q59 rfl dX7_copy_150 ?_
                          refine z_iload dX7_copy_151 rfl ?_
                          refine z_isub dX7_copy_153 ?_
                          refine z_icmp_le (tgt := 164) dX7_copy_154 (by decide) (fun c60 => ?_) (fun c60 => ?_)
                          · have hp := ip_t hp c60; have hv := it_t hv c60
                            refine z_iconst (v := 0) dX7_copy_164 rfl ?_
                            refine z_istore (lv' := [(6, .int 0), (0, .ref (a 0)), (1, .int x1), (2, .int x2), (3, .int x3), (4, .int x4), (5, .int x5)]) dX7_copy_165 (Nat.le_of_ble_eq_true rfl) rfl ?_
                            exact z_lv rfl ((w_X7_copy hw hQ 400).1 M x1 x2 x3 x4 x5 0 hp hv)
                          · have hp := ip_f hp c60; have hv := it_f hv c60
                            refine z_aload_n dX7_copy_157 rfl ?_
                            refine z_bipush (v := (-5)) dX7_copy_158 rfl ?_
                            have q61 := hp
                            refine z_caviD hw (fun sz => c_X7_no G a hw.1 sz M (-5) q61) zc_X7_no zv_X7_no tw_m_RX7_106 (mrec wr_P) (zroom_of rfl) rfl (Nat.le_of_ble_eq_true rfl) dX7_copy_160 ?_
                            suffices z123 : ∀ q62 : Int32 × mT, q62 = (v_X7_no M (-5)) → Z k_X7_copy G Γ (wr G A Γ.2.2.1.1.heap (mW G a q62.2)) 0 0 [(0, .ref (a 0)), (1, .int x1), (2, .int x2), (3, .int x3), (4, .int x4), (5, .int x5)] 163 [.int q62.1] from z123 _ rfl
                            intro q62 hq62
                            have hv := kk_vq hv hq62
                            clear hq62
                            subst hv; exact z_iret_W hQ rfl rfl rfl ⟨rfl, rfl⟩ dX7_copy_163
                  · have hp := ip_f hp c48; have hv := it_f hv c48
                    refine z_aload_n dX7_copy_114 rfl ?_
                    refine z_bipush (v := (-4)) dX7_copy_115 rfl ?_
                    have q63 := hp
                    refine z_caviD hw (fun sz => c_X7_no G a hw.1 sz M (-4) q63) zc_X7_no zv_X7_no tw_m_RX7_106 (mrec wr_P) (zroom_of rfl) rfl (Nat.le_of_ble_eq_true rfl) dX7_copy_117 ?_
                    suffices z124 : ∀ q64 : Int32 × mT, q64 = (v_X7_no M (-4)) → Z k_X7_copy G Γ (wr G A Γ.2.2.1.1.heap (mW G a q64.2)) 0 0 [(0, .ref (a 0)), (1, .int x1), (2, .int x2), (3, .int x3), (4, .int x4), (5, .int x5)] 120 [.int q64.1] from z124 _ rfl
                    intro q64 hq64
                    have hv := kk_vq hv hq64
                    clear hq64
                    subst hv; exact z_iret_W hQ rfl rfl rfl ⟨rfl, rfl⟩ dX7_copy_120
                · have hp := ip_t hp c47; have hv := it_t hv c47
                  refine z_aload_n dX7_copy_102 rfl ?_
                  refine z_bipush (v := (-3)) dX7_copy_103 rfl ?_
                  have q65 := hp
                  refine z_caviD hw (fun sz => c_X7_no G a hw.1 sz M (-3) q65) zc_X7_no zv_X7_no tw_m_RX7_106 (mrec wr_P) (zroom_of rfl) rfl (Nat.le_of_ble_eq_true rfl) dX7_copy_105 ?_
                  suffices z125 : ∀ q66 : Int32 × mT, q66 = (v_X7_no M (-3)) → Z k_X7_copy G Γ (wr G A Γ.2.2.1.1.heap (mW G a q66.2)) 0 0 [(0, .ref (a 0)), (1, .int x1), (2, .int x2), (3, .int x3), (4, .int x4), (5, .int x5)] 108 [.int q66.1] from z125 _ rfl
                  intro q66 hq66
                  have hv := kk_vq hv hq66
                  clear hq66
                  subst hv; exact z_iret_W hQ rfl rfl rfl ⟨rfl, rfl⟩ dX7_copy_108
            · have hp := ip_t hp c41; have hv := it_t hv c41
              refine z_aload_n dX7_copy_62 rfl ?_
              refine mg_17 wr_P rfl dX7_copy_63 ?_
              refine z_iload_n dX7_copy_66 rfl ?_
              obtain ⟨q67, hp⟩ := hp
              refine ml_17 (x := (M.2.1 17) x1.toNatClampNeg) wr_P q67 rfl dX7_copy_67 ?_
              refine z_aload_n dX7_copy_68 rfl ?_
              refine mg_17 wr_P rfl dX7_copy_69 ?_
              refine z_iload_n dX7_copy_72 rfl ?_
              obtain ⟨q68, hp⟩ := hp
              refine ml_17 (x := (M.2.1 17) x2.toNatClampNeg) wr_P q68 rfl dX7_copy_73 ?_
              refine z_icmp_eq (tgt := 84) dX7_copy_74 (by decide) (fun c69 => ?_) (fun c69 => ?_)
              · have hp := ip_t hp c69; have hv := it_t hv c69
                refine z_aload_n dX7_copy_84 rfl ?_
                refine mg_16 wr_P rfl dX7_copy_85 ?_
                refine z_iload_n dX7_copy_88 rfl ?_
                obtain ⟨q70, hp⟩ := hp
                refine ml_16 (x := (M.2.1 16) x1.toNatClampNeg) wr_P q70 rfl dX7_copy_89 ?_
                refine z_if_eq (tgt := 102) dX7_copy_90 (by decide) (fun c71 => ?_) (fun c71 => ?_)
                · have hp := ip_t hp c71; have hv := it_t hv c71
                  refine z_aload_n dX7_copy_102 rfl ?_
                  refine z_bipush (v := (-3)) dX7_copy_103 rfl ?_
                  have q72 := hp
                  refine z_caviD hw (fun sz => c_X7_no G a hw.1 sz M (-3) q72) zc_X7_no zv_X7_no tw_m_RX7_106 (mrec wr_P) (zroom_of rfl) rfl (Nat.le_of_ble_eq_true rfl) dX7_copy_105 ?_
                  suffices z126 : ∀ q73 : Int32 × mT, q73 = (v_X7_no M (-3)) → Z k_X7_copy G Γ (wr G A Γ.2.2.1.1.heap (mW G a q73.2)) 0 0 [(0, .ref (a 0)), (1, .int x1), (2, .int x2), (3, .int x3), (4, .int x4), (5, .int x5)] 108 [.int q73.1] from z126 _ rfl
                  intro q73 hq73
                  have hv := kk_vq hv hq73
                  clear hq73
                  subst hv; exact z_iret_W hQ rfl rfl rfl ⟨rfl, rfl⟩ dX7_copy_108
                · have hp := ip_f hp c71; have hv := it_f hv c71
                  refine z_aload_n dX7_copy_93 rfl ?_
                  refine mg_16 wr_P rfl dX7_copy_94 ?_
                  refine z_iload_n dX7_copy_97 rfl ?_
                  obtain ⟨q74, hp⟩ := hp
                  refine ml_16 (x := (M.2.1 16) x2.toNatClampNeg) wr_P q74 rfl dX7_copy_98 ?_
                  refine z_if_ne (tgt := 109) dX7_copy_99 (by decide) (fun c75 => ?_) (fun c75 => ?_)
                  · have hp := ip_f hp c75; have hv := it_f hv c75
                    refine z_iload dX7_copy_109 rfl ?_
                    refine z_if_ge (tgt := 121) dX7_copy_111 (by decide) (fun c76 => ?_) (fun c76 => ?_)
                    · have hp := ip_t hp c76; have hv := it_t hv c76
                      refine z_iload_n dX7_copy_121 rfl ?_
                      refine z_if_lt (tgt := 157) dX7_copy_122 (by decide) (fun c77 => ?_) (fun c77 => ?_)
                      · have hp := ip_t hp c77; have hv := it_t hv c77
                        refine z_aload_n dX7_copy_157 rfl ?_
                        refine z_bipush (v := (-5)) dX7_copy_158 rfl ?_
                        have q78 := hp
                        refine z_caviD hw (fun sz => c_X7_no G a hw.1 sz M (-5) q78) zc_X7_no zv_X7_no tw_m_RX7_106 (mrec wr_P) (zroom_of rfl) rfl (Nat.le_of_ble_eq_true rfl) dX7_copy_160 ?_
                        suffices z127 : ∀ q79 : Int32 × mT, q79 = (v_X7_no M (-5)) → Z k_X7_copy G Γ (wr G A Γ.2.2.1.1.heap (mW G a q79.2)) 0 0 [(0, .ref (a 0)), (1, .int x1), (2, .int x2), (3, .int x3), (4, .int x4), (5, .int x5)] 163 [.int q79.1] from z127 _ rfl
                        intro q79 hq79
                        have hv := kk_vq hv hq79
                        clear hq79
                        subst hv; exact z_iret_W hQ rfl rfl rfl ⟨rfl, rfl⟩ dX7_copy_163
                      · have hp := ip_f hp c77; have hv := it_f hv c77
                        refine z_iload dX7_copy_125 rfl ?_
                        refine z_if_lt (tgt := 157) dX7_copy_127 (by decide) (fun c80 => ?_) (fun c80 => ?_)
                        · have hp := ip_t hp c80; have hv := it_t hv c80
                          refine z_aload_n dX7_copy_157 rfl ?_
                          refine z_bipush (v := (-5)) dX7_copy_158 rfl ?_
                          have q81 := hp
                          refine z_caviD hw (fun sz => c_X7_no G a hw.1 sz M (-5) q81) zc_X7_no zv_X7_no tw_m_RX7_106 (mrec wr_P) (zroom_of rfl) rfl (Nat.le_of_ble_eq_true rfl) dX7_copy_160 ?_
                          suffices z128 : ∀ q82 : Int32 × mT, q82 = (v_X7_no M (-5)) → Z k_X7_copy G Γ (wr G A Γ.2.2.1.1.heap (mW G a q82.2)) 0 0 [(0, .ref (a 0)), (1, .int x1), (2, .int x2), (3, .int x3), (4, .int x4), (5, .int x5)] 163 [.int q82.1] from z128 _ rfl
                          intro q82 hq82
                          have hv := kk_vq hv hq82
                          clear hq82
                          subst hv; exact z_iret_W hQ rfl rfl rfl ⟨rfl, rfl⟩ dX7_copy_163
                        · have hp := ip_f hp c80; have hv := it_f hv c80
                          refine z_iload_n dX7_copy_130 rfl ?_
                          refine z_aload_n dX7_copy_131 rfl ?_
                          refine mg_18 wr_P rfl dX7_copy_132 ?_
                          refine z_iload_n dX7_copy_135 rfl ?_
                          obtain ⟨q83, hp⟩ := hp
                          refine ml_18 (x := (M.2.1 18) x1.toNatClampNeg) wr_P q83 rfl dX7_copy_136 ?_
                          refine z_iload dX7_copy_137 rfl ?_
                          refine z_isub dX7_copy_139 ?_
                          refine z_icmp_gt (tgt := 157) dX7_copy_140 (by decide) (fun c84 => ?_) (fun c84 => ?_)
                          · have hp := ip_t hp c84; have hv := it_t hv c84
                            refine z_aload_n dX7_copy_157 rfl ?_
                            refine z_bipush (v := (-5)) dX7_copy_158 rfl ?_
                            have q85 := hp
                            refine z_caviD hw (fun sz => c_X7_no G a hw.1 sz M (-5) q85) zc_X7_no zv_X7_no tw_m_RX7_106 (mrec wr_P) (zroom_of rfl) rfl (Nat.le_of_ble_eq_true rfl) dX7_copy_160 ?_
                            suffices z129 : ∀ q86 : Int32 × mT, q86 = (v_X7_no M (-5)) → Z k_X7_copy G Γ (wr G A Γ.2.2.1.1.heap (mW G a q86.2)) 0 0 [(0, .ref (a 0)), (1, .int x1), (2, .int x2), (3, .int x3), (4, .int x4), (5, .int x5)] 163 [.int q86.1] from z129 _ rfl
                            intro q86 hq86
                            have hv := kk_vq hv hq86
                            clear hq86
                            subst hv; exact z_iret_W hQ rfl rfl rfl ⟨rfl, rfl⟩ dX7_copy_163
                          · have hp := ip_f hp c84; have hv := it_f hv c84
                            refine z_iload dX7_copy_143 rfl ?_
                            refine z_aload_n dX7_copy_145 rfl ?_
                            refine mg_18 wr_P rfl dX7_copy_146 ?_
                            refine z_iload_n dX7_copy_149 rfl ?_
                            obtain ⟨q87, hp⟩ := hp
                            refine ml_18 (x := (M.2.1 18) x2.toNatClampNeg) wr_P q87 rfl dX7_copy_150 ?_
                            refine z_iload dX7_copy_151 rfl ?_
                            refine z_isub dX7_copy_153 ?_
                            refine z_icmp_le (tgt := 164) dX7_copy_154 (by decide) (fun c88 => ?_) (fun c88 => ?_)
                            · have hp := ip_t hp c88; have hv := it_t hv c88
                              refine z_iconst (v := 0) dX7_copy_164 rfl ?_
                              refine z_istore (lv' := [(6, .int 0), (0, .ref (a 0)), (1, .int x1), (2, .int x2), (3, .int x3), (4, .int x4), (5, .int x5)]) dX7_copy_165 (Nat.le_of_ble_eq_true rfl) rfl ?_
                              exact z_lv rfl ((w_X7_copy hw hQ 400).1 M x1 x2 x3 x4 x5 0 hp hv)
                            · have hp := ip_f hp c88; have hv := it_f hv c88
                              refine z_aload_n dX7_copy_157 rfl ?_
                              refine z_bipush (v := (-5)) dX7_copy_158 rfl ?_
                              have q89 := hp
                              refine z_caviD hw (fun sz => c_X7_no G a hw.1 sz M (-5) q89) zc_X7_no zv_X7_no tw_m_RX7_106 (mrec wr_P) (zroom_of rfl) rfl (Nat.le_of_ble_eq_true rfl) dX7_copy_160 ?_
                              suffices z130 : ∀ q90 : Int32 × mT, q90 = (v_X7_no M (-5)) → Z k_X7_copy G Γ (wr G A Γ.2.2.1.1.heap (mW G a q90.2)) 0 0 [(0, .ref (a 0)), (1, .int x1), (2, .int x2), (3, .int x3), (4, .int x4), (5, .int x5)] 163 [.int q90.1] from z130 _ rfl
                              intro q90 hq90
                              have hv := kk_vq hv hq90
                              clear hq90
                              subst hv; exact z_iret_W hQ rfl rfl rfl ⟨rfl, rfl⟩ dX7_copy_163
                    · have hp := ip_f hp c76; have hv := it_f hv c76
                      refine z_aload_n dX7_copy_114 rfl ?_
                      refine z_bipush (v := (-4)) dX7_copy_115 rfl ?_
                      have q91 := hp
                      refine z_caviD hw (fun sz => c_X7_no G a hw.1 sz M (-4) q91) zc_X7_no zv_X7_no tw_m_RX7_106 (mrec wr_P) (zroom_of rfl) rfl (Nat.le_of_ble_eq_true rfl) dX7_copy_117 ?_
                      suffices z131 : ∀ q92 : Int32 × mT, q92 = (v_X7_no M (-4)) → Z k_X7_copy G Γ (wr G A Γ.2.2.1.1.heap (mW G a q92.2)) 0 0 [(0, .ref (a 0)), (1, .int x1), (2, .int x2), (3, .int x3), (4, .int x4), (5, .int x5)] 120 [.int q92.1] from z131 _ rfl
                      intro q92 hq92
                      have hv := kk_vq hv hq92
                      clear hq92
                      subst hv; exact z_iret_W hQ rfl rfl rfl ⟨rfl, rfl⟩ dX7_copy_120
                  · have hp := ip_t hp c75; have hv := it_t hv c75
                    refine z_aload_n dX7_copy_102 rfl ?_
                    refine z_bipush (v := (-3)) dX7_copy_103 rfl ?_
                    have q93 := hp
                    refine z_caviD hw (fun sz => c_X7_no G a hw.1 sz M (-3) q93) zc_X7_no zv_X7_no tw_m_RX7_106 (mrec wr_P) (zroom_of rfl) rfl (Nat.le_of_ble_eq_true rfl) dX7_copy_105 ?_
                    suffices z132 : ∀ q94 : Int32 × mT, q94 = (v_X7_no M (-3)) → Z k_X7_copy G Γ (wr G A Γ.2.2.1.1.heap (mW G a q94.2)) 0 0 [(0, .ref (a 0)), (1, .int x1), (2, .int x2), (3, .int x3), (4, .int x4), (5, .int x5)] 108 [.int q94.1] from z132 _ rfl
                    intro q94 hq94
                    have hv := kk_vq hv hq94
                    clear hq94
                    subst hv; exact z_iret_W hQ rfl rfl rfl ⟨rfl, rfl⟩ dX7_copy_108
              · have hp := ip_f hp c69; have hv := it_f hv c69
                refine z_aload_n dX7_copy_77 rfl ?_
                refine z_bipush (v := (-2)) dX7_copy_78 rfl ?_
                have q95 := hp
                refine z_caviD hw (fun sz => c_X7_no G a hw.1 sz M (-2) q95) zc_X7_no zv_X7_no tw_m_RX7_106 (mrec wr_P) (zroom_of rfl) rfl (Nat.le_of_ble_eq_true rfl) dX7_copy_80 ?_
                suffices z133 : ∀ q96 : Int32 × mT, q96 = (v_X7_no M (-2)) → Z k_X7_copy G Γ (wr G A Γ.2.2.1.1.heap (mW G a q96.2)) 0 0 [(0, .ref (a 0)), (1, .int x1), (2, .int x2), (3, .int x3), (4, .int x4), (5, .int x5)] 83 [.int q96.1] from z133 _ rfl
                intro q96 hq96
                have hv := kk_vq hv hq96
                clear hq96
                subst hv; exact z_iret_W hQ rfl rfl rfl ⟨rfl, rfl⟩ dX7_copy_83
    · have hp := ip_t hp c4; have hv := it_t hv c4
      refine z_aload_n dX7_copy_16 rfl ?_
      refine z_iconst (v := (-1)) dX7_copy_17 rfl ?_
      have q97 := hp
      refine z_caviD hw (fun sz => c_X7_no G a hw.1 sz M (-1) q97) zc_X7_no zv_X7_no tw_m_RX7_106 (mrec wr_P) (zroom_of rfl) rfl (Nat.le_of_ble_eq_true rfl) dX7_copy_18 ?_
      suffices z134 : ∀ q98 : Int32 × mT, q98 = (v_X7_no M (-1)) → Z k_X7_copy G Γ (wr G A Γ.2.2.1.1.heap (mW G a q98.2)) 0 0 [(0, .ref (a 0)), (1, .int x1), (2, .int x2), (3, .int x3), (4, .int x4), (5, .int x5)] 21 [.int q98.1] from z134 _ rfl
      intro q98 hq98
      have hv := kk_vq hv hq98
      clear hq98
      subst hv; exact z_iret_W hQ rfl rfl rfl ⟨rfl, rfl⟩ dX7_copy_21
theorem dX7_element_0 : decode cX7_element 0 = .ok (.aload_n 0, 1) := by decide +kernel
theorem dX7_element_1 : decode cX7_element 1 = .ok (.iload_n 1, 1) := by decide +kernel
theorem dX7_element_2 : decode cX7_element 2 = .ok (.invokevirtual 102, 3) := by decide +kernel
theorem dX7_element_5 : decode cX7_element 5 = .ok (.ifCond .eq 42, 3) := by decide +kernel
theorem dX7_element_8 : decode cX7_element 8 = .ok (.aload_n 0, 1) := by decide +kernel
theorem dX7_element_9 : decode cX7_element 9 = .ok (.getfield 50, 3) := by decide +kernel
theorem dX7_element_12 : decode cX7_element 12 = .ok (.iload_n 1, 1) := by decide +kernel
theorem dX7_element_13 : decode cX7_element 13 = .ok (.iaload, 1) := by decide +kernel
theorem dX7_element_14 : decode cX7_element 14 = .ok (.iconst 1, 1) := by decide +kernel
theorem dX7_element_15 : decode cX7_element 15 = .ok (.if_icmp .ne 32, 3) := by decide +kernel
theorem dX7_element_18 : decode cX7_element 18 = .ok (.iload_n 2, 1) := by decide +kernel
theorem dX7_element_19 : decode cX7_element 19 = .ok (.ifCond .lt 28, 3) := by decide +kernel
theorem dX7_element_22 : decode cX7_element 22 = .ok (.iload_n 2, 1) := by decide +kernel
theorem dX7_element_23 : decode cX7_element 23 = .ok (.aload_n 0, 1) := by decide +kernel
theorem dX7_element_24 : decode cX7_element 24 = .ok (.getfield 56, 3) := by decide +kernel
theorem dX7_element_27 : decode cX7_element 27 = .ok (.iload_n 1, 1) := by decide +kernel
theorem dX7_element_28 : decode cX7_element 28 = .ok (.iaload, 1) := by decide +kernel
theorem dX7_element_29 : decode cX7_element 29 = .ok (.if_icmp .ge 18, 3) := by decide +kernel
theorem dX7_element_32 : decode cX7_element 32 = .ok (.aload_n 0, 1) := by decide +kernel
theorem dX7_element_33 : decode cX7_element 33 = .ok (.getfield 62, 3) := by decide +kernel
theorem dX7_element_36 : decode cX7_element 36 = .ok (.sipush 160, 3) := by decide +kernel
theorem dX7_element_39 : decode cX7_element 39 = .ok (.iload_n 1, 1) := by decide +kernel
theorem dX7_element_40 : decode cX7_element 40 = .ok (.imul, 1) := by decide +kernel
theorem dX7_element_41 : decode cX7_element 41 = .ok (.iload_n 2, 1) := by decide +kernel
theorem dX7_element_42 : decode cX7_element 42 = .ok (.iadd, 1) := by decide +kernel
theorem dX7_element_43 : decode cX7_element 43 = .ok (.laload, 1) := by decide +kernel
theorem dX7_element_44 : decode cX7_element 44 = .ok (.goto 4, 3) := by decide +kernel
theorem dX7_element_47 : decode cX7_element 47 = .ok (.lconst 0, 1) := by decide +kernel
theorem dX7_element_48 : decode cX7_element 48 = .ok (.lreturn, 1) := by decide +kernel
abbrev k_X7_element : zK := (cX7_element, 3, RX7, (some .long), ({ frames := 1, cells := 0, slots := 0, locals := 21 } : Room))
theorem zc_X7_element : zcal yX7_element k_X7_element.1 k_X7_element.2.1 k_X7_element.2.2.2.1 2 := ⟨tw_code_yX7_element, tw_i_TollForHesitatorsModel, ⟨by decide +kernel, by decide +kernel⟩, by decide +kernel⟩
theorem zv_X7_element : Cond.instanceMethod yX7_element ∈ TS ∧ Cond.selects RX7 yX7_element yX7_element ∈ TS := ⟨tw_inst_yX7_element, tw_s_yX7_element⟩
def v_X7_element (M : mT) (x1 : Int32) (x2 : Int32) : Int64 := kk (if (v_X7_isShelf M x1) = 0 then 0 else (if ((M.2.1 16) x1.toNatClampNeg) = 1 then (if x2 < 0 then 0 else (if ((M.2.1 18) x1.toNatClampNeg) ≤ x2 then 0 else (M.2.2 20) ((160 * x1) + x2).toNatClampNeg)) else 0)) (fun m11 : Int64 => m11)
def p_X7_element (M : mT) (x1 : Int32) (x2 : Int32) : Prop := if (v_X7_isShelf M x1) = 0 then True else vp_in x1 8 ∧ (if ((M.2.1 16) x1.toNatClampNeg) = 1 then if x2 < 0 then True else vp_in x1 8 ∧ (if ((M.2.1 18) x1.toNatClampNeg) ≤ x2 then True else vp_in ((160 * x1) + x2) 1280) else True)
set_option maxHeartbeats 4000000 in
theorem c_X7_element {l : Launch} (G : zG) (a : Nat → Nat) (M : mT) (x1 : Int32) (x2 : Int32) (hp : p_X7_element M x1 x2) : Met l yX7_element (.code yX7_element k_X7_element.1 k_X7_element.2.1 k_X7_element.2.2.2.1 :: TS) k_X7_element.2.2.2.2 (Pz G [.ref (a 0), .int x1, .int x2] (va_P G.2.1 CL (mW G a M))) (vp_Sl (fun r => r = v_X7_element M x1 x2)) 0 0 (fun _ => False) := by
  refine zmet (by decide +kernel) rfl rfl (fun Γ hl0 hQ hN hF => ?_)
  have hI := rd_P (G := G) hF
  obtain ⟨res, hv⟩ : ∃ res, v_X7_element M x1 x2 = res := ⟨_, rfl⟩
  rw [hv] at hQ
  unfold v_X7_element at hv
  unfold p_X7_element at hp
  show Z k_X7_element G Γ _ 0 0 [(0, .ref (a 0)), (1, .int x1), (2, .int x2)] 0 []
  refine z_aload_n dX7_element_0 rfl ?_
  refine z_iload_n dX7_element_1 rfl ?_
  refine z_cvi (c_X7_isShelf G a M x1 ) zc_X7_isShelf zv_X7_isShelf tw_m_RX7_102 (mrec hI) hI (zroom_of rfl) rfl (Nat.le_of_ble_eq_true rfl) dX7_element_2 ?_
  have hpm := hp
  have J12 : ∀ m11 : Int64, m11 = (if (v_X7_isShelf M x1) = 0 then 0 else (if ((M.2.1 16) x1.toNatClampNeg) = 1 then (if x2 < 0 then 0 else (if ((M.2.1 18) x1.toNatClampNeg) ≤ x2 then 0 else (M.2.2 20) ((160 * x1) + x2).toNatClampNeg)) else 0)) → Z k_X7_element G Γ (rd Γ.2.2.1.1.heap) 0 0 [(0, .ref (a 0)), (1, .int x1), (2, .int x2)] 48 [.long m11] := by
    intro m11 em11
    have hv := kk_vq hv em11
    clear em11
    exact z_lret_S hQ rfl hv dX7_element_48
  refine z_if_eq (tgt := 47) dX7_element_5 (by decide) (fun c1 => ?_) (fun c1 => ?_)
  · have hp := ip_t hpm c1
    refine z_lconst (v := 0) dX7_element_47 rfl ?_
    exact z_lv rfl (J12 _ (if_pos c1).symm)
  · have hp := ip_f hpm c1
    refine z_aload_n dX7_element_8 rfl ?_
    refine mg_16 hI rfl dX7_element_9 ?_
    refine z_iload_n dX7_element_12 rfl ?_
    obtain ⟨q2, hp⟩ := hp
    refine ml_16 (x := (M.2.1 16) x1.toNatClampNeg) hI q2 rfl dX7_element_13 ?_
    refine z_iconst (v := 1) dX7_element_14 rfl ?_
    have hpm := hp
    have J13 : ∀ m10 : Int64, m10 = (if ((M.2.1 16) x1.toNatClampNeg) = 1 then (if x2 < 0 then 0 else (if ((M.2.1 18) x1.toNatClampNeg) ≤ x2 then 0 else (M.2.2 20) ((160 * x1) + x2).toNatClampNeg)) else 0) → Z k_X7_element G Γ (rd Γ.2.2.1.1.heap) 0 0 [(0, .ref (a 0)), (1, .int x1), (2, .int x2)] 48 [.long m10] := by
      intro m10 em10
      rewrite [em10]; clear em10
      exact z_lv rfl (J12 _ (if_neg c1).symm)
    refine z_icmp_ne (tgt := 47) dX7_element_15 (by decide) (fun c3 => ?_) (fun c3 => ?_)
    · have hp := ip_f hpm c3
      refine z_lconst (v := 0) dX7_element_47 rfl ?_
      exact z_lv rfl (J13 _ (if_neg c3).symm)
    · have hp := ip_t hpm c3
      refine z_iload_n dX7_element_18 rfl ?_
      have hpm := hp
      have J14 : ∀ m9 : Int64, m9 = (if x2 < 0 then 0 else (if ((M.2.1 18) x1.toNatClampNeg) ≤ x2 then 0 else (M.2.2 20) ((160 * x1) + x2).toNatClampNeg)) → Z k_X7_element G Γ (rd Γ.2.2.1.1.heap) 0 0 [(0, .ref (a 0)), (1, .int x1), (2, .int x2)] 48 [.long m9] := by
        intro m9 em9
        rewrite [em9]; clear em9
        exact z_lv rfl (J13 _ (if_pos c3).symm)
      refine z_if_lt (tgt := 47) dX7_element_19 (by decide) (fun c4 => ?_) (fun c4 => ?_)
      · have hp := ip_t hpm c4
        refine z_lconst (v := 0) dX7_element_47 rfl ?_
        exact z_lv rfl (J14 _ (if_pos c4).symm)
      · have hp := ip_f hpm c4
        refine z_iload_n dX7_element_22 rfl ?_
        refine z_aload_n dX7_element_23 rfl ?_
        refine mg_18 hI rfl dX7_element_24 ?_
        refine z_iload_n dX7_element_27 rfl ?_
        obtain ⟨q5, hp⟩ := hp
        refine ml_18 (x := (M.2.1 18) x1.toNatClampNeg) hI q5 rfl dX7_element_28 ?_
        have hpm := hp
        have J15 : ∀ m8 : Int64, m8 = (if ((M.2.1 18) x1.toNatClampNeg) ≤ x2 then 0 else (M.2.2 20) ((160 * x1) + x2).toNatClampNeg) → Z k_X7_element G Γ (rd Γ.2.2.1.1.heap) 0 0 [(0, .ref (a 0)), (1, .int x1), (2, .int x2)] 48 [.long m8] := by
          intro m8 em8
          rewrite [em8]; clear em8
          exact z_lv rfl (J14 _ (if_neg c4).symm)
        refine z_icmp_ge (tgt := 47) dX7_element_29 (by decide) (fun c6 => ?_) (fun c6 => ?_)
        · have hp := ip_t hpm c6
          refine z_lconst (v := 0) dX7_element_47 rfl ?_
          exact z_lv rfl (J15 _ (if_pos c6).symm)
        · have hp := ip_f hpm c6
          refine z_aload_n dX7_element_32 rfl ?_
          refine mg_20 hI rfl dX7_element_33 ?_
          refine z_sipush (v := 160) dX7_element_36 rfl ?_
          refine z_iload_n dX7_element_39 rfl ?_
          refine z_imul dX7_element_40 ?_
          refine z_iload_n dX7_element_41 rfl ?_
          refine z_iadd dX7_element_42 ?_
          have q7 := hp
          refine ml_20 (x := (M.2.2 20) ((160 * x1) + x2).toNatClampNeg) hI q7 rfl dX7_element_43 ?_
          refine z_goto (tgt := 48) dX7_element_44 (by decide) ?_
          exact z_lv rfl (J15 _ (if_neg c6).symm)
theorem dX7_show_0 : decode cX7_show 0 = .ok (.aload_n 0, 1) := by decide +kernel
theorem dX7_show_1 : decode cX7_show 1 = .ok (.iload_n 1, 1) := by decide +kernel
theorem dX7_show_2 : decode cX7_show 2 = .ok (.invokevirtual 102, 3) := by decide +kernel
theorem dX7_show_5 : decode cX7_show 5 = .ok (.ifCond .eq 16, 3) := by decide +kernel
theorem dX7_show_8 : decode cX7_show 8 = .ok (.iload_n 2, 1) := by decide +kernel
theorem dX7_show_9 : decode cX7_show 9 = .ok (.iconst (-1), 1) := by decide +kernel
theorem dX7_show_10 : decode cX7_show 10 = .ok (.if_icmp .eq 17, 3) := by decide +kernel
theorem dX7_show_13 : decode cX7_show 13 = .ok (.aload_n 0, 1) := by decide +kernel
theorem dX7_show_14 : decode cX7_show 14 = .ok (.iload_n 2, 1) := by decide +kernel
theorem dX7_show_15 : decode cX7_show 15 = .ok (.invokevirtual 110, 3) := by decide +kernel
theorem dX7_show_18 : decode cX7_show 18 = .ok (.ifCond .ne 9, 3) := by decide +kernel
theorem dX7_show_21 : decode cX7_show 21 = .ok (.aload_n 0, 1) := by decide +kernel
theorem dX7_show_22 : decode cX7_show 22 = .ok (.iconst (-1), 1) := by decide +kernel
theorem dX7_show_23 : decode cX7_show 23 = .ok (.invokevirtual 106, 3) := by decide +kernel
theorem dX7_show_26 : decode cX7_show 26 = .ok (.ireturn, 1) := by decide +kernel
theorem dX7_show_27 : decode cX7_show 27 = .ok (.aload_n 0, 1) := by decide +kernel
theorem dX7_show_28 : decode cX7_show 28 = .ok (.getfield 50, 3) := by decide +kernel
theorem dX7_show_31 : decode cX7_show 31 = .ok (.iload_n 1, 1) := by decide +kernel
theorem dX7_show_32 : decode cX7_show 32 = .ok (.iload_n 2, 1) := by decide +kernel
theorem dX7_show_33 : decode cX7_show 33 = .ok (.iconst (-1), 1) := by decide +kernel
theorem dX7_show_34 : decode cX7_show 34 = .ok (.if_icmp .ne 7, 3) := by decide +kernel
theorem dX7_show_37 : decode cX7_show 37 = .ok (.iconst 0, 1) := by decide +kernel
theorem dX7_show_38 : decode cX7_show 38 = .ok (.goto 4, 3) := by decide +kernel
theorem dX7_show_41 : decode cX7_show 41 = .ok (.iconst 2, 1) := by decide +kernel
theorem dX7_show_42 : decode cX7_show 42 = .ok (.iastore, 1) := by decide +kernel
theorem dX7_show_43 : decode cX7_show 43 = .ok (.aload_n 0, 1) := by decide +kernel
theorem dX7_show_44 : decode cX7_show 44 = .ok (.getfield 59, 3) := by decide +kernel
theorem dX7_show_47 : decode cX7_show 47 = .ok (.iload_n 1, 1) := by decide +kernel
theorem dX7_show_48 : decode cX7_show 48 = .ok (.iload_n 2, 1) := by decide +kernel
theorem dX7_show_49 : decode cX7_show 49 = .ok (.iastore, 1) := by decide +kernel
theorem dX7_show_50 : decode cX7_show 50 = .ok (.iload_n 2, 1) := by decide +kernel
theorem dX7_show_51 : decode cX7_show 51 = .ok (.iconst (-1), 1) := by decide +kernel
theorem dX7_show_52 : decode cX7_show 52 = .ok (.if_icmp .ne 7, 3) := by decide +kernel
theorem dX7_show_55 : decode cX7_show 55 = .ok (.iconst 0, 1) := by decide +kernel
theorem dX7_show_56 : decode cX7_show 56 = .ok (.goto 4, 3) := by decide +kernel
theorem dX7_show_59 : decode cX7_show 59 = .ok (.iconst 1, 1) := by decide +kernel
theorem dX7_show_60 : decode cX7_show 60 = .ok (.ireturn, 1) := by decide +kernel
abbrev k_X7_show : zK := (cX7_show, 3, RX7, (some .int), ({ frames := 1, cells := 0, slots := 0, locals := 21 } : Room))
theorem zc_X7_show : zcal yX7_show k_X7_show.1 k_X7_show.2.1 k_X7_show.2.2.2.1 2 := ⟨tw_code_yX7_show, tw_i_TollForHesitatorsModel, ⟨by decide +kernel, by decide +kernel⟩, by decide +kernel⟩
theorem zv_X7_show : Cond.instanceMethod yX7_show ∈ TS ∧ Cond.selects RX7 yX7_show yX7_show ∈ TS := ⟨tw_inst_yX7_show, tw_s_yX7_show⟩
def v_X7_show (M : mT) (x1 : Int32) (x2 : Int32) : Int32 × mT := if (v_X7_isShelf M x1) = 0 then kk (v_X7_no M (-1)) (fun q3 : Int32 × mT => (q3.1, q3.2)) else if x2 = (-1) then ((if x2 = (-1) then 0 else 1), msa (msa M 16 (upd (M.2.1 16) x1.toNatClampNeg (if x2 = (-1) then 0 else 2))) 19 (upd (M.2.1 19) x1.toNatClampNeg x2)) else if (v_X7_isComer M x2) = 0 then kk (v_X7_no M (-1)) (fun q19 : Int32 × mT => (q19.1, q19.2)) else ((if x2 = (-1) then 0 else 1), msa (msa M 16 (upd (M.2.1 16) x1.toNatClampNeg (if x2 = (-1) then 0 else 2))) 19 (upd (M.2.1 19) x1.toNatClampNeg x2))
def p_X7_show (M : mT) (x1 : Int32) (x2 : Int32) : Prop := if (v_X7_isShelf M x1) = 0 then p_X7_no M (-1) else if x2 = (-1) then vp_in x1 8 ∧ vp_in x1 8 else if (v_X7_isComer M x2) = 0 then p_X7_no M (-1) else vp_in x1 8 ∧ vp_in x1 8
set_option maxHeartbeats 4000000 in
theorem c_X7_show {l : Launch} (G : zG) (a : Nat → Nat) {X : zX} (hX : XOK X) (sz : Nat) (M : mT) (x1 : Int32) (x2 : Int32) (hp : p_X7_show M x1 x2) : Met l yX7_show (.code yX7_show k_X7_show.1 k_X7_show.2.1 k_X7_show.2.2.2.1 :: TS) k_X7_show.2.2.2.2 (Pz G [.ref (a 0), .int x1, .int x2] (Fw G X (mW G a M) sz)) (Qwi G (fun r w => r = (v_X7_show M x1 x2).1 ∧ w = mW G a (v_X7_show M x1 x2).2) (va_A (mW G a M) sz)) 0 0 (va_A (mW G a M) sz) := by
  refine zmet (by decide +kernel) rfl rfl (fun Γ hl0 hQ hN hF => ?_)
  refine z_start hX hF (fun hw => ?_)
  generalize va_A (mW G a M) sz = A at hQ hw ⊢
  obtain ⟨res, hv⟩ : ∃ res, v_X7_show M x1 x2 = res := ⟨_, rfl⟩
  rw [hv] at hQ
  unfold v_X7_show at hv
  unfold p_X7_show at hp
  show Z k_X7_show G Γ _ 0 0 [(0, .ref (a 0)), (1, .int x1), (2, .int x2)] 0 []
  refine z_aload_n dX7_show_0 rfl ?_
  refine z_iload_n dX7_show_1 rfl ?_
  refine z_cvi (c_X7_isShelf G a M x1 ) zc_X7_isShelf zv_X7_isShelf tw_m_RX7_102 (mrec wr_P) wr_P (zroom_of rfl) rfl (Nat.le_of_ble_eq_true rfl) dX7_show_2 ?_
  refine z_if_eq (tgt := 21) dX7_show_5 (by decide) (fun c1 => ?_) (fun c1 => ?_)
  · have hp := ip_t hp c1; have hv := it_t hv c1
    refine z_aload_n dX7_show_21 rfl ?_
    refine z_iconst (v := (-1)) dX7_show_22 rfl ?_
    have q2 := hp
    refine z_caviD hw (fun sz => c_X7_no G a hw.1 sz M (-1) q2) zc_X7_no zv_X7_no tw_m_RX7_106 (mrec wr_P) (zroom_of rfl) rfl (Nat.le_of_ble_eq_true rfl) dX7_show_23 ?_
    suffices z20 : ∀ q3 : Int32 × mT, q3 = (v_X7_no M (-1)) → Z k_X7_show G Γ (wr G A Γ.2.2.1.1.heap (mW G a q3.2)) 0 0 [(0, .ref (a 0)), (1, .int x1), (2, .int x2)] 26 [.int q3.1] from z20 _ rfl
    intro q3 hq3
    have hv := kk_vq hv hq3
    clear hq3
    subst hv; exact z_iret_W hQ rfl rfl rfl ⟨rfl, rfl⟩ dX7_show_26
  · have hp := ip_f hp c1; have hv := it_f hv c1
    refine z_iload_n dX7_show_8 rfl ?_
    refine z_iconst (v := (-1)) dX7_show_9 rfl ?_
    refine z_icmp_eq (tgt := 27) dX7_show_10 (by decide) (fun c4 => ?_) (fun c4 => ?_)
    · have hp := ip_t hp c4; have hv := it_t hv c4
      refine z_aload_n dX7_show_27 rfl ?_
      refine mg_16 wr_P rfl dX7_show_28 ?_
      refine z_iload_n dX7_show_31 rfl ?_
      refine z_iload_n dX7_show_32 rfl ?_
      refine z_iconst (v := (-1)) dX7_show_33 rfl ?_
      have J21 : ∀ m6 : Int32, m6 = (if x2 = (-1) then 0 else 2) → Z k_X7_show G Γ (wr G A Γ.2.2.1.1.heap (mW G a M)) 0 0 [(0, .ref (a 0)), (1, .int x1), (2, .int x2)] 42 [.int m6, .int x1, .ref (a 16)] := by
        intro m6 em6
        rewrite [em6]; clear em6
        obtain ⟨q7, hp⟩ := hp
        refine ms_16 (F := upd (M.2.1 16) x1.toNatClampNeg (if x2 = (-1) then 0 else 2)) q7 rfl dX7_show_42 ?_
        refine z_aload_n dX7_show_43 rfl ?_
        refine mg_19 wr_P rfl dX7_show_44 ?_
        refine z_iload_n dX7_show_47 rfl ?_
        refine z_iload_n dX7_show_48 rfl ?_
        have q8 := hp
        refine ms_19 (F := upd (M.2.1 19) x1.toNatClampNeg x2) q8 rfl dX7_show_49 ?_
        refine z_iload_n dX7_show_50 rfl ?_
        refine z_iconst (v := (-1)) dX7_show_51 rfl ?_
        have J22 : ∀ m10 : Int32, m10 = (if x2 = (-1) then 0 else 1) → Z k_X7_show G Γ (wr G A Γ.2.2.1.1.heap (mW G a (msa (msa M 16 (upd (M.2.1 16) x1.toNatClampNeg (if x2 = (-1) then 0 else 2))) 19 (upd (M.2.1 19) x1.toNatClampNeg x2)))) 0 0 [(0, .ref (a 0)), (1, .int x1), (2, .int x2)] 60 [.int m10] := by
          intro m10 em10
          rewrite [em10]; clear em10
          subst hv; exact z_iret_W hQ rfl rfl rfl ⟨rfl, rfl⟩ dX7_show_60
        refine z_icmp_ne (tgt := 59) dX7_show_52 (by decide) (fun c9 => ?_) (fun c9 => ?_)
        · skip
          refine z_iconst (v := 1) dX7_show_59 rfl ?_
          exact z_lv rfl (J22 _ (if_neg c9).symm)
        · skip
          refine z_iconst (v := 0) dX7_show_55 rfl ?_
          refine z_goto (tgt := 60) dX7_show_56 (by decide) ?_
          exact z_lv rfl (J22 _ (if_pos c9).symm)
      refine z_icmp_ne (tgt := 41) dX7_show_34 (by decide) (fun c5 => ?_) (fun c5 => ?_)
      · skip
        refine z_iconst (v := 2) dX7_show_41 rfl ?_
        exact z_lv rfl (J21 _ (if_neg c5).symm)
      · skip
        refine z_iconst (v := 0) dX7_show_37 rfl ?_
        refine z_goto (tgt := 42) dX7_show_38 (by decide) ?_
        exact z_lv rfl (J21 _ (if_pos c5).symm)
    · have hp := ip_f hp c4; have hv := it_f hv c4
      refine z_aload_n dX7_show_13 rfl ?_
      refine z_iload_n dX7_show_14 rfl ?_
      refine z_cvi (c_X7_isComer G a M x2 ) zc_X7_isComer zv_X7_isComer tw_m_RX7_110 (mrec wr_P) wr_P (zroom_of rfl) rfl (Nat.le_of_ble_eq_true rfl) dX7_show_15 ?_
      refine z_if_ne (tgt := 27) dX7_show_18 (by decide) (fun c11 => ?_) (fun c11 => ?_)
      · have hp := ip_f hp c11; have hv := it_f hv c11
        refine z_aload_n dX7_show_27 rfl ?_
        refine mg_16 wr_P rfl dX7_show_28 ?_
        refine z_iload_n dX7_show_31 rfl ?_
        refine z_iload_n dX7_show_32 rfl ?_
        refine z_iconst (v := (-1)) dX7_show_33 rfl ?_
        have J23 : ∀ m13 : Int32, m13 = (if x2 = (-1) then 0 else 2) → Z k_X7_show G Γ (wr G A Γ.2.2.1.1.heap (mW G a M)) 0 0 [(0, .ref (a 0)), (1, .int x1), (2, .int x2)] 42 [.int m13, .int x1, .ref (a 16)] := by
          intro m13 em13
          rewrite [em13]; clear em13
          obtain ⟨q14, hp⟩ := hp
          refine ms_16 (F := upd (M.2.1 16) x1.toNatClampNeg (if x2 = (-1) then 0 else 2)) q14 rfl dX7_show_42 ?_
          refine z_aload_n dX7_show_43 rfl ?_
          refine mg_19 wr_P rfl dX7_show_44 ?_
          refine z_iload_n dX7_show_47 rfl ?_
          refine z_iload_n dX7_show_48 rfl ?_
          have q15 := hp
          refine ms_19 (F := upd (M.2.1 19) x1.toNatClampNeg x2) q15 rfl dX7_show_49 ?_
          refine z_iload_n dX7_show_50 rfl ?_
          refine z_iconst (v := (-1)) dX7_show_51 rfl ?_
          have J24 : ∀ m17 : Int32, m17 = (if x2 = (-1) then 0 else 1) → Z k_X7_show G Γ (wr G A Γ.2.2.1.1.heap (mW G a (msa (msa M 16 (upd (M.2.1 16) x1.toNatClampNeg (if x2 = (-1) then 0 else 2))) 19 (upd (M.2.1 19) x1.toNatClampNeg x2)))) 0 0 [(0, .ref (a 0)), (1, .int x1), (2, .int x2)] 60 [.int m17] := by
            intro m17 em17
            rewrite [em17]; clear em17
            subst hv; exact z_iret_W hQ rfl rfl rfl ⟨rfl, rfl⟩ dX7_show_60
          refine z_icmp_ne (tgt := 59) dX7_show_52 (by decide) (fun c16 => ?_) (fun c16 => ?_)
          · skip
            refine z_iconst (v := 1) dX7_show_59 rfl ?_
            exact z_lv rfl (J24 _ (if_neg c16).symm)
          · skip
            refine z_iconst (v := 0) dX7_show_55 rfl ?_
            refine z_goto (tgt := 60) dX7_show_56 (by decide) ?_
            exact z_lv rfl (J24 _ (if_pos c16).symm)
        refine z_icmp_ne (tgt := 41) dX7_show_34 (by decide) (fun c12 => ?_) (fun c12 => ?_)
        · skip
          refine z_iconst (v := 2) dX7_show_41 rfl ?_
          exact z_lv rfl (J23 _ (if_neg c12).symm)
        · skip
          refine z_iconst (v := 0) dX7_show_37 rfl ?_
          refine z_goto (tgt := 42) dX7_show_38 (by decide) ?_
          exact z_lv rfl (J23 _ (if_pos c12).symm)
      · have hp := ip_t hp c11; have hv := it_t hv c11
        refine z_aload_n dX7_show_21 rfl ?_
        refine z_iconst (v := (-1)) dX7_show_22 rfl ?_
        have q18 := hp
        refine z_caviD hw (fun sz => c_X7_no G a hw.1 sz M (-1) q18) zc_X7_no zv_X7_no tw_m_RX7_106 (mrec wr_P) (zroom_of rfl) rfl (Nat.le_of_ble_eq_true rfl) dX7_show_23 ?_
        suffices z25 : ∀ q19 : Int32 × mT, q19 = (v_X7_no M (-1)) → Z k_X7_show G Γ (wr G A Γ.2.2.1.1.heap (mW G a q19.2)) 0 0 [(0, .ref (a 0)), (1, .int x1), (2, .int x2)] 26 [.int q19.1] from z25 _ rfl
        intro q19 hq19
        have hv := kk_vq hv hq19
        clear hq19
        subst hv; exact z_iret_W hQ rfl rfl rfl ⟨rfl, rfl⟩ dX7_show_26
theorem dX7_holds_0 : decode cX7_holds 0 = .ok (.aload_n 0, 1) := by decide +kernel
theorem dX7_holds_1 : decode cX7_holds 1 = .ok (.iload_n 1, 1) := by decide +kernel
theorem dX7_holds_2 : decode cX7_holds 2 = .ok (.invokevirtual 102, 3) := by decide +kernel
theorem dX7_holds_5 : decode cX7_holds 5 = .ok (.ifCond .eq 12, 3) := by decide +kernel
theorem dX7_holds_8 : decode cX7_holds 8 = .ok (.aload_n 0, 1) := by decide +kernel
theorem dX7_holds_9 : decode cX7_holds 9 = .ok (.getfield 50, 3) := by decide +kernel
theorem dX7_holds_12 : decode cX7_holds 12 = .ok (.iload_n 1, 1) := by decide +kernel
theorem dX7_holds_13 : decode cX7_holds 13 = .ok (.iaload, 1) := by decide +kernel
theorem dX7_holds_14 : decode cX7_holds 14 = .ok (.ifCond .ne 5, 3) := by decide +kernel
theorem dX7_holds_17 : decode cX7_holds 17 = .ok (.iconst (-1), 1) := by decide +kernel
theorem dX7_holds_18 : decode cX7_holds 18 = .ok (.ireturn, 1) := by decide +kernel
theorem dX7_holds_19 : decode cX7_holds 19 = .ok (.aload_n 0, 1) := by decide +kernel
theorem dX7_holds_20 : decode cX7_holds 20 = .ok (.getfield 50, 3) := by decide +kernel
theorem dX7_holds_23 : decode cX7_holds 23 = .ok (.iload_n 1, 1) := by decide +kernel
theorem dX7_holds_24 : decode cX7_holds 24 = .ok (.iaload, 1) := by decide +kernel
theorem dX7_holds_25 : decode cX7_holds 25 = .ok (.iconst 1, 1) := by decide +kernel
theorem dX7_holds_26 : decode cX7_holds 26 = .ok (.if_icmp .ne 15, 3) := by decide +kernel
theorem dX7_holds_29 : decode cX7_holds 29 = .ok (.bipush 100, 2) := by decide +kernel
theorem dX7_holds_31 : decode cX7_holds 31 = .ok (.aload_n 0, 1) := by decide +kernel
theorem dX7_holds_32 : decode cX7_holds 32 = .ok (.getfield 53, 3) := by decide +kernel
theorem dX7_holds_35 : decode cX7_holds 35 = .ok (.iload_n 1, 1) := by decide +kernel
theorem dX7_holds_36 : decode cX7_holds 36 = .ok (.iaload, 1) := by decide +kernel
theorem dX7_holds_37 : decode cX7_holds 37 = .ok (.iadd, 1) := by decide +kernel
theorem dX7_holds_38 : decode cX7_holds 38 = .ok (.goto 9, 3) := by decide +kernel
theorem dX7_holds_41 : decode cX7_holds 41 = .ok (.aload_n 0, 1) := by decide +kernel
theorem dX7_holds_42 : decode cX7_holds 42 = .ok (.getfield 59, 3) := by decide +kernel
theorem dX7_holds_45 : decode cX7_holds 45 = .ok (.iload_n 1, 1) := by decide +kernel
theorem dX7_holds_46 : decode cX7_holds 46 = .ok (.iaload, 1) := by decide +kernel
theorem dX7_holds_47 : decode cX7_holds 47 = .ok (.ireturn, 1) := by decide +kernel
abbrev k_X7_holds : zK := (cX7_holds, 2, RX7, (some .int), ({ frames := 1, cells := 0, slots := 0, locals := 21 } : Room))
theorem zc_X7_holds : zcal yX7_holds k_X7_holds.1 k_X7_holds.2.1 k_X7_holds.2.2.2.1 1 := ⟨tw_code_yX7_holds, tw_i_TollForHesitatorsModel, ⟨by decide +kernel, by decide +kernel⟩, by decide +kernel⟩
theorem zv_X7_holds : Cond.instanceMethod yX7_holds ∈ TS ∧ Cond.selects RX7 yX7_holds yX7_holds ∈ TS := ⟨tw_inst_yX7_holds, tw_s_yX7_holds⟩
def v_X7_holds (M : mT) (x1 : Int32) : Int32 := if (v_X7_isShelf M x1) = 0 then (-1) else if ((M.2.1 16) x1.toNatClampNeg) = 0 then (-1) else (if ((M.2.1 16) x1.toNatClampNeg) = 1 then 100 + ((M.2.1 17) x1.toNatClampNeg) else (M.2.1 19) x1.toNatClampNeg)
def p_X7_holds (M : mT) (x1 : Int32) : Prop := if (v_X7_isShelf M x1) = 0 then True else vp_in x1 8 ∧ (if ((M.2.1 16) x1.toNatClampNeg) = 0 then True else vp_in x1 8 ∧ (if ((M.2.1 16) x1.toNatClampNeg) = 1 then vp_in x1 8 else vp_in x1 8))
set_option maxHeartbeats 4000000 in
theorem c_X7_holds {l : Launch} (G : zG) (a : Nat → Nat) (M : mT) (x1 : Int32) (hp : p_X7_holds M x1) : Met l yX7_holds (.code yX7_holds k_X7_holds.1 k_X7_holds.2.1 k_X7_holds.2.2.2.1 :: TS) k_X7_holds.2.2.2.2 (Pz G [.ref (a 0), .int x1] (va_P G.2.1 CL (mW G a M))) (vp_Si (fun r => r = v_X7_holds M x1)) 0 0 (fun _ => False) := by
  refine zmet (by decide +kernel) rfl rfl (fun Γ hl0 hQ hN hF => ?_)
  have hI := rd_P (G := G) hF
  obtain ⟨res, hv⟩ : ∃ res, v_X7_holds M x1 = res := ⟨_, rfl⟩
  rw [hv] at hQ
  unfold v_X7_holds at hv
  unfold p_X7_holds at hp
  show Z k_X7_holds G Γ _ 0 0 [(0, .ref (a 0)), (1, .int x1)] 0 []
  refine z_aload_n dX7_holds_0 rfl ?_
  refine z_iload_n dX7_holds_1 rfl ?_
  refine z_cvi (c_X7_isShelf G a M x1 ) zc_X7_isShelf zv_X7_isShelf tw_m_RX7_102 (mrec hI) hI (zroom_of rfl) rfl (Nat.le_of_ble_eq_true rfl) dX7_holds_2 ?_
  refine z_if_eq (tgt := 17) dX7_holds_5 (by decide) (fun c1 => ?_) (fun c1 => ?_)
  · have hp := ip_t hp c1; have hv := it_t hv c1
    refine z_iconst (v := (-1)) dX7_holds_17 rfl ?_
    exact z_iret_S hQ rfl hv dX7_holds_18
  · have hp := ip_f hp c1; have hv := it_f hv c1
    refine z_aload_n dX7_holds_8 rfl ?_
    refine mg_16 hI rfl dX7_holds_9 ?_
    refine z_iload_n dX7_holds_12 rfl ?_
    obtain ⟨q2, hp⟩ := hp
    refine ml_16 (x := (M.2.1 16) x1.toNatClampNeg) hI q2 rfl dX7_holds_13 ?_
    refine z_if_ne (tgt := 19) dX7_holds_14 (by decide) (fun c3 => ?_) (fun c3 => ?_)
    · have hp := ip_f hp c3; have hv := it_f hv c3
      refine z_aload_n dX7_holds_19 rfl ?_
      refine mg_16 hI rfl dX7_holds_20 ?_
      refine z_iload_n dX7_holds_23 rfl ?_
      obtain ⟨q4, hp⟩ := hp
      refine ml_16 (x := (M.2.1 16) x1.toNatClampNeg) hI q4 rfl dX7_holds_24 ?_
      refine z_iconst (v := 1) dX7_holds_25 rfl ?_
      have hpm := hp
      have J9 : ∀ m8 : Int32, m8 = (if ((M.2.1 16) x1.toNatClampNeg) = 1 then 100 + ((M.2.1 17) x1.toNatClampNeg) else (M.2.1 19) x1.toNatClampNeg) → Z k_X7_holds G Γ (rd Γ.2.2.1.1.heap) 0 0 [(0, .ref (a 0)), (1, .int x1)] 47 [.int m8] := by
        intro m8 em8
        rewrite [em8]; clear em8
        exact z_iret_S hQ rfl hv dX7_holds_47
      refine z_icmp_ne (tgt := 41) dX7_holds_26 (by decide) (fun c5 => ?_) (fun c5 => ?_)
      · have hp := ip_f hpm c5
        refine z_aload_n dX7_holds_41 rfl ?_
        refine mg_19 hI rfl dX7_holds_42 ?_
        refine z_iload_n dX7_holds_45 rfl ?_
        have q6 := hp
        refine ml_19 (x := (M.2.1 19) x1.toNatClampNeg) hI q6 rfl dX7_holds_46 ?_
        exact z_lv rfl (J9 _ (if_neg c5).symm)
      · have hp := ip_t hpm c5
        refine z_bipush (v := 100) dX7_holds_29 rfl ?_
        refine z_aload_n dX7_holds_31 rfl ?_
        refine mg_17 hI rfl dX7_holds_32 ?_
        refine z_iload_n dX7_holds_35 rfl ?_
        have q7 := hp
        refine ml_17 (x := (M.2.1 17) x1.toNatClampNeg) hI q7 rfl dX7_holds_36 ?_
        refine z_iadd dX7_holds_37 ?_
        refine z_goto (tgt := 47) dX7_holds_38 (by decide) ?_
        exact z_lv rfl (J9 _ (if_pos c5).symm)
    · have hp := ip_t hp c3; have hv := it_t hv c3
      refine z_iconst (v := (-1)) dX7_holds_17 rfl ?_
      exact z_iret_S hQ rfl hv dX7_holds_18
theorem dX7_step_0 : decode cX7_step 0 = .ok (.aload_n 0, 1) := by decide +kernel
theorem dX7_step_1 : decode cX7_step 1 = .ok (.getfield 29, 3) := by decide +kernel
theorem dX7_step_4 : decode cX7_step 4 = .ok (.iload_n 1, 1) := by decide +kernel
theorem dX7_step_5 : decode cX7_step 5 = .ok (.iaload, 1) := by decide +kernel
theorem dX7_step_6 : decode cX7_step 6 = .ok (.tableswitch 58 1 6 #[38, 58, 58, 47, 49, 40], 38) := by decide +kernel
theorem dX7_step_44 : decode cX7_step 44 = .ok (.iconst 0, 1) := by decide +kernel
theorem dX7_step_45 : decode cX7_step 45 = .ok (.ireturn, 1) := by decide +kernel
theorem dX7_step_46 : decode cX7_step 46 = .ok (.aload_n 0, 1) := by decide +kernel
theorem dX7_step_47 : decode cX7_step 47 = .ok (.getfield 32, 3) := by decide +kernel
theorem dX7_step_50 : decode cX7_step 50 = .ok (.iload_n 1, 1) := by decide +kernel
theorem dX7_step_51 : decode cX7_step 51 = .ok (.iaload, 1) := by decide +kernel
theorem dX7_step_52 : decode cX7_step 52 = .ok (.ireturn, 1) := by decide +kernel
theorem dX7_step_53 : decode cX7_step 53 = .ok (.iconst 2, 1) := by decide +kernel
theorem dX7_step_54 : decode cX7_step 54 = .ok (.ireturn, 1) := by decide +kernel
theorem dX7_step_55 : decode cX7_step 55 = .ok (.iconst 2, 1) := by decide +kernel
theorem dX7_step_56 : decode cX7_step 56 = .ok (.aload_n 0, 1) := by decide +kernel
theorem dX7_step_57 : decode cX7_step 57 = .ok (.getfield 32, 3) := by decide +kernel
theorem dX7_step_60 : decode cX7_step 60 = .ok (.iload_n 1, 1) := by decide +kernel
theorem dX7_step_61 : decode cX7_step 61 = .ok (.iaload, 1) := by decide +kernel
theorem dX7_step_62 : decode cX7_step 62 = .ok (.iadd, 1) := by decide +kernel
theorem dX7_step_63 : decode cX7_step 63 = .ok (.ireturn, 1) := by decide +kernel
theorem dX7_step_64 : decode cX7_step 64 = .ok (.iconst 1, 1) := by decide +kernel
theorem dX7_step_65 : decode cX7_step 65 = .ok (.ireturn, 1) := by decide +kernel
abbrev k_X7_step : zK := (cX7_step, 2, RX7, (some .int), ({ frames := 0, cells := 0, slots := 0, locals := 0 } : Room))
theorem zc_X7_step : zcal yX7_step k_X7_step.1 k_X7_step.2.1 k_X7_step.2.2.2.1 1 := ⟨tw_code_yX7_step, tw_i_TollForHesitatorsModel, ⟨by decide +kernel, by decide +kernel⟩, by decide +kernel⟩
theorem zv_X7_step : Cond.instanceMethod yX7_step ∈ TS ∧ Cond.selects RX7 yX7_step yX7_step ∈ TS := ⟨tw_inst_yX7_step, tw_s_yX7_step⟩
def v_X7_step (M : mT) (x1 : Int32) : Int32 := if ((M.2.1 9) x1.toNatClampNeg) = 1 then 0 else if ((M.2.1 9) x1.toNatClampNeg) = 4 then 2 else if ((M.2.1 9) x1.toNatClampNeg) = 5 then 2 + ((M.2.1 10) x1.toNatClampNeg) else if ((M.2.1 9) x1.toNatClampNeg) = 6 then (M.2.1 10) x1.toNatClampNeg else if ((M.2.1 9) x1.toNatClampNeg) = 2 then 1 else if ((M.2.1 9) x1.toNatClampNeg) = 3 then 1 else 1
def p_X7_step (M : mT) (x1 : Int32) : Prop := vp_in x1 7 ∧ (if ((M.2.1 9) x1.toNatClampNeg) = 1 then True else if ((M.2.1 9) x1.toNatClampNeg) = 4 then True else if ((M.2.1 9) x1.toNatClampNeg) = 5 then vp_in x1 7 else if ((M.2.1 9) x1.toNatClampNeg) = 6 then vp_in x1 7 else if ((M.2.1 9) x1.toNatClampNeg) = 2 then True else if ((M.2.1 9) x1.toNatClampNeg) = 3 then True else True)
set_option maxHeartbeats 4000000 in
theorem c_X7_step {l : Launch} (G : zG) (a : Nat → Nat) (M : mT) (x1 : Int32) (hp : p_X7_step M x1) : Met l yX7_step (.code yX7_step k_X7_step.1 k_X7_step.2.1 k_X7_step.2.2.2.1 :: TS) k_X7_step.2.2.2.2 (Pz G [.ref (a 0), .int x1] (va_P G.2.1 CL (mW G a M))) (vp_Si (fun r => r = v_X7_step M x1)) 0 0 (fun _ => False) := by
  refine zmet (by decide +kernel) rfl rfl (fun Γ hl0 hQ hN hF => ?_)
  have hI := rd_P (G := G) hF
  obtain ⟨res, hv⟩ : ∃ res, v_X7_step M x1 = res := ⟨_, rfl⟩
  rw [hv] at hQ
  unfold v_X7_step at hv
  unfold p_X7_step at hp
  show Z k_X7_step G Γ _ 0 0 [(0, .ref (a 0)), (1, .int x1)] 0 []
  refine z_aload_n dX7_step_0 rfl ?_
  refine mg_9 hI rfl dX7_step_1 ?_
  refine z_iload_n dX7_step_4 rfl ?_
  obtain ⟨q1, hp⟩ := hp
  refine ml_9 (x := (M.2.1 9) x1.toNatClampNeg) hI q1 rfl dX7_step_5 ?_
  by_cases c2 : ((M.2.1 9) x1.toNatClampNeg) = 1
  · have hp := ip_t hp c2; have hv := it_t hv c2
    refine z_tableIn (tgt := 44) dX7_step_6 1 c2 (by decide) (by decide) rfl (by decide) ?_
    refine z_iconst (v := 0) dX7_step_44 rfl ?_
    exact z_iret_S hQ rfl hv dX7_step_45
  have hp := ip_f hp c2
  have hv := it_f hv c2
  by_cases c3 : ((M.2.1 9) x1.toNatClampNeg) = 4
  · have hp := ip_t hp c3; have hv := it_t hv c3
    refine z_tableIn (tgt := 53) dX7_step_6 4 c3 (by decide) (by decide) rfl (by decide) ?_
    refine z_iconst (v := 2) dX7_step_53 rfl ?_
    exact z_iret_S hQ rfl hv dX7_step_54
  have hp := ip_f hp c3
  have hv := it_f hv c3
  by_cases c5 : ((M.2.1 9) x1.toNatClampNeg) = 5
  · have hp := ip_t hp c5; have hv := it_t hv c5
    refine z_tableIn (tgt := 55) dX7_step_6 5 c5 (by decide) (by decide) rfl (by decide) ?_
    refine z_iconst (v := 2) dX7_step_55 rfl ?_
    refine z_aload_n dX7_step_56 rfl ?_
    refine mg_10 hI rfl dX7_step_57 ?_
    refine z_iload_n dX7_step_60 rfl ?_
    have q4 := hp
    refine ml_10 (x := (M.2.1 10) x1.toNatClampNeg) hI q4 rfl dX7_step_61 ?_
    refine z_iadd dX7_step_62 ?_
    exact z_iret_S hQ rfl hv dX7_step_63
  have hp := ip_f hp c5
  have hv := it_f hv c5
  by_cases c7 : ((M.2.1 9) x1.toNatClampNeg) = 6
  · have hp := ip_t hp c7; have hv := it_t hv c7
    refine z_tableIn (tgt := 46) dX7_step_6 6 c7 (by decide) (by decide) rfl (by decide) ?_
    refine z_aload_n dX7_step_46 rfl ?_
    refine mg_10 hI rfl dX7_step_47 ?_
    refine z_iload_n dX7_step_50 rfl ?_
    have q6 := hp
    refine ml_10 (x := (M.2.1 10) x1.toNatClampNeg) hI q6 rfl dX7_step_51 ?_
    exact z_iret_S hQ rfl hv dX7_step_52
  have hp := ip_f hp c7
  have hv := it_f hv c7
  by_cases c8 : ((M.2.1 9) x1.toNatClampNeg) = 2
  · have hp := ip_t hp c8; have hv := it_t hv c8
    refine z_tableIn (tgt := 64) dX7_step_6 2 c8 (by decide) (by decide) rfl (by decide) ?_
    refine z_iconst (v := 1) dX7_step_64 rfl ?_
    exact z_iret_S hQ rfl hv dX7_step_65
  have hp := ip_f hp c8
  have hv := it_f hv c8
  by_cases c9 : ((M.2.1 9) x1.toNatClampNeg) = 3
  · have hp := ip_t hp c9; have hv := it_t hv c9
    refine z_tableIn (tgt := 64) dX7_step_6 3 c9 (by decide) (by decide) rfl (by decide) ?_
    refine z_iconst (v := 1) dX7_step_64 rfl ?_
    exact z_iret_S hQ rfl hv dX7_step_65
  have hp := ip_f hp c9
  have hv := it_f hv c9
  refine z_tableOut (tgt := 64) dX7_step_6 (zout6_1 c2 c8 c9 c3 c5 c7) (by decide) ?_
  refine z_iconst (v := 1) dX7_step_64 rfl ?_
  exact z_iret_S hQ rfl hv dX7_step_65
theorem dX7_says_0 : decode cX7_says 0 = .ok (.aload_n 0, 1) := by decide +kernel
theorem dX7_says_1 : decode cX7_says 1 = .ok (.iload_n 1, 1) := by decide +kernel
theorem dX7_says_2 : decode cX7_says 2 = .ok (.invokevirtual 102, 3) := by decide +kernel
theorem dX7_says_5 : decode cX7_says 5 = .ok (.ifCond .eq 13, 3) := by decide +kernel
theorem dX7_says_8 : decode cX7_says 8 = .ok (.iload_n 2, 1) := by decide +kernel
theorem dX7_says_9 : decode cX7_says 9 = .ok (.ifCond .lt 9, 3) := by decide +kernel
theorem dX7_says_12 : decode cX7_says 12 = .ok (.iload_n 2, 1) := by decide +kernel
theorem dX7_says_13 : decode cX7_says 13 = .ok (.bipush 6, 2) := by decide +kernel
theorem dX7_says_15 : decode cX7_says 15 = .ok (.if_icmp .le 9, 3) := by decide +kernel
theorem dX7_says_18 : decode cX7_says 18 = .ok (.aload_n 0, 1) := by decide +kernel
theorem dX7_says_19 : decode cX7_says 19 = .ok (.iconst (-1), 1) := by decide +kernel
theorem dX7_says_20 : decode cX7_says 20 = .ok (.invokevirtual 106, 3) := by decide +kernel
theorem dX7_says_23 : decode cX7_says 23 = .ok (.ireturn, 1) := by decide +kernel
theorem dX7_says_24 : decode cX7_says 24 = .ok (.aload_n 0, 1) := by decide +kernel
theorem dX7_says_25 : decode cX7_says 25 = .ok (.getfield 50, 3) := by decide +kernel
theorem dX7_says_28 : decode cX7_says 28 = .ok (.iload_n 1, 1) := by decide +kernel
theorem dX7_says_29 : decode cX7_says 29 = .ok (.iaload, 1) := by decide +kernel
theorem dX7_says_30 : decode cX7_says 30 = .ok (.iconst 1, 1) := by decide +kernel
theorem dX7_says_31 : decode cX7_says 31 = .ok (.if_icmp .ne 10, 3) := by decide +kernel
theorem dX7_says_34 : decode cX7_says 34 = .ok (.aload_n 0, 1) := by decide +kernel
theorem dX7_says_35 : decode cX7_says 35 = .ok (.bipush (-2), 2) := by decide +kernel
theorem dX7_says_37 : decode cX7_says 37 = .ok (.invokevirtual 106, 3) := by decide +kernel
theorem dX7_says_40 : decode cX7_says 40 = .ok (.ireturn, 1) := by decide +kernel
theorem dX7_says_41 : decode cX7_says 41 = .ok (.aload_n 0, 1) := by decide +kernel
theorem dX7_says_42 : decode cX7_says 42 = .ok (.getfield 50, 3) := by decide +kernel
theorem dX7_says_45 : decode cX7_says 45 = .ok (.iload_n 1, 1) := by decide +kernel
theorem dX7_says_46 : decode cX7_says 46 = .ok (.iaload, 1) := by decide +kernel
theorem dX7_says_47 : decode cX7_says 47 = .ok (.ifCond .ne 10, 3) := by decide +kernel
theorem dX7_says_50 : decode cX7_says 50 = .ok (.aload_n 0, 1) := by decide +kernel
theorem dX7_says_51 : decode cX7_says 51 = .ok (.bipush (-3), 2) := by decide +kernel
theorem dX7_says_53 : decode cX7_says 53 = .ok (.invokevirtual 106, 3) := by decide +kernel
theorem dX7_says_56 : decode cX7_says 56 = .ok (.ireturn, 1) := by decide +kernel
theorem dX7_says_57 : decode cX7_says 57 = .ok (.aload_n 0, 1) := by decide +kernel
theorem dX7_says_58 : decode cX7_says 58 = .ok (.getfield 59, 3) := by decide +kernel
theorem dX7_says_61 : decode cX7_says 61 = .ok (.iload_n 1, 1) := by decide +kernel
theorem dX7_says_62 : decode cX7_says 62 = .ok (.iaload, 1) := by decide +kernel
theorem dX7_says_63 : decode cX7_says 63 = .ok (.istore_n 3, 1) := by decide +kernel
theorem dX7_says_64 : decode cX7_says 64 = .ok (.aload_n 0, 1) := by decide +kernel
theorem dX7_says_65 : decode cX7_says 65 = .ok (.getfield 29, 3) := by decide +kernel
theorem dX7_says_68 : decode cX7_says 68 = .ok (.iload_n 3, 1) := by decide +kernel
theorem dX7_says_69 : decode cX7_says 69 = .ok (.iaload, 1) := by decide +kernel
theorem dX7_says_70 : decode cX7_says 70 = .ok (.istore 4, 2) := by decide +kernel
theorem dX7_says_72 : decode cX7_says 72 = .ok (.iload_n 2, 1) := by decide +kernel
theorem dX7_says_73 : decode cX7_says 73 = .ok (.iconst 1, 1) := by decide +kernel
theorem dX7_says_74 : decode cX7_says 74 = .ok (.if_icmp .ne 10, 3) := by decide +kernel
theorem dX7_says_77 : decode cX7_says 77 = .ok (.iload 4, 2) := by decide +kernel
theorem dX7_says_79 : decode cX7_says 79 = .ok (.bipush 6, 2) := by decide +kernel
theorem dX7_says_81 : decode cX7_says 81 = .ok (.if_icmp .eq 25, 3) := by decide +kernel
theorem dX7_says_84 : decode cX7_says 84 = .ok (.iload_n 2, 1) := by decide +kernel
theorem dX7_says_85 : decode cX7_says 85 = .ok (.iconst 2, 1) := by decide +kernel
theorem dX7_says_86 : decode cX7_says 86 = .ok (.if_icmp .ne 9, 3) := by decide +kernel
theorem dX7_says_89 : decode cX7_says 89 = .ok (.iload 4, 2) := by decide +kernel
theorem dX7_says_91 : decode cX7_says 91 = .ok (.iconst 3, 1) := by decide +kernel
theorem dX7_says_92 : decode cX7_says 92 = .ok (.if_icmp .eq 14, 3) := by decide +kernel
theorem dX7_says_95 : decode cX7_says 95 = .ok (.iload_n 2, 1) := by decide +kernel
theorem dX7_says_96 : decode cX7_says 96 = .ok (.iconst 4, 1) := by decide +kernel
theorem dX7_says_97 : decode cX7_says 97 = .ok (.if_icmp .ne 13, 3) := by decide +kernel
theorem dX7_says_100 : decode cX7_says 100 = .ok (.iload 4, 2) := by decide +kernel
theorem dX7_says_102 : decode cX7_says 102 = .ok (.iconst 5, 1) := by decide +kernel
theorem dX7_says_103 : decode cX7_says 103 = .ok (.if_icmp .ne 7, 3) := by decide +kernel
theorem dX7_says_106 : decode cX7_says 106 = .ok (.iconst 1, 1) := by decide +kernel
theorem dX7_says_107 : decode cX7_says 107 = .ok (.goto 4, 3) := by decide +kernel
theorem dX7_says_110 : decode cX7_says 110 = .ok (.iconst 0, 1) := by decide +kernel
theorem dX7_says_111 : decode cX7_says 111 = .ok (.istore 5, 2) := by decide +kernel
theorem dX7_says_113 : decode cX7_says 113 = .ok (.iload_n 2, 1) := by decide +kernel
theorem dX7_says_114 : decode cX7_says 114 = .ok (.ifCond .eq 21, 3) := by decide +kernel
theorem dX7_says_117 : decode cX7_says 117 = .ok (.iload_n 2, 1) := by decide +kernel
theorem dX7_says_118 : decode cX7_says 118 = .ok (.iload 4, 2) := by decide +kernel
theorem dX7_says_120 : decode cX7_says 120 = .ok (.if_icmp .eq 15, 3) := by decide +kernel
theorem dX7_says_123 : decode cX7_says 123 = .ok (.iload 5, 2) := by decide +kernel
theorem dX7_says_125 : decode cX7_says 125 = .ok (.ifCond .ne 10, 3) := by decide +kernel
theorem dX7_says_128 : decode cX7_says 128 = .ok (.aload_n 0, 1) := by decide +kernel
theorem dX7_says_129 : decode cX7_says 129 = .ok (.bipush (-2), 2) := by decide +kernel
theorem dX7_says_131 : decode cX7_says 131 = .ok (.invokevirtual 106, 3) := by decide +kernel
theorem dX7_says_134 : decode cX7_says 134 = .ok (.ireturn, 1) := by decide +kernel
theorem dX7_says_135 : decode cX7_says 135 = .ok (.iload_n 2, 1) := by decide +kernel
theorem dX7_says_136 : decode cX7_says 136 = .ok (.tableswitch 60 1 6 #[40, 47, 47, 54, 54, 40], 40) := by decide +kernel
theorem dX7_says_176 : decode cX7_says 176 = .ok (.aload_n 0, 1) := by decide +kernel
theorem dX7_says_177 : decode cX7_says 177 = .ok (.getfield 41, 3) := by decide +kernel
theorem dX7_says_180 : decode cX7_says 180 = .ok (.iload_n 3, 1) := by decide +kernel
theorem dX7_says_181 : decode cX7_says 181 = .ok (.iaload, 1) := by decide +kernel
theorem dX7_says_182 : decode cX7_says 182 = .ok (.ireturn, 1) := by decide +kernel
theorem dX7_says_183 : decode cX7_says 183 = .ok (.aload_n 0, 1) := by decide +kernel
theorem dX7_says_184 : decode cX7_says 184 = .ok (.getfield 38, 3) := by decide +kernel
theorem dX7_says_187 : decode cX7_says 187 = .ok (.iload_n 3, 1) := by decide +kernel
theorem dX7_says_188 : decode cX7_says 188 = .ok (.iaload, 1) := by decide +kernel
theorem dX7_says_189 : decode cX7_says 189 = .ok (.ireturn, 1) := by decide +kernel
theorem dX7_says_190 : decode cX7_says 190 = .ok (.aload_n 0, 1) := by decide +kernel
theorem dX7_says_191 : decode cX7_says 191 = .ok (.iload_n 3, 1) := by decide +kernel
theorem dX7_says_192 : decode cX7_says 192 = .ok (.invokevirtual 113, 3) := by decide +kernel
theorem dX7_says_195 : decode cX7_says 195 = .ok (.ireturn, 1) := by decide +kernel
theorem dX7_says_196 : decode cX7_says 196 = .ok (.aload_n 0, 1) := by decide +kernel
theorem dX7_says_197 : decode cX7_says 197 = .ok (.getfield 35, 3) := by decide +kernel
theorem dX7_says_200 : decode cX7_says 200 = .ok (.iload_n 3, 1) := by decide +kernel
theorem dX7_says_201 : decode cX7_says 201 = .ok (.iaload, 1) := by decide +kernel
theorem dX7_says_202 : decode cX7_says 202 = .ok (.ireturn, 1) := by decide +kernel
abbrev k_X7_says : zK := (cX7_says, 6, RX7, (some .int), ({ frames := 1, cells := 0, slots := 0, locals := 21 } : Room))
theorem zc_X7_says : zcal yX7_says k_X7_says.1 k_X7_says.2.1 k_X7_says.2.2.2.1 2 := ⟨tw_code_yX7_says, tw_i_TollForHesitatorsModel, ⟨by decide +kernel, by decide +kernel⟩, by decide +kernel⟩
theorem zv_X7_says : Cond.instanceMethod yX7_says ∈ TS ∧ Cond.selects RX7 yX7_says yX7_says ∈ TS := ⟨tw_inst_yX7_says, tw_s_yX7_says⟩
def v_X7_says (M : mT) (x1 : Int32) (x2 : Int32) : Int32 × mT := if (v_X7_isShelf M x1) = 0 then kk (v_X7_no M (-1)) (fun q3 : Int32 × mT => (q3.1, q3.2)) else if x2 < 0 then kk (v_X7_no M (-1)) (fun q6 : Int32 × mT => (q6.1, q6.2)) else if x2 ≤ 6 then if ((M.2.1 16) x1.toNatClampNeg) = 1 then kk (v_X7_no M (-2)) (fun q89 : Int32 × mT => (q89.1, q89.2)) else if ((M.2.1 16) x1.toNatClampNeg) = 0 then kk (v_X7_no M (-3)) (fun q87 : Int32 × mT => (q87.1, q87.2)) else kk (if x2 = 1 then (if ((M.2.1 9) ((M.2.1 19) x1.toNatClampNeg).toNatClampNeg) = 6 then 1 else (if x2 = 2 then (if ((M.2.1 9) ((M.2.1 19) x1.toNatClampNeg).toNatClampNeg) = 3 then 1 else (if x2 = 4 then (if ((M.2.1 9) ((M.2.1 19) x1.toNatClampNeg).toNatClampNeg) = 5 then 1 else 0) else 0)) else (if x2 = 4 then (if ((M.2.1 9) ((M.2.1 19) x1.toNatClampNeg).toNatClampNeg) = 5 then 1 else 0) else 0))) else (if x2 = 2 then (if ((M.2.1 9) ((M.2.1 19) x1.toNatClampNeg).toNatClampNeg) = 3 then 1 else (if x2 = 4 then (if ((M.2.1 9) ((M.2.1 19) x1.toNatClampNeg).toNatClampNeg) = 5 then 1 else 0) else 0)) else (if x2 = 4 then (if ((M.2.1 9) ((M.2.1 19) x1.toNatClampNeg).toNatClampNeg) = 5 then 1 else 0) else 0))) (fun m41 : Int32 => if x2 = 0 then if x2 = 1 then ((M.2.1 13) ((M.2.1 19) x1.toNatClampNeg).toNatClampNeg, M) else if x2 = 2 then ((M.2.1 12) ((M.2.1 19) x1.toNatClampNeg).toNatClampNeg, M) else if x2 = 3 then ((M.2.1 12) ((M.2.1 19) x1.toNatClampNeg).toNatClampNeg, M) else if x2 = 4 then ((v_X7_step M ((M.2.1 19) x1.toNatClampNeg)), M) else if x2 = 5 then ((v_X7_step M ((M.2.1 19) x1.toNatClampNeg)), M) else if x2 = 6 then ((M.2.1 13) ((M.2.1 19) x1.toNatClampNeg).toNatClampNeg, M) else ((M.2.1 11) ((M.2.1 19) x1.toNatClampNeg).toNatClampNeg, M) else if x2 = ((M.2.1 9) ((M.2.1 19) x1.toNatClampNeg).toNatClampNeg) then if x2 = 1 then ((M.2.1 13) ((M.2.1 19) x1.toNatClampNeg).toNatClampNeg, M) else if x2 = 2 then ((M.2.1 12) ((M.2.1 19) x1.toNatClampNeg).toNatClampNeg, M) else if x2 = 3 then ((M.2.1 12) ((M.2.1 19) x1.toNatClampNeg).toNatClampNeg, M) else if x2 = 4 then ((v_X7_step M ((M.2.1 19) x1.toNatClampNeg)), M) else if x2 = 5 then ((v_X7_step M ((M.2.1 19) x1.toNatClampNeg)), M) else if x2 = 6 then ((M.2.1 13) ((M.2.1 19) x1.toNatClampNeg).toNatClampNeg, M) else ((M.2.1 11) ((M.2.1 19) x1.toNatClampNeg).toNatClampNeg, M) else if m41 = 0 then kk (v_X7_no M (-2)) (fun q85 : Int32 × mT => (q85.1, q85.2)) else if x2 = 1 then ((M.2.1 13) ((M.2.1 19) x1.toNatClampNeg).toNatClampNeg, M) else if x2 = 2 then ((M.2.1 12) ((M.2.1 19) x1.toNatClampNeg).toNatClampNeg, M) else if x2 = 3 then ((M.2.1 12) ((M.2.1 19) x1.toNatClampNeg).toNatClampNeg, M) else if x2 = 4 then ((v_X7_step M ((M.2.1 19) x1.toNatClampNeg)), M) else if x2 = 5 then ((v_X7_step M ((M.2.1 19) x1.toNatClampNeg)), M) else if x2 = 6 then ((M.2.1 13) ((M.2.1 19) x1.toNatClampNeg).toNatClampNeg, M) else ((M.2.1 11) ((M.2.1 19) x1.toNatClampNeg).toNatClampNeg, M)) else kk (v_X7_no M (-1)) (fun q91 : Int32 × mT => (q91.1, q91.2))
def p_X7_says (M : mT) (x1 : Int32) (x2 : Int32) : Prop := if (v_X7_isShelf M x1) = 0 then p_X7_no M (-1) else if x2 < 0 then p_X7_no M (-1) else if x2 ≤ 6 then vp_in x1 8 ∧ (if ((M.2.1 16) x1.toNatClampNeg) = 1 then p_X7_no M (-2) else vp_in x1 8 ∧ (if ((M.2.1 16) x1.toNatClampNeg) = 0 then p_X7_no M (-3) else vp_in x1 8 ∧ ((vp_in ((M.2.1 19) x1.toNatClampNeg) 7) ∧ (kk (if x2 = 1 then (if ((M.2.1 9) ((M.2.1 19) x1.toNatClampNeg).toNatClampNeg) = 6 then 1 else (if x2 = 2 then (if ((M.2.1 9) ((M.2.1 19) x1.toNatClampNeg).toNatClampNeg) = 3 then 1 else (if x2 = 4 then (if ((M.2.1 9) ((M.2.1 19) x1.toNatClampNeg).toNatClampNeg) = 5 then 1 else 0) else 0)) else (if x2 = 4 then (if ((M.2.1 9) ((M.2.1 19) x1.toNatClampNeg).toNatClampNeg) = 5 then 1 else 0) else 0))) else (if x2 = 2 then (if ((M.2.1 9) ((M.2.1 19) x1.toNatClampNeg).toNatClampNeg) = 3 then 1 else (if x2 = 4 then (if ((M.2.1 9) ((M.2.1 19) x1.toNatClampNeg).toNatClampNeg) = 5 then 1 else 0) else 0)) else (if x2 = 4 then (if ((M.2.1 9) ((M.2.1 19) x1.toNatClampNeg).toNatClampNeg) = 5 then 1 else 0) else 0))) (fun m41 : Int32 => if x2 = 0 then if x2 = 1 then vp_in ((M.2.1 19) x1.toNatClampNeg) 7 else if x2 = 2 then vp_in ((M.2.1 19) x1.toNatClampNeg) 7 else if x2 = 3 then vp_in ((M.2.1 19) x1.toNatClampNeg) 7 else if x2 = 4 then p_X7_step M ((M.2.1 19) x1.toNatClampNeg) else if x2 = 5 then p_X7_step M ((M.2.1 19) x1.toNatClampNeg) else if x2 = 6 then vp_in ((M.2.1 19) x1.toNatClampNeg) 7 else vp_in ((M.2.1 19) x1.toNatClampNeg) 7 else if x2 = ((M.2.1 9) ((M.2.1 19) x1.toNatClampNeg).toNatClampNeg) then if x2 = 1 then vp_in ((M.2.1 19) x1.toNatClampNeg) 7 else if x2 = 2 then vp_in ((M.2.1 19) x1.toNatClampNeg) 7 else if x2 = 3 then vp_in ((M.2.1 19) x1.toNatClampNeg) 7 else if x2 = 4 then p_X7_step M ((M.2.1 19) x1.toNatClampNeg) else if x2 = 5 then p_X7_step M ((M.2.1 19) x1.toNatClampNeg) else if x2 = 6 then vp_in ((M.2.1 19) x1.toNatClampNeg) 7 else vp_in ((M.2.1 19) x1.toNatClampNeg) 7 else if m41 = 0 then p_X7_no M (-2) else if x2 = 1 then vp_in ((M.2.1 19) x1.toNatClampNeg) 7 else if x2 = 2 then vp_in ((M.2.1 19) x1.toNatClampNeg) 7 else if x2 = 3 then vp_in ((M.2.1 19) x1.toNatClampNeg) 7 else if x2 = 4 then p_X7_step M ((M.2.1 19) x1.toNatClampNeg) else if x2 = 5 then p_X7_step M ((M.2.1 19) x1.toNatClampNeg) else if x2 = 6 then vp_in ((M.2.1 19) x1.toNatClampNeg) 7 else vp_in ((M.2.1 19) x1.toNatClampNeg) 7))))) else p_X7_no M (-1)
set_option maxHeartbeats 4000000 in
theorem c_X7_says {l : Launch} (G : zG) (a : Nat → Nat) {X : zX} (hX : XOK X) (sz : Nat) (M : mT) (x1 : Int32) (x2 : Int32) (hp : p_X7_says M x1 x2) : Met l yX7_says (.code yX7_says k_X7_says.1 k_X7_says.2.1 k_X7_says.2.2.2.1 :: TS) k_X7_says.2.2.2.2 (Pz G [.ref (a 0), .int x1, .int x2] (Fw G X (mW G a M) sz)) (Qwi G (fun r w => r = (v_X7_says M x1 x2).1 ∧ w = mW G a (v_X7_says M x1 x2).2) (va_A (mW G a M) sz)) 0 0 (va_A (mW G a M) sz) := by
  refine zmet (by decide +kernel) rfl rfl (fun Γ hl0 hQ hN hF => ?_)
  refine z_start hX hF (fun hw => ?_)
  generalize va_A (mW G a M) sz = A at hQ hw ⊢
  obtain ⟨res, hv⟩ : ∃ res, v_X7_says M x1 x2 = res := ⟨_, rfl⟩
  rw [hv] at hQ
  unfold v_X7_says at hv
  unfold p_X7_says at hp
  show Z k_X7_says G Γ _ 0 0 [(0, .ref (a 0)), (1, .int x1), (2, .int x2)] 0 []
  refine z_aload_n dX7_says_0 rfl ?_
  refine z_iload_n dX7_says_1 rfl ?_
  refine z_cvi (c_X7_isShelf G a M x1 ) zc_X7_isShelf zv_X7_isShelf tw_m_RX7_102 (mrec wr_P) wr_P (zroom_of rfl) rfl (Nat.le_of_ble_eq_true rfl) dX7_says_2 ?_
  refine z_if_eq (tgt := 18) dX7_says_5 (by decide) (fun c1 => ?_) (fun c1 => ?_)
  · have hp := ip_t hp c1; have hv := it_t hv c1
    refine z_aload_n dX7_says_18 rfl ?_
    refine z_iconst (v := (-1)) dX7_says_19 rfl ?_
    have q2 := hp
    refine z_caviD hw (fun sz => c_X7_no G a hw.1 sz M (-1) q2) zc_X7_no zv_X7_no tw_m_RX7_106 (mrec wr_P) (zroom_of rfl) rfl (Nat.le_of_ble_eq_true rfl) dX7_says_20 ?_
    suffices z92 : ∀ q3 : Int32 × mT, q3 = (v_X7_no M (-1)) → Z k_X7_says G Γ (wr G A Γ.2.2.1.1.heap (mW G a q3.2)) 0 0 [(0, .ref (a 0)), (1, .int x1), (2, .int x2)] 23 [.int q3.1] from z92 _ rfl
    intro q3 hq3
    have hv := kk_vq hv hq3
    clear hq3
    subst hv; exact z_iret_W hQ rfl rfl rfl ⟨rfl, rfl⟩ dX7_says_23
  · have hp := ip_f hp c1; have hv := it_f hv c1
    refine z_iload_n dX7_says_8 rfl ?_
    refine z_if_lt (tgt := 18) dX7_says_9 (by decide) (fun c4 => ?_) (fun c4 => ?_)
    · have hp := ip_t hp c4; have hv := it_t hv c4
      refine z_aload_n dX7_says_18 rfl ?_
      refine z_iconst (v := (-1)) dX7_says_19 rfl ?_
      have q5 := hp
      refine z_caviD hw (fun sz => c_X7_no G a hw.1 sz M (-1) q5) zc_X7_no zv_X7_no tw_m_RX7_106 (mrec wr_P) (zroom_of rfl) rfl (Nat.le_of_ble_eq_true rfl) dX7_says_20 ?_
      suffices z93 : ∀ q6 : Int32 × mT, q6 = (v_X7_no M (-1)) → Z k_X7_says G Γ (wr G A Γ.2.2.1.1.heap (mW G a q6.2)) 0 0 [(0, .ref (a 0)), (1, .int x1), (2, .int x2)] 23 [.int q6.1] from z93 _ rfl
      intro q6 hq6
      have hv := kk_vq hv hq6
      clear hq6
      subst hv; exact z_iret_W hQ rfl rfl rfl ⟨rfl, rfl⟩ dX7_says_23
    · have hp := ip_f hp c4; have hv := it_f hv c4
      refine z_iload_n dX7_says_12 rfl ?_
      refine z_bipush (v := 6) dX7_says_13 rfl ?_
      refine z_icmp_le (tgt := 24) dX7_says_15 (by decide) (fun c7 => ?_) (fun c7 => ?_)
      · have hp := ip_t hp c7; have hv := it_t hv c7
        refine z_aload_n dX7_says_24 rfl ?_
        refine mg_16 wr_P rfl dX7_says_25 ?_
        refine z_iload_n dX7_says_28 rfl ?_
        obtain ⟨q8, hp⟩ := hp
        refine ml_16 (x := (M.2.1 16) x1.toNatClampNeg) wr_P q8 rfl dX7_says_29 ?_
        refine z_iconst (v := 1) dX7_says_30 rfl ?_
        refine z_icmp_ne (tgt := 41) dX7_says_31 (by decide) (fun c9 => ?_) (fun c9 => ?_)
        · have hp := ip_f hp c9; have hv := it_f hv c9
          refine z_aload_n dX7_says_41 rfl ?_
          refine mg_16 wr_P rfl dX7_says_42 ?_
          refine z_iload_n dX7_says_45 rfl ?_
          obtain ⟨q10, hp⟩ := hp
          refine ml_16 (x := (M.2.1 16) x1.toNatClampNeg) wr_P q10 rfl dX7_says_46 ?_
          refine z_if_ne (tgt := 57) dX7_says_47 (by decide) (fun c11 => ?_) (fun c11 => ?_)
          · have hp := ip_f hp c11; have hv := it_f hv c11
            refine z_aload_n dX7_says_57 rfl ?_
            refine mg_19 wr_P rfl dX7_says_58 ?_
            refine z_iload_n dX7_says_61 rfl ?_
            obtain ⟨q12, hp⟩ := hp
            refine ml_19 (x := (M.2.1 19) x1.toNatClampNeg) wr_P q12 rfl dX7_says_62 ?_
            refine z_istore_n (lv' := [(3, .int ((M.2.1 19) x1.toNatClampNeg)), (0, .ref (a 0)), (1, .int x1), (2, .int x2)]) dX7_says_63 (Nat.le_of_ble_eq_true rfl) rfl ?_
            refine z_aload_n dX7_says_64 rfl ?_
            refine mg_9 wr_P rfl dX7_says_65 ?_
            refine z_iload_n dX7_says_68 rfl ?_
            obtain ⟨q13, hp⟩ := hp
            refine ml_9 (x := (M.2.1 9) ((M.2.1 19) x1.toNatClampNeg).toNatClampNeg) wr_P q13 rfl dX7_says_69 ?_
            refine z_istore (lv' := [(4, .int ((M.2.1 9) ((M.2.1 19) x1.toNatClampNeg).toNatClampNeg)), (3, .int ((M.2.1 19) x1.toNatClampNeg)), (0, .ref (a 0)), (1, .int x1), (2, .int x2)]) dX7_says_70 (Nat.le_of_ble_eq_true rfl) rfl ?_
            refine z_iload_n dX7_says_72 rfl ?_
            refine z_iconst (v := 1) dX7_says_73 rfl ?_
            have J94 : ∀ m41 : Int32, m41 = (if x2 = 1 then (if ((M.2.1 9) ((M.2.1 19) x1.toNatClampNeg).toNatClampNeg) = 6 then 1 else (if x2 = 2 then (if ((M.2.1 9) ((M.2.1 19) x1.toNatClampNeg).toNatClampNeg) = 3 then 1 else (if x2 = 4 then (if ((M.2.1 9) ((M.2.1 19) x1.toNatClampNeg).toNatClampNeg) = 5 then 1 else 0) else 0)) else (if x2 = 4 then (if ((M.2.1 9) ((M.2.1 19) x1.toNatClampNeg).toNatClampNeg) = 5 then 1 else 0) else 0))) else (if x2 = 2 then (if ((M.2.1 9) ((M.2.1 19) x1.toNatClampNeg).toNatClampNeg) = 3 then 1 else (if x2 = 4 then (if ((M.2.1 9) ((M.2.1 19) x1.toNatClampNeg).toNatClampNeg) = 5 then 1 else 0) else 0)) else (if x2 = 4 then (if ((M.2.1 9) ((M.2.1 19) x1.toNatClampNeg).toNatClampNeg) = 5 then 1 else 0) else 0))) → Z k_X7_says G Γ (wr G A Γ.2.2.1.1.heap (mW G a M)) 0 0 [(4, .int ((M.2.1 9) ((M.2.1 19) x1.toNatClampNeg).toNatClampNeg)), (3, .int ((M.2.1 19) x1.toNatClampNeg)), (0, .ref (a 0)), (1, .int x1), (2, .int x2)] 111 [.int m41] := by
              intro m41 em41
              have hp := kk_pq hp em41
              have hv := kk_vq hv em41
              clear em41
              refine z_istore (lv' := [(5, .int m41), (4, .int ((M.2.1 9) ((M.2.1 19) x1.toNatClampNeg).toNatClampNeg)), (3, .int ((M.2.1 19) x1.toNatClampNeg)), (0, .ref (a 0)), (1, .int x1), (2, .int x2)]) dX7_says_111 (Nat.le_of_ble_eq_true rfl) rfl ?_
              refine z_iload_n dX7_says_113 rfl ?_
              refine z_if_eq (tgt := 135) dX7_says_114 (by decide) (fun c42 => ?_) (fun c42 => ?_)
              · have hp := ip_t hp c42; have hv := it_t hv c42
                refine z_iload_n dX7_says_135 rfl ?_
                by_cases c44 : x2 = 1
                · have hp := ip_t hp c44; have hv := it_t hv c44
                  refine z_tableIn (tgt := 176) dX7_says_136 1 c44 (by decide) (by decide) rfl (by decide) ?_
                  refine z_aload_n dX7_says_176 rfl ?_
                  refine mg_13 wr_P rfl dX7_says_177 ?_
                  refine z_iload_n dX7_says_180 rfl ?_
                  have q43 := hp
                  refine ml_13 (x := (M.2.1 13) ((M.2.1 19) x1.toNatClampNeg).toNatClampNeg) wr_P q43 rfl dX7_says_181 ?_
                  subst hv; exact z_iret_W hQ rfl rfl rfl ⟨rfl, rfl⟩ dX7_says_182
                have hp := ip_f hp c44
                have hv := it_f hv c44
                by_cases c46 : x2 = 2
                · have hp := ip_t hp c46; have hv := it_t hv c46
                  refine z_tableIn (tgt := 183) dX7_says_136 2 c46 (by decide) (by decide) rfl (by decide) ?_
                  refine z_aload_n dX7_says_183 rfl ?_
                  refine mg_12 wr_P rfl dX7_says_184 ?_
                  refine z_iload_n dX7_says_187 rfl ?_
                  have q45 := hp
                  refine ml_12 (x := (M.2.1 12) ((M.2.1 19) x1.toNatClampNeg).toNatClampNeg) wr_P q45 rfl dX7_says_188 ?_
                  subst hv; exact z_iret_W hQ rfl rfl rfl ⟨rfl, rfl⟩ dX7_says_189
                have hp := ip_f hp c46
                have hv := it_f hv c46
                by_cases c48 : x2 = 3
                · have hp := ip_t hp c48; have hv := it_t hv c48
                  refine z_tableIn (tgt := 183) dX7_says_136 3 c48 (by decide) (by decide) rfl (by decide) ?_
                  refine z_aload_n dX7_says_183 rfl ?_
                  refine mg_12 wr_P rfl dX7_says_184 ?_
                  refine z_iload_n dX7_says_187 rfl ?_
                  have q47 := hp
                  refine ml_12 (x := (M.2.1 12) ((M.2.1 19) x1.toNatClampNeg).toNatClampNeg) wr_P q47 rfl dX7_says_188 ?_
                  subst hv; exact z_iret_W hQ rfl rfl rfl ⟨rfl, rfl⟩ dX7_says_189
                have hp := ip_f hp c48
                have hv := it_f hv c48
                by_cases c50 : x2 = 4
                · have hp := ip_t hp c50; have hv := it_t hv c50
                  refine z_tableIn (tgt := 190) dX7_says_136 4 c50 (by decide) (by decide) rfl (by decide) ?_
                  refine z_aload_n dX7_says_190 rfl ?_
                  refine z_iload_n dX7_says_191 rfl ?_
                  have q49 := hp
                  refine z_cvi (c_X7_step G a M ((M.2.1 19) x1.toNatClampNeg) q49) zc_X7_step zv_X7_step tw_m_RX7_113 (mrec wr_P) wr_P (zroom_of rfl) rfl (Nat.le_of_ble_eq_true rfl) dX7_says_192 ?_
                  subst hv; exact z_iret_W hQ rfl rfl rfl ⟨rfl, rfl⟩ dX7_says_195
                have hp := ip_f hp c50
                have hv := it_f hv c50
                by_cases c52 : x2 = 5
                · have hp := ip_t hp c52; have hv := it_t hv c52
                  refine z_tableIn (tgt := 190) dX7_says_136 5 c52 (by decide) (by decide) rfl (by decide) ?_
                  refine z_aload_n dX7_says_190 rfl ?_
                  refine z_iload_n dX7_says_191 rfl ?_
                  have q51 := hp
                  refine z_cvi (c_X7_step G a M ((M.2.1 19) x1.toNatClampNeg) q51) zc_X7_step zv_X7_step tw_m_RX7_113 (mrec wr_P) wr_P (zroom_of rfl) rfl (Nat.le_of_ble_eq_true rfl) dX7_says_192 ?_
                  subst hv; exact z_iret_W hQ rfl rfl rfl ⟨rfl, rfl⟩ dX7_says_195
                have hp := ip_f hp c52
                have hv := it_f hv c52
                by_cases c54 : x2 = 6
                · have hp := ip_t hp c54; have hv := it_t hv c54
                  refine z_tableIn (tgt := 176) dX7_says_136 6 c54 (by decide) (by decide) rfl (by decide) ?_
                  refine z_aload_n dX7_says_176 rfl ?_
                  refine mg_13 wr_P rfl dX7_says_177 ?_
                  refine z_iload_n dX7_says_180 rfl ?_
                  have q53 := hp
                  refine ml_13 (x := (M.2.1 13) ((M.2.1 19) x1.toNatClampNeg).toNatClampNeg) wr_P q53 rfl dX7_says_181 ?_
                  subst hv; exact z_iret_W hQ rfl rfl rfl ⟨rfl, rfl⟩ dX7_says_182
                have hp := ip_f hp c54
                have hv := it_f hv c54
                refine z_tableOut (tgt := 196) dX7_says_136 (zout6_1 c44 c46 c48 c50 c52 c54) (by decide) ?_
                refine z_aload_n dX7_says_196 rfl ?_
                refine mg_11 wr_P rfl dX7_says_197 ?_
                refine z_iload_n dX7_says_200 rfl ?_
                have q55 := hp
                refine ml_11 (x := (M.2.1 11) ((M.2.1 19) x1.toNatClampNeg).toNatClampNeg) wr_P q55 rfl dX7_says_201 ?_
                subst hv; exact z_iret_W hQ rfl rfl rfl ⟨rfl, rfl⟩ dX7_says_202
              · have hp := ip_f hp c42; have hv := it_f hv c42
                refine z_iload_n dX7_says_117 rfl ?_
                refine z_iload dX7_says_118 rfl ?_
                refine z_icmp_eq (tgt := 135) dX7_says_120 (by decide) (fun c56 => ?_) (fun c56 => ?_)
                · have hp := ip_t hp c56; have hv := it_t hv c56
                  refine z_iload_n dX7_says_135 rfl ?_
                  by_cases c58 : x2 = 1
                  · have hp := ip_t hp c58; have hv := it_t hv c58
                    refine z_tableIn (tgt := 176) dX7_says_136 1 c58 (by decide) (by decide) rfl (by decide) ?_
                    refine z_aload_n dX7_says_176 rfl ?_
                    refine mg_13 wr_P rfl dX7_says_177 ?_
                    refine z_iload_n dX7_says_180 rfl ?_
                    have q57 := hp
                    refine ml_13 (x := (M.2.1 13) ((M.2.1 19) x1.toNatClampNeg).toNatClampNeg) wr_P q57 rfl dX7_says_181 ?_
                    subst hv; exact z_iret_W hQ rfl rfl rfl ⟨rfl, rfl⟩ dX7_says_182
                  have hp := ip_f hp c58
                  have hv := it_f hv c58
                  by_cases c60 : x2 = 2
                  · have hp := ip_t hp c60; have hv := it_t hv c60
                    refine z_tableIn (tgt := 183) dX7_says_136 2 c60 (by decide) (by decide) rfl (by decide) ?_
                    refine z_aload_n dX7_says_183 rfl ?_
                    refine mg_12 wr_P rfl dX7_says_184 ?_
                    refine z_iload_n dX7_says_187 rfl ?_
                    have q59 := hp
                    refine ml_12 (x := (M.2.1 12) ((M.2.1 19) x1.toNatClampNeg).toNatClampNeg) wr_P q59 rfl dX7_says_188 ?_
                    subst hv; exact z_iret_W hQ rfl rfl rfl ⟨rfl, rfl⟩ dX7_says_189
                  have hp := ip_f hp c60
                  have hv := it_f hv c60
                  by_cases c62 : x2 = 3
                  · have hp := ip_t hp c62; have hv := it_t hv c62
                    refine z_tableIn (tgt := 183) dX7_says_136 3 c62 (by decide) (by decide) rfl (by decide) ?_
                    refine z_aload_n dX7_says_183 rfl ?_
                    refine mg_12 wr_P rfl dX7_says_184 ?_
                    refine z_iload_n dX7_says_187 rfl ?_
                    have q61 := hp
                    refine ml_12 (x := (M.2.1 12) ((M.2.1 19) x1.toNatClampNeg).toNatClampNeg) wr_P q61 rfl dX7_says_188 ?_
                    subst hv; exact z_iret_W hQ rfl rfl rfl ⟨rfl, rfl⟩ dX7_says_189
                  have hp := ip_f hp c62
                  have hv := it_f hv c62
                  by_cases c64 : x2 = 4
                  · have hp := ip_t hp c64; have hv := it_t hv c64
                    refine z_tableIn (tgt := 190) dX7_says_136 4 c64 (by decide) (by decide) rfl (by decide) ?_
                    refine z_aload_n dX7_says_190 rfl ?_
                    refine z_iload_n dX7_says_191 rfl ?_
                    have q63 := hp
                    refine z_cvi (c_X7_step G a M ((M.2.1 19) x1.toNatClampNeg) q63) zc_X7_step zv_X7_step tw_m_RX7_113 (mrec wr_P) wr_P (zroom_of rfl) rfl (Nat.le_of_ble_eq_true rfl) dX7_says_192 ?_
                    subst hv; exact z_iret_W hQ rfl rfl rfl ⟨rfl, rfl⟩ dX7_says_195
                  have hp := ip_f hp c64
                  have hv := it_f hv c64
                  by_cases c66 : x2 = 5
                  · have hp := ip_t hp c66; have hv := it_t hv c66
                    refine z_tableIn (tgt := 190) dX7_says_136 5 c66 (by decide) (by decide) rfl (by decide) ?_
                    refine z_aload_n dX7_says_190 rfl ?_
                    refine z_iload_n dX7_says_191 rfl ?_
                    have q65 := hp
                    refine z_cvi (c_X7_step G a M ((M.2.1 19) x1.toNatClampNeg) q65) zc_X7_step zv_X7_step tw_m_RX7_113 (mrec wr_P) wr_P (zroom_of rfl) rfl (Nat.le_of_ble_eq_true rfl) dX7_says_192 ?_
                    subst hv; exact z_iret_W hQ rfl rfl rfl ⟨rfl, rfl⟩ dX7_says_195
                  have hp := ip_f hp c66
                  have hv := it_f hv c66
                  by_cases c68 : x2 = 6
                  · have hp := ip_t hp c68; have hv := it_t hv c68
                    refine z_tableIn (tgt := 176) dX7_says_136 6 c68 (by decide) (by decide) rfl (by decide) ?_
                    refine z_aload_n dX7_says_176 rfl ?_
                    refine mg_13 wr_P rfl dX7_says_177 ?_
                    refine z_iload_n dX7_says_180 rfl ?_
                    have q67 := hp
                    refine ml_13 (x := (M.2.1 13) ((M.2.1 19) x1.toNatClampNeg).toNatClampNeg) wr_P q67 rfl dX7_says_181 ?_
                    subst hv; exact z_iret_W hQ rfl rfl rfl ⟨rfl, rfl⟩ dX7_says_182
                  have hp := ip_f hp c68
                  have hv := it_f hv c68
                  refine z_tableOut (tgt := 196) dX7_says_136 (zout6_1 c58 c60 c62 c64 c66 c68) (by decide) ?_
                  refine z_aload_n dX7_says_196 rfl ?_
                  refine mg_11 wr_P rfl dX7_says_197 ?_
                  refine z_iload_n dX7_says_200 rfl ?_
                  have q69 := hp
                  refine ml_11 (x := (M.2.1 11) ((M.2.1 19) x1.toNatClampNeg).toNatClampNeg) wr_P q69 rfl dX7_says_201 ?_
                  subst hv; exact z_iret_W hQ rfl rfl rfl ⟨rfl, rfl⟩ dX7_says_202
                · have hp := ip_f hp c56; have hv := it_f hv c56
                  refine z_iload dX7_says_123 rfl ?_
                  refine z_if_ne (tgt := 135) dX7_says_125 (by decide) (fun c70 => ?_) (fun c70 => ?_)
                  · have hp := ip_f hp c70; have hv := it_f hv c70
                    refine z_iload_n dX7_says_135 rfl ?_
                    by_cases c72 : x2 = 1
                    · have hp := ip_t hp c72; have hv := it_t hv c72
                      refine z_tableIn (tgt := 176) dX7_says_136 1 c72 (by decide) (by decide) rfl (by decide) ?_
                      refine z_aload_n dX7_says_176 rfl ?_
                      refine mg_13 wr_P rfl dX7_says_177 ?_
                      refine z_iload_n dX7_says_180 rfl ?_
                      have q71 := hp
                      refine ml_13 (x := (M.2.1 13) ((M.2.1 19) x1.toNatClampNeg).toNatClampNeg) wr_P q71 rfl dX7_says_181 ?_
                      subst hv; exact z_iret_W hQ rfl rfl rfl ⟨rfl, rfl⟩ dX7_says_182
                    have hp := ip_f hp c72
                    have hv := it_f hv c72
                    by_cases c74 : x2 = 2
                    · have hp := ip_t hp c74; have hv := it_t hv c74
                      refine z_tableIn (tgt := 183) dX7_says_136 2 c74 (by decide) (by decide) rfl (by decide) ?_
                      refine z_aload_n dX7_says_183 rfl ?_
                      refine mg_12 wr_P rfl dX7_says_184 ?_
                      refine z_iload_n dX7_says_187 rfl ?_
                      have q73 := hp
                      refine ml_12 (x := (M.2.1 12) ((M.2.1 19) x1.toNatClampNeg).toNatClampNeg) wr_P q73 rfl dX7_says_188 ?_
                      subst hv; exact z_iret_W hQ rfl rfl rfl ⟨rfl, rfl⟩ dX7_says_189
                    have hp := ip_f hp c74
                    have hv := it_f hv c74
                    by_cases c76 : x2 = 3
                    · have hp := ip_t hp c76; have hv := it_t hv c76
                      refine z_tableIn (tgt := 183) dX7_says_136 3 c76 (by decide) (by decide) rfl (by decide) ?_
                      refine z_aload_n dX7_says_183 rfl ?_
                      refine mg_12 wr_P rfl dX7_says_184 ?_
                      refine z_iload_n dX7_says_187 rfl ?_
                      have q75 := hp
                      refine ml_12 (x := (M.2.1 12) ((M.2.1 19) x1.toNatClampNeg).toNatClampNeg) wr_P q75 rfl dX7_says_188 ?_
                      subst hv; exact z_iret_W hQ rfl rfl rfl ⟨rfl, rfl⟩ dX7_says_189
                    have hp := ip_f hp c76
                    have hv := it_f hv c76
                    by_cases c78 : x2 = 4
                    · have hp := ip_t hp c78; have hv := it_t hv c78
                      refine z_tableIn (tgt := 190) dX7_says_136 4 c78 (by decide) (by decide) rfl (by decide) ?_
                      refine z_aload_n dX7_says_190 rfl ?_
                      refine z_iload_n dX7_says_191 rfl ?_
                      have q77 := hp
                      refine z_cvi (c_X7_step G a M ((M.2.1 19) x1.toNatClampNeg) q77) zc_X7_step zv_X7_step tw_m_RX7_113 (mrec wr_P) wr_P (zroom_of rfl) rfl (Nat.le_of_ble_eq_true rfl) dX7_says_192 ?_
                      subst hv; exact z_iret_W hQ rfl rfl rfl ⟨rfl, rfl⟩ dX7_says_195
                    have hp := ip_f hp c78
                    have hv := it_f hv c78
                    by_cases c80 : x2 = 5
                    · have hp := ip_t hp c80; have hv := it_t hv c80
                      refine z_tableIn (tgt := 190) dX7_says_136 5 c80 (by decide) (by decide) rfl (by decide) ?_
                      refine z_aload_n dX7_says_190 rfl ?_
                      refine z_iload_n dX7_says_191 rfl ?_
                      have q79 := hp
                      refine z_cvi (c_X7_step G a M ((M.2.1 19) x1.toNatClampNeg) q79) zc_X7_step zv_X7_step tw_m_RX7_113 (mrec wr_P) wr_P (zroom_of rfl) rfl (Nat.le_of_ble_eq_true rfl) dX7_says_192 ?_
                      subst hv; exact z_iret_W hQ rfl rfl rfl ⟨rfl, rfl⟩ dX7_says_195
                    have hp := ip_f hp c80
                    have hv := it_f hv c80
                    by_cases c82 : x2 = 6
                    · have hp := ip_t hp c82; have hv := it_t hv c82
                      refine z_tableIn (tgt := 176) dX7_says_136 6 c82 (by decide) (by decide) rfl (by decide) ?_
                      refine z_aload_n dX7_says_176 rfl ?_
                      refine mg_13 wr_P rfl dX7_says_177 ?_
                      refine z_iload_n dX7_says_180 rfl ?_
                      have q81 := hp
                      refine ml_13 (x := (M.2.1 13) ((M.2.1 19) x1.toNatClampNeg).toNatClampNeg) wr_P q81 rfl dX7_says_181 ?_
                      subst hv; exact z_iret_W hQ rfl rfl rfl ⟨rfl, rfl⟩ dX7_says_182
                    have hp := ip_f hp c82
                    have hv := it_f hv c82
                    refine z_tableOut (tgt := 196) dX7_says_136 (zout6_1 c72 c74 c76 c78 c80 c82) (by decide) ?_
                    refine z_aload_n dX7_says_196 rfl ?_
                    refine mg_11 wr_P rfl dX7_says_197 ?_
                    refine z_iload_n dX7_says_200 rfl ?_
                    have q83 := hp
                    refine ml_11 (x := (M.2.1 11) ((M.2.1 19) x1.toNatClampNeg).toNatClampNeg) wr_P q83 rfl dX7_says_201 ?_
                    subst hv; exact z_iret_W hQ rfl rfl rfl ⟨rfl, rfl⟩ dX7_says_202
                  · have hp := ip_t hp c70; have hv := it_t hv c70
                    refine z_aload_n dX7_says_128 rfl ?_
                    refine z_bipush (v := (-2)) dX7_says_129 rfl ?_
                    have q84 := hp
                    refine z_caviD hw (fun sz => c_X7_no G a hw.1 sz M (-2) q84) zc_X7_no zv_X7_no tw_m_RX7_106 (mrec wr_P) (zroom_of rfl) rfl (Nat.le_of_ble_eq_true rfl) dX7_says_131 ?_
                    suffices z95 : ∀ q85 : Int32 × mT, q85 = (v_X7_no M (-2)) → Z k_X7_says G Γ (wr G A Γ.2.2.1.1.heap (mW G a q85.2)) 0 0 [(5, .int m41), (4, .int ((M.2.1 9) ((M.2.1 19) x1.toNatClampNeg).toNatClampNeg)), (3, .int ((M.2.1 19) x1.toNatClampNeg)), (0, .ref (a 0)), (1, .int x1), (2, .int x2)] 134 [.int q85.1] from z95 _ rfl
                    intro q85 hq85
                    have hv := kk_vq hv hq85
                    clear hq85
                    subst hv; exact z_iret_W hQ rfl rfl rfl ⟨rfl, rfl⟩ dX7_says_134
            refine z_icmp_ne (tgt := 84) dX7_says_74 (by decide) (fun c14 => ?_) (fun c14 => ?_)
            · skip
              refine z_iload_n dX7_says_84 rfl ?_
              refine z_iconst (v := 2) dX7_says_85 rfl ?_
              have J96 : ∀ m26 : Int32, m26 = (if x2 = 2 then (if ((M.2.1 9) ((M.2.1 19) x1.toNatClampNeg).toNatClampNeg) = 3 then 1 else (if x2 = 4 then (if ((M.2.1 9) ((M.2.1 19) x1.toNatClampNeg).toNatClampNeg) = 5 then 1 else 0) else 0)) else (if x2 = 4 then (if ((M.2.1 9) ((M.2.1 19) x1.toNatClampNeg).toNatClampNeg) = 5 then 1 else 0) else 0)) → Z k_X7_says G Γ (wr G A Γ.2.2.1.1.heap (mW G a M)) 0 0 [(4, .int ((M.2.1 9) ((M.2.1 19) x1.toNatClampNeg).toNatClampNeg)), (3, .int ((M.2.1 19) x1.toNatClampNeg)), (0, .ref (a 0)), (1, .int x1), (2, .int x2)] 111 [.int m26] := by
                intro m26 em26
                rewrite [em26]; clear em26
                exact z_lv rfl (J94 _ (if_neg c14).symm)
              refine z_icmp_ne (tgt := 95) dX7_says_86 (by decide) (fun c15 => ?_) (fun c15 => ?_)
              · skip
                refine z_iload_n dX7_says_95 rfl ?_
                refine z_iconst (v := 4) dX7_says_96 rfl ?_
                have J97 : ∀ m19 : Int32, m19 = (if x2 = 4 then (if ((M.2.1 9) ((M.2.1 19) x1.toNatClampNeg).toNatClampNeg) = 5 then 1 else 0) else 0) → Z k_X7_says G Γ (wr G A Γ.2.2.1.1.heap (mW G a M)) 0 0 [(4, .int ((M.2.1 9) ((M.2.1 19) x1.toNatClampNeg).toNatClampNeg)), (3, .int ((M.2.1 19) x1.toNatClampNeg)), (0, .ref (a 0)), (1, .int x1), (2, .int x2)] 111 [.int m19] := by
                  intro m19 em19
                  rewrite [em19]; clear em19
                  exact z_lv rfl (J96 _ (if_neg c15).symm)
                refine z_icmp_ne (tgt := 110) dX7_says_97 (by decide) (fun c16 => ?_) (fun c16 => ?_)
                · skip
                  refine z_iconst (v := 0) dX7_says_110 rfl ?_
                  exact z_lv rfl (J97 _ (if_neg c16).symm)
                · skip
                  refine z_iload dX7_says_100 rfl ?_
                  refine z_iconst (v := 5) dX7_says_102 rfl ?_
                  have J98 : ∀ m18 : Int32, m18 = (if ((M.2.1 9) ((M.2.1 19) x1.toNatClampNeg).toNatClampNeg) = 5 then 1 else 0) → Z k_X7_says G Γ (wr G A Γ.2.2.1.1.heap (mW G a M)) 0 0 [(4, .int ((M.2.1 9) ((M.2.1 19) x1.toNatClampNeg).toNatClampNeg)), (3, .int ((M.2.1 19) x1.toNatClampNeg)), (0, .ref (a 0)), (1, .int x1), (2, .int x2)] 111 [.int m18] := by
                    intro m18 em18
                    rewrite [em18]; clear em18
                    exact z_lv rfl (J97 _ (if_pos c16).symm)
                  refine z_icmp_ne (tgt := 110) dX7_says_103 (by decide) (fun c17 => ?_) (fun c17 => ?_)
                  · skip
                    refine z_iconst (v := 0) dX7_says_110 rfl ?_
                    exact z_lv rfl (J98 _ (if_neg c17).symm)
                  · skip
                    refine z_iconst (v := 1) dX7_says_106 rfl ?_
                    refine z_goto (tgt := 111) dX7_says_107 (by decide) ?_
                    exact z_lv rfl (J98 _ (if_pos c17).symm)
              · skip
                refine z_iload dX7_says_89 rfl ?_
                refine z_iconst (v := 3) dX7_says_91 rfl ?_
                have J99 : ∀ m25 : Int32, m25 = (if ((M.2.1 9) ((M.2.1 19) x1.toNatClampNeg).toNatClampNeg) = 3 then 1 else (if x2 = 4 then (if ((M.2.1 9) ((M.2.1 19) x1.toNatClampNeg).toNatClampNeg) = 5 then 1 else 0) else 0)) → Z k_X7_says G Γ (wr G A Γ.2.2.1.1.heap (mW G a M)) 0 0 [(4, .int ((M.2.1 9) ((M.2.1 19) x1.toNatClampNeg).toNatClampNeg)), (3, .int ((M.2.1 19) x1.toNatClampNeg)), (0, .ref (a 0)), (1, .int x1), (2, .int x2)] 111 [.int m25] := by
                  intro m25 em25
                  rewrite [em25]; clear em25
                  exact z_lv rfl (J96 _ (if_pos c15).symm)
                refine z_icmp_eq (tgt := 106) dX7_says_92 (by decide) (fun c20 => ?_) (fun c20 => ?_)
                · skip
                  refine z_iconst (v := 1) dX7_says_106 rfl ?_
                  refine z_goto (tgt := 111) dX7_says_107 (by decide) ?_
                  exact z_lv rfl (J99 _ (if_pos c20).symm)
                · skip
                  refine z_iload_n dX7_says_95 rfl ?_
                  refine z_iconst (v := 4) dX7_says_96 rfl ?_
                  have J100 : ∀ m24 : Int32, m24 = (if x2 = 4 then (if ((M.2.1 9) ((M.2.1 19) x1.toNatClampNeg).toNatClampNeg) = 5 then 1 else 0) else 0) → Z k_X7_says G Γ (wr G A Γ.2.2.1.1.heap (mW G a M)) 0 0 [(4, .int ((M.2.1 9) ((M.2.1 19) x1.toNatClampNeg).toNatClampNeg)), (3, .int ((M.2.1 19) x1.toNatClampNeg)), (0, .ref (a 0)), (1, .int x1), (2, .int x2)] 111 [.int m24] := by
                    intro m24 em24
                    rewrite [em24]; clear em24
                    exact z_lv rfl (J99 _ (if_neg c20).symm)
                  refine z_icmp_ne (tgt := 110) dX7_says_97 (by decide) (fun c21 => ?_) (fun c21 => ?_)
                  · skip
                    refine z_iconst (v := 0) dX7_says_110 rfl ?_
                    exact z_lv rfl (J100 _ (if_neg c21).symm)
                  · skip
                    refine z_iload dX7_says_100 rfl ?_
                    refine z_iconst (v := 5) dX7_says_102 rfl ?_
                    have J101 : ∀ m23 : Int32, m23 = (if ((M.2.1 9) ((M.2.1 19) x1.toNatClampNeg).toNatClampNeg) = 5 then 1 else 0) → Z k_X7_says G Γ (wr G A Γ.2.2.1.1.heap (mW G a M)) 0 0 [(4, .int ((M.2.1 9) ((M.2.1 19) x1.toNatClampNeg).toNatClampNeg)), (3, .int ((M.2.1 19) x1.toNatClampNeg)), (0, .ref (a 0)), (1, .int x1), (2, .int x2)] 111 [.int m23] := by
                      intro m23 em23
                      rewrite [em23]; clear em23
                      exact z_lv rfl (J100 _ (if_pos c21).symm)
                    refine z_icmp_ne (tgt := 110) dX7_says_103 (by decide) (fun c22 => ?_) (fun c22 => ?_)
                    · skip
                      refine z_iconst (v := 0) dX7_says_110 rfl ?_
                      exact z_lv rfl (J101 _ (if_neg c22).symm)
                    · skip
                      refine z_iconst (v := 1) dX7_says_106 rfl ?_
                      refine z_goto (tgt := 111) dX7_says_107 (by decide) ?_
                      exact z_lv rfl (J101 _ (if_pos c22).symm)
            · skip
              refine z_iload dX7_says_77 rfl ?_
              refine z_bipush (v := 6) dX7_says_79 rfl ?_
              have J102 : ∀ m40 : Int32, m40 = (if ((M.2.1 9) ((M.2.1 19) x1.toNatClampNeg).toNatClampNeg) = 6 then 1 else (if x2 = 2 then (if ((M.2.1 9) ((M.2.1 19) x1.toNatClampNeg).toNatClampNeg) = 3 then 1 else (if x2 = 4 then (if ((M.2.1 9) ((M.2.1 19) x1.toNatClampNeg).toNatClampNeg) = 5 then 1 else 0) else 0)) else (if x2 = 4 then (if ((M.2.1 9) ((M.2.1 19) x1.toNatClampNeg).toNatClampNeg) = 5 then 1 else 0) else 0))) → Z k_X7_says G Γ (wr G A Γ.2.2.1.1.heap (mW G a M)) 0 0 [(4, .int ((M.2.1 9) ((M.2.1 19) x1.toNatClampNeg).toNatClampNeg)), (3, .int ((M.2.1 19) x1.toNatClampNeg)), (0, .ref (a 0)), (1, .int x1), (2, .int x2)] 111 [.int m40] := by
                intro m40 em40
                rewrite [em40]; clear em40
                exact z_lv rfl (J94 _ (if_pos c14).symm)
              refine z_icmp_eq (tgt := 106) dX7_says_81 (by decide) (fun c27 => ?_) (fun c27 => ?_)
              · skip
                refine z_iconst (v := 1) dX7_says_106 rfl ?_
                refine z_goto (tgt := 111) dX7_says_107 (by decide) ?_
                exact z_lv rfl (J102 _ (if_pos c27).symm)
              · skip
                refine z_iload_n dX7_says_84 rfl ?_
                refine z_iconst (v := 2) dX7_says_85 rfl ?_
                have J103 : ∀ m39 : Int32, m39 = (if x2 = 2 then (if ((M.2.1 9) ((M.2.1 19) x1.toNatClampNeg).toNatClampNeg) = 3 then 1 else (if x2 = 4 then (if ((M.2.1 9) ((M.2.1 19) x1.toNatClampNeg).toNatClampNeg) = 5 then 1 else 0) else 0)) else (if x2 = 4 then (if ((M.2.1 9) ((M.2.1 19) x1.toNatClampNeg).toNatClampNeg) = 5 then 1 else 0) else 0)) → Z k_X7_says G Γ (wr G A Γ.2.2.1.1.heap (mW G a M)) 0 0 [(4, .int ((M.2.1 9) ((M.2.1 19) x1.toNatClampNeg).toNatClampNeg)), (3, .int ((M.2.1 19) x1.toNatClampNeg)), (0, .ref (a 0)), (1, .int x1), (2, .int x2)] 111 [.int m39] := by
                  intro m39 em39
                  rewrite [em39]; clear em39
                  exact z_lv rfl (J102 _ (if_neg c27).symm)
                refine z_icmp_ne (tgt := 95) dX7_says_86 (by decide) (fun c28 => ?_) (fun c28 => ?_)
                · skip
                  refine z_iload_n dX7_says_95 rfl ?_
                  refine z_iconst (v := 4) dX7_says_96 rfl ?_
                  have J104 : ∀ m32 : Int32, m32 = (if x2 = 4 then (if ((M.2.1 9) ((M.2.1 19) x1.toNatClampNeg).toNatClampNeg) = 5 then 1 else 0) else 0) → Z k_X7_says G Γ (wr G A Γ.2.2.1.1.heap (mW G a M)) 0 0 [(4, .int ((M.2.1 9) ((M.2.1 19) x1.toNatClampNeg).toNatClampNeg)), (3, .int ((M.2.1 19) x1.toNatClampNeg)), (0, .ref (a 0)), (1, .int x1), (2, .int x2)] 111 [.int m32] := by
                    intro m32 em32
                    rewrite [em32]; clear em32
                    exact z_lv rfl (J103 _ (if_neg c28).symm)
                  refine z_icmp_ne (tgt := 110) dX7_says_97 (by decide) (fun c29 => ?_) (fun c29 => ?_)
                  · skip
                    refine z_iconst (v := 0) dX7_says_110 rfl ?_
                    exact z_lv rfl (J104 _ (if_neg c29).symm)
                  · skip
                    refine z_iload dX7_says_100 rfl ?_
                    refine z_iconst (v := 5) dX7_says_102 rfl ?_
                    have J105 : ∀ m31 : Int32, m31 = (if ((M.2.1 9) ((M.2.1 19) x1.toNatClampNeg).toNatClampNeg) = 5 then 1 else 0) → Z k_X7_says G Γ (wr G A Γ.2.2.1.1.heap (mW G a M)) 0 0 [(4, .int ((M.2.1 9) ((M.2.1 19) x1.toNatClampNeg).toNatClampNeg)), (3, .int ((M.2.1 19) x1.toNatClampNeg)), (0, .ref (a 0)), (1, .int x1), (2, .int x2)] 111 [.int m31] := by
                      intro m31 em31
                      rewrite [em31]; clear em31
                      exact z_lv rfl (J104 _ (if_pos c29).symm)
                    refine z_icmp_ne (tgt := 110) dX7_says_103 (by decide) (fun c30 => ?_) (fun c30 => ?_)
                    · skip
                      refine z_iconst (v := 0) dX7_says_110 rfl ?_
                      exact z_lv rfl (J105 _ (if_neg c30).symm)
                    · skip
                      refine z_iconst (v := 1) dX7_says_106 rfl ?_
                      refine z_goto (tgt := 111) dX7_says_107 (by decide) ?_
                      exact z_lv rfl (J105 _ (if_pos c30).symm)
                · skip
                  refine z_iload dX7_says_89 rfl ?_
                  refine z_iconst (v := 3) dX7_says_91 rfl ?_
                  have J106 : ∀ m38 : Int32, m38 = (if ((M.2.1 9) ((M.2.1 19) x1.toNatClampNeg).toNatClampNeg) = 3 then 1 else (if x2 = 4 then (if ((M.2.1 9) ((M.2.1 19) x1.toNatClampNeg).toNatClampNeg) = 5 then 1 else 0) else 0)) → Z k_X7_says G Γ (wr G A Γ.2.2.1.1.heap (mW G a M)) 0 0 [(4, .int ((M.2.1 9) ((M.2.1 19) x1.toNatClampNeg).toNatClampNeg)), (3, .int ((M.2.1 19) x1.toNatClampNeg)), (0, .ref (a 0)), (1, .int x1), (2, .int x2)] 111 [.int m38] := by
                    intro m38 em38
                    rewrite [em38]; clear em38
                    exact z_lv rfl (J103 _ (if_pos c28).symm)
                  refine z_icmp_eq (tgt := 106) dX7_says_92 (by decide) (fun c33 => ?_) (fun c33 => ?_)
                  · skip
                    refine z_iconst (v := 1) dX7_says_106 rfl ?_
                    refine z_goto (tgt := 111) dX7_says_107 (by decide) ?_
                    exact z_lv rfl (J106 _ (if_pos c33).symm)
                  · skip
                    refine z_iload_n dX7_says_95 rfl ?_
                    refine z_iconst (v := 4) dX7_says_96 rfl ?_
                    have J107 : ∀ m37 : Int32, m37 = (if x2 = 4 then (if ((M.2.1 9) ((M.2.1 19) x1.toNatClampNeg).toNatClampNeg) = 5 then 1 else 0) else 0) → Z k_X7_says G Γ (wr G A Γ.2.2.1.1.heap (mW G a M)) 0 0 [(4, .int ((M.2.1 9) ((M.2.1 19) x1.toNatClampNeg).toNatClampNeg)), (3, .int ((M.2.1 19) x1.toNatClampNeg)), (0, .ref (a 0)), (1, .int x1), (2, .int x2)] 111 [.int m37] := by
                      intro m37 em37
                      rewrite [em37]; clear em37
                      exact z_lv rfl (J106 _ (if_neg c33).symm)
                    refine z_icmp_ne (tgt := 110) dX7_says_97 (by decide) (fun c34 => ?_) (fun c34 => ?_)
                    · skip
                      refine z_iconst (v := 0) dX7_says_110 rfl ?_
                      exact z_lv rfl (J107 _ (if_neg c34).symm)
                    · skip
                      refine z_iload dX7_says_100 rfl ?_
                      refine z_iconst (v := 5) dX7_says_102 rfl ?_
                      have J108 : ∀ m36 : Int32, m36 = (if ((M.2.1 9) ((M.2.1 19) x1.toNatClampNeg).toNatClampNeg) = 5 then 1 else 0) → Z k_X7_says G Γ (wr G A Γ.2.2.1.1.heap (mW G a M)) 0 0 [(4, .int ((M.2.1 9) ((M.2.1 19) x1.toNatClampNeg).toNatClampNeg)), (3, .int ((M.2.1 19) x1.toNatClampNeg)), (0, .ref (a 0)), (1, .int x1), (2, .int x2)] 111 [.int m36] := by
                        intro m36 em36
                        rewrite [em36]; clear em36
                        exact z_lv rfl (J107 _ (if_pos c34).symm)
                      refine z_icmp_ne (tgt := 110) dX7_says_103 (by decide) (fun c35 => ?_) (fun c35 => ?_)
                      · skip
                        refine z_iconst (v := 0) dX7_says_110 rfl ?_
                        exact z_lv rfl (J108 _ (if_neg c35).symm)
                      · skip
                        refine z_iconst (v := 1) dX7_says_106 rfl ?_
                        refine z_goto (tgt := 111) dX7_says_107 (by decide) ?_
                        exact z_lv rfl (J108 _ (if_pos c35).symm)
          · have hp := ip_t hp c11; have hv := it_t hv c11
            refine z_aload_n dX7_says_50 rfl ?_
            refine z_bipush (v := (-3)) dX7_says_51 rfl ?_
            have q86 := hp
            refine z_caviD hw (fun sz => c_X7_no G a hw.1 sz M (-3) q86) zc_X7_no zv_X7_no tw_m_RX7_106 (mrec wr_P) (zroom_of rfl) rfl (Nat.le_of_ble_eq_true rfl) dX7_says_53 ?_
            suffices z109 : ∀ q87 : Int32 × mT, q87 = (v_X7_no M (-3)) → Z k_X7_says G Γ (wr G A Γ.2.2.1.1.heap (mW G a q87.2)) 0 0 [(0, .ref (a 0)), (1, .int x1), (2, .int x2)] 56 [.int q87.1] from z109 _ rfl
            intro q87 hq87
            have hv := kk_vq hv hq87
            clear hq87
            subst hv; exact z_iret_W hQ rfl rfl rfl ⟨rfl, rfl⟩ dX7_says_56
        · have hp := ip_t hp c9; have hv := it_t hv c9
          refine z_aload_n dX7_says_34 rfl ?_
          refine z_bipush (v := (-2)) dX7_says_35 rfl ?_
          have q88 := hp
          refine z_caviD hw (fun sz => c_X7_no G a hw.1 sz M (-2) q88) zc_X7_no zv_X7_no tw_m_RX7_106 (mrec wr_P) (zroom_of rfl) rfl (Nat.le_of_ble_eq_true rfl) dX7_says_37 ?_
          suffices z110 : ∀ q89 : Int32 × mT, q89 = (v_X7_no M (-2)) → Z k_X7_says G Γ (wr G A Γ.2.2.1.1.heap (mW G a q89.2)) 0 0 [(0, .ref (a 0)), (1, .int x1), (2, .int x2)] 40 [.int q89.1] from z110 _ rfl
          intro q89 hq89
          have hv := kk_vq hv hq89
          clear hq89
          subst hv; exact z_iret_W hQ rfl rfl rfl ⟨rfl, rfl⟩ dX7_says_40
      · have hp := ip_f hp c7; have hv := it_f hv c7
        refine z_aload_n dX7_says_18 rfl ?_
        refine z_iconst (v := (-1)) dX7_says_19 rfl ?_
        have q90 := hp
        refine z_caviD hw (fun sz => c_X7_no G a hw.1 sz M (-1) q90) zc_X7_no zv_X7_no tw_m_RX7_106 (mrec wr_P) (zroom_of rfl) rfl (Nat.le_of_ble_eq_true rfl) dX7_says_20 ?_
        suffices z111 : ∀ q91 : Int32 × mT, q91 = (v_X7_no M (-1)) → Z k_X7_says G Γ (wr G A Γ.2.2.1.1.heap (mW G a q91.2)) 0 0 [(0, .ref (a 0)), (1, .int x1), (2, .int x2)] 23 [.int q91.1] from z111 _ rfl
        intro q91 hq91
        have hv := kk_vq hv hq91
        clear hq91
        subst hv; exact z_iret_W hQ rfl rfl rfl ⟨rfl, rfl⟩ dX7_says_23
theorem dX7_wanted_0 : decode cX7_wanted 0 = .ok (.aload_n 0, 1) := by decide +kernel
theorem dX7_wanted_1 : decode cX7_wanted 1 = .ok (.iload_n 1, 1) := by decide +kernel
theorem dX7_wanted_2 : decode cX7_wanted 2 = .ok (.invokevirtual 102, 3) := by decide +kernel
theorem dX7_wanted_5 : decode cX7_wanted 5 = .ok (.ifCond .ne 7, 3) := by decide +kernel
theorem dX7_wanted_8 : decode cX7_wanted 8 = .ok (.iconst (-1), 1) := by decide +kernel
theorem dX7_wanted_9 : decode cX7_wanted 9 = .ok (.goto 33, 3) := by decide +kernel
theorem dX7_wanted_12 : decode cX7_wanted 12 = .ok (.aload_n 0, 1) := by decide +kernel
theorem dX7_wanted_13 : decode cX7_wanted 13 = .ok (.getfield 50, 3) := by decide +kernel
theorem dX7_wanted_16 : decode cX7_wanted 16 = .ok (.iload_n 1, 1) := by decide +kernel
theorem dX7_wanted_17 : decode cX7_wanted 17 = .ok (.iaload, 1) := by decide +kernel
theorem dX7_wanted_18 : decode cX7_wanted 18 = .ok (.iconst 2, 1) := by decide +kernel
theorem dX7_wanted_19 : decode cX7_wanted 19 = .ok (.if_icmp .ne 8, 3) := by decide +kernel
theorem dX7_wanted_22 : decode cX7_wanted 22 = .ok (.bipush (-2), 2) := by decide +kernel
theorem dX7_wanted_24 : decode cX7_wanted 24 = .ok (.goto 18, 3) := by decide +kernel
theorem dX7_wanted_27 : decode cX7_wanted 27 = .ok (.aload_n 0, 1) := by decide +kernel
theorem dX7_wanted_28 : decode cX7_wanted 28 = .ok (.getfield 50, 3) := by decide +kernel
theorem dX7_wanted_31 : decode cX7_wanted 31 = .ok (.iload_n 1, 1) := by decide +kernel
theorem dX7_wanted_32 : decode cX7_wanted 32 = .ok (.iaload, 1) := by decide +kernel
theorem dX7_wanted_33 : decode cX7_wanted 33 = .ok (.ifCond .ne 8, 3) := by decide +kernel
theorem dX7_wanted_36 : decode cX7_wanted 36 = .ok (.bipush (-3), 2) := by decide +kernel
theorem dX7_wanted_38 : decode cX7_wanted 38 = .ok (.goto 4, 3) := by decide +kernel
theorem dX7_wanted_41 : decode cX7_wanted 41 = .ok (.iconst 0, 1) := by decide +kernel
theorem dX7_wanted_42 : decode cX7_wanted 42 = .ok (.ireturn, 1) := by decide +kernel
abbrev k_X7_wanted : zK := (cX7_wanted, 2, RX7, (some .int), ({ frames := 1, cells := 0, slots := 0, locals := 21 } : Room))
theorem zc_X7_wanted : zcal yX7_wanted k_X7_wanted.1 k_X7_wanted.2.1 k_X7_wanted.2.2.2.1 1 := ⟨tw_code_yX7_wanted, tw_i_TollForHesitatorsModel, ⟨by decide +kernel, by decide +kernel⟩, by decide +kernel⟩
theorem zv_X7_wanted : Cond.instanceMethod yX7_wanted ∈ TS ∧ Cond.selects RX7 yX7_wanted yX7_wanted ∈ TS := ⟨tw_inst_yX7_wanted, tw_s_yX7_wanted⟩
def v_X7_wanted (M : mT) (x1 : Int32) : Int32 := (if (v_X7_isShelf M x1) = 0 then (-1) else (if ((M.2.1 16) x1.toNatClampNeg) = 2 then (-2) else (if ((M.2.1 16) x1.toNatClampNeg) = 0 then (-3) else 0)))
def p_X7_wanted (M : mT) (x1 : Int32) : Prop := if (v_X7_isShelf M x1) = 0 then True else vp_in x1 8 ∧ (if ((M.2.1 16) x1.toNatClampNeg) = 2 then True else vp_in x1 8)
set_option maxHeartbeats 4000000 in
theorem c_X7_wanted {l : Launch} (G : zG) (a : Nat → Nat) (M : mT) (x1 : Int32) (hp : p_X7_wanted M x1) : Met l yX7_wanted (.code yX7_wanted k_X7_wanted.1 k_X7_wanted.2.1 k_X7_wanted.2.2.2.1 :: TS) k_X7_wanted.2.2.2.2 (Pz G [.ref (a 0), .int x1] (va_P G.2.1 CL (mW G a M))) (vp_Si (fun r => r = v_X7_wanted M x1)) 0 0 (fun _ => False) := by
  refine zmet (by decide +kernel) rfl rfl (fun Γ hl0 hQ hN hF => ?_)
  have hI := rd_P (G := G) hF
  obtain ⟨res, hv⟩ : ∃ res, v_X7_wanted M x1 = res := ⟨_, rfl⟩
  rw [hv] at hQ
  unfold v_X7_wanted at hv
  unfold p_X7_wanted at hp
  show Z k_X7_wanted G Γ _ 0 0 [(0, .ref (a 0)), (1, .int x1)] 0 []
  refine z_aload_n dX7_wanted_0 rfl ?_
  refine z_iload_n dX7_wanted_1 rfl ?_
  refine z_cvi (c_X7_isShelf G a M x1 ) zc_X7_isShelf zv_X7_isShelf tw_m_RX7_102 (mrec hI) hI (zroom_of rfl) rfl (Nat.le_of_ble_eq_true rfl) dX7_wanted_2 ?_
  have hpm := hp
  have J9 : ∀ m8 : Int32, m8 = (if (v_X7_isShelf M x1) = 0 then (-1) else (if ((M.2.1 16) x1.toNatClampNeg) = 2 then (-2) else (if ((M.2.1 16) x1.toNatClampNeg) = 0 then (-3) else 0))) → Z k_X7_wanted G Γ (rd Γ.2.2.1.1.heap) 0 0 [(0, .ref (a 0)), (1, .int x1)] 42 [.int m8] := by
    intro m8 em8
    rewrite [em8]; clear em8
    exact z_iret_S hQ rfl hv dX7_wanted_42
  refine z_if_ne (tgt := 12) dX7_wanted_5 (by decide) (fun c1 => ?_) (fun c1 => ?_)
  · have hp := ip_f hpm c1
    refine z_aload_n dX7_wanted_12 rfl ?_
    refine mg_16 hI rfl dX7_wanted_13 ?_
    refine z_iload_n dX7_wanted_16 rfl ?_
    obtain ⟨q2, hp⟩ := hp
    refine ml_16 (x := (M.2.1 16) x1.toNatClampNeg) hI q2 rfl dX7_wanted_17 ?_
    refine z_iconst (v := 2) dX7_wanted_18 rfl ?_
    have hpm := hp
    have J10 : ∀ m7 : Int32, m7 = (if ((M.2.1 16) x1.toNatClampNeg) = 2 then (-2) else (if ((M.2.1 16) x1.toNatClampNeg) = 0 then (-3) else 0)) → Z k_X7_wanted G Γ (rd Γ.2.2.1.1.heap) 0 0 [(0, .ref (a 0)), (1, .int x1)] 42 [.int m7] := by
      intro m7 em7
      rewrite [em7]; clear em7
      exact z_lv rfl (J9 _ (if_neg c1).symm)
    refine z_icmp_ne (tgt := 27) dX7_wanted_19 (by decide) (fun c3 => ?_) (fun c3 => ?_)
    · have hp := ip_f hpm c3
      refine z_aload_n dX7_wanted_27 rfl ?_
      refine mg_16 hI rfl dX7_wanted_28 ?_
      refine z_iload_n dX7_wanted_31 rfl ?_
      have q4 := hp
      refine ml_16 (x := (M.2.1 16) x1.toNatClampNeg) hI q4 rfl dX7_wanted_32 ?_
      have J11 : ∀ m6 : Int32, m6 = (if ((M.2.1 16) x1.toNatClampNeg) = 0 then (-3) else 0) → Z k_X7_wanted G Γ (rd Γ.2.2.1.1.heap) 0 0 [(0, .ref (a 0)), (1, .int x1)] 42 [.int m6] := by
        intro m6 em6
        rewrite [em6]; clear em6
        exact z_lv rfl (J10 _ (if_neg c3).symm)
      refine z_if_ne (tgt := 41) dX7_wanted_33 (by decide) (fun c5 => ?_) (fun c5 => ?_)
      · skip
        refine z_iconst (v := 0) dX7_wanted_41 rfl ?_
        exact z_lv rfl (J11 _ (if_neg c5).symm)
      · skip
        refine z_bipush (v := (-3)) dX7_wanted_36 rfl ?_
        refine z_goto (tgt := 42) dX7_wanted_38 (by decide) ?_
        exact z_lv rfl (J11 _ (if_pos c5).symm)
    · have hp := ip_t hpm c3
      refine z_bipush (v := (-2)) dX7_wanted_22 rfl ?_
      refine z_goto (tgt := 42) dX7_wanted_24 (by decide) ?_
      exact z_lv rfl (J10 _ (if_pos c3).symm)
  · have hp := ip_t hpm c1
    refine z_iconst (v := (-1)) dX7_wanted_8 rfl ?_
    refine z_goto (tgt := 42) dX7_wanted_9 (by decide) ?_
    exact z_lv rfl (J9 _ (if_pos c1).symm)
theorem dX7_intAt_0 : decode cX7_intAt 0 = .ok (.aload_n 0, 1) := by decide +kernel
theorem dX7_intAt_1 : decode cX7_intAt 1 = .ok (.getfield 62, 3) := by decide +kernel
theorem dX7_intAt_4 : decode cX7_intAt 4 = .ok (.sipush 160, 3) := by decide +kernel
theorem dX7_intAt_7 : decode cX7_intAt 7 = .ok (.iload_n 1, 1) := by decide +kernel
theorem dX7_intAt_8 : decode cX7_intAt 8 = .ok (.imul, 1) := by decide +kernel
theorem dX7_intAt_9 : decode cX7_intAt 9 = .ok (.iload_n 2, 1) := by decide +kernel
theorem dX7_intAt_10 : decode cX7_intAt 10 = .ok (.iadd, 1) := by decide +kernel
theorem dX7_intAt_11 : decode cX7_intAt 11 = .ok (.laload, 1) := by decide +kernel
theorem dX7_intAt_12 : decode cX7_intAt 12 = .ok (.l2i, 1) := by decide +kernel
theorem dX7_intAt_13 : decode cX7_intAt 13 = .ok (.ireturn, 1) := by decide +kernel
abbrev k_X7_intAt : zK := (cX7_intAt, 3, RX7, (some .int), ({ frames := 0, cells := 0, slots := 0, locals := 0 } : Room))
theorem zc_X7_intAt : zcal yX7_intAt k_X7_intAt.1 k_X7_intAt.2.1 k_X7_intAt.2.2.2.1 2 := ⟨tw_code_yX7_intAt, tw_i_TollForHesitatorsModel, ⟨by decide +kernel, by decide +kernel⟩, by decide +kernel⟩
theorem zv_X7_intAt : Cond.instanceMethod yX7_intAt ∈ TS ∧ Cond.selects RX7 yX7_intAt yX7_intAt ∈ TS := ⟨tw_inst_yX7_intAt, tw_s_yX7_intAt⟩
def v_X7_intAt (M : mT) (x1 : Int32) (x2 : Int32) : Int32 := ((M.2.2 20) ((160 * x1) + x2).toNatClampNeg).toInt32
def p_X7_intAt (M : mT) (x1 : Int32) (x2 : Int32) : Prop := vp_in ((160 * x1) + x2) 1280
set_option maxHeartbeats 4000000 in
theorem c_X7_intAt {l : Launch} (G : zG) (a : Nat → Nat) (M : mT) (x1 : Int32) (x2 : Int32) (hp : p_X7_intAt M x1 x2) : Met l yX7_intAt (.code yX7_intAt k_X7_intAt.1 k_X7_intAt.2.1 k_X7_intAt.2.2.2.1 :: TS) k_X7_intAt.2.2.2.2 (Pz G [.ref (a 0), .int x1, .int x2] (va_P G.2.1 CL (mW G a M))) (vp_Si (fun r => r = v_X7_intAt M x1 x2)) 0 0 (fun _ => False) := by
  refine zmet (by decide +kernel) rfl rfl (fun Γ hl0 hQ hN hF => ?_)
  have hI := rd_P (G := G) hF
  obtain ⟨res, hv⟩ : ∃ res, v_X7_intAt M x1 x2 = res := ⟨_, rfl⟩
  rw [hv] at hQ
  unfold v_X7_intAt at hv
  unfold p_X7_intAt at hp
  show Z k_X7_intAt G Γ _ 0 0 [(0, .ref (a 0)), (1, .int x1), (2, .int x2)] 0 []
  refine z_aload_n dX7_intAt_0 rfl ?_
  refine mg_20 hI rfl dX7_intAt_1 ?_
  refine z_sipush (v := 160) dX7_intAt_4 rfl ?_
  refine z_iload_n dX7_intAt_7 rfl ?_
  refine z_imul dX7_intAt_8 ?_
  refine z_iload_n dX7_intAt_9 rfl ?_
  refine z_iadd dX7_intAt_10 ?_
  have q1 := hp
  refine ml_20 (x := (M.2.2 20) ((160 * x1) + x2).toNatClampNeg) hI q1 rfl dX7_intAt_11 ?_
  refine z_l2i dX7_intAt_12 ?_
  exact z_iret_S hQ rfl hv dX7_intAt_13
theorem dX7_adds_0 : decode cX7_adds 0 = .ok (.aload_n 0, 1) := by decide +kernel
theorem dX7_adds_1 : decode cX7_adds 1 = .ok (.getfield 29, 3) := by decide +kernel
theorem dX7_adds_4 : decode cX7_adds 4 = .ok (.aload_n 0, 1) := by decide +kernel
theorem dX7_adds_5 : decode cX7_adds 5 = .ok (.getfield 99, 3) := by decide +kernel
theorem dX7_adds_8 : decode cX7_adds 8 = .ok (.iload_n 1, 1) := by decide +kernel
theorem dX7_adds_9 : decode cX7_adds 9 = .ok (.iastore, 1) := by decide +kernel
theorem dX7_adds_10 : decode cX7_adds 10 = .ok (.aload_n 0, 1) := by decide +kernel
theorem dX7_adds_11 : decode cX7_adds 11 = .ok (.getfield 32, 3) := by decide +kernel
theorem dX7_adds_14 : decode cX7_adds 14 = .ok (.aload_n 0, 1) := by decide +kernel
theorem dX7_adds_15 : decode cX7_adds 15 = .ok (.getfield 99, 3) := by decide +kernel
theorem dX7_adds_18 : decode cX7_adds 18 = .ok (.iload_n 2, 1) := by decide +kernel
theorem dX7_adds_19 : decode cX7_adds 19 = .ok (.iastore, 1) := by decide +kernel
theorem dX7_adds_20 : decode cX7_adds 20 = .ok (.aload_n 0, 1) := by decide +kernel
theorem dX7_adds_21 : decode cX7_adds 21 = .ok (.getfield 35, 3) := by decide +kernel
theorem dX7_adds_24 : decode cX7_adds 24 = .ok (.aload_n 0, 1) := by decide +kernel
theorem dX7_adds_25 : decode cX7_adds 25 = .ok (.getfield 99, 3) := by decide +kernel
theorem dX7_adds_28 : decode cX7_adds 28 = .ok (.iload_n 3, 1) := by decide +kernel
theorem dX7_adds_29 : decode cX7_adds 29 = .ok (.iastore, 1) := by decide +kernel
theorem dX7_adds_30 : decode cX7_adds 30 = .ok (.aload_n 0, 1) := by decide +kernel
theorem dX7_adds_31 : decode cX7_adds 31 = .ok (.getfield 38, 3) := by decide +kernel
theorem dX7_adds_34 : decode cX7_adds 34 = .ok (.aload_n 0, 1) := by decide +kernel
theorem dX7_adds_35 : decode cX7_adds 35 = .ok (.getfield 99, 3) := by decide +kernel
theorem dX7_adds_38 : decode cX7_adds 38 = .ok (.iload 4, 2) := by decide +kernel
theorem dX7_adds_40 : decode cX7_adds 40 = .ok (.iastore, 1) := by decide +kernel
theorem dX7_adds_41 : decode cX7_adds 41 = .ok (.aload_n 0, 1) := by decide +kernel
theorem dX7_adds_42 : decode cX7_adds 42 = .ok (.getfield 41, 3) := by decide +kernel
theorem dX7_adds_45 : decode cX7_adds 45 = .ok (.aload_n 0, 1) := by decide +kernel
theorem dX7_adds_46 : decode cX7_adds 46 = .ok (.getfield 99, 3) := by decide +kernel
theorem dX7_adds_49 : decode cX7_adds 49 = .ok (.iload 5, 2) := by decide +kernel
theorem dX7_adds_51 : decode cX7_adds 51 = .ok (.iastore, 1) := by decide +kernel
theorem dX7_adds_52 : decode cX7_adds 52 = .ok (.aload_n 0, 1) := by decide +kernel
theorem dX7_adds_53 : decode cX7_adds 53 = .ok (.getfield 44, 3) := by decide +kernel
theorem dX7_adds_56 : decode cX7_adds 56 = .ok (.aload_n 0, 1) := by decide +kernel
theorem dX7_adds_57 : decode cX7_adds 57 = .ok (.getfield 99, 3) := by decide +kernel
theorem dX7_adds_60 : decode cX7_adds 60 = .ok (.iload 6, 2) := by decide +kernel
theorem dX7_adds_62 : decode cX7_adds 62 = .ok (.iastore, 1) := by decide +kernel
theorem dX7_adds_63 : decode cX7_adds 63 = .ok (.aload_n 0, 1) := by decide +kernel
theorem dX7_adds_64 : decode cX7_adds 64 = .ok (.getfield 47, 3) := by decide +kernel
theorem dX7_adds_67 : decode cX7_adds 67 = .ok (.aload_n 0, 1) := by decide +kernel
theorem dX7_adds_68 : decode cX7_adds 68 = .ok (.getfield 99, 3) := by decide +kernel
theorem dX7_adds_71 : decode cX7_adds 71 = .ok (.iconst 0, 1) := by decide +kernel
theorem dX7_adds_72 : decode cX7_adds 72 = .ok (.iastore, 1) := by decide +kernel
theorem dX7_adds_73 : decode cX7_adds 73 = .ok (.aload_n 0, 1) := by decide +kernel
theorem dX7_adds_74 : decode cX7_adds 74 = .ok (.dup, 1) := by decide +kernel
theorem dX7_adds_75 : decode cX7_adds 75 = .ok (.getfield 99, 3) := by decide +kernel
theorem dX7_adds_78 : decode cX7_adds 78 = .ok (.dup_x1, 1) := by decide +kernel
theorem dX7_adds_79 : decode cX7_adds 79 = .ok (.iconst 1, 1) := by decide +kernel
theorem dX7_adds_80 : decode cX7_adds 80 = .ok (.iadd, 1) := by decide +kernel
theorem dX7_adds_81 : decode cX7_adds 81 = .ok (.putfield 99, 3) := by decide +kernel
theorem dX7_adds_84 : decode cX7_adds 84 = .ok (.ireturn, 1) := by decide +kernel
abbrev k_X7_adds : zK := (cX7_adds, 7, RX7, (some .int), ({ frames := 0, cells := 0, slots := 0, locals := 0 } : Room))
theorem zc_X7_adds : zcal yX7_adds k_X7_adds.1 k_X7_adds.2.1 k_X7_adds.2.2.2.1 6 := ⟨tw_code_yX7_adds, tw_i_TollForHesitatorsModel, ⟨by decide +kernel, by decide +kernel⟩, by decide +kernel⟩
theorem zv_X7_adds : Cond.instanceMethod yX7_adds ∈ TS ∧ Cond.selects RX7 yX7_adds yX7_adds ∈ TS := ⟨tw_inst_yX7_adds, tw_s_yX7_adds⟩
def v_X7_adds (M : mT) (x1 : Int32) (x2 : Int32) (x3 : Int32) (x4 : Int32) (x5 : Int32) (x6 : Int32) : Int32 × mT := (M.1 0, msf (msa (msa (msa (msa (msa (msa (msa M 9 (upd (M.2.1 9) (M.1 0).toNatClampNeg x1)) 10 (upd (M.2.1 10) (M.1 0).toNatClampNeg x2)) 11 (upd (M.2.1 11) (M.1 0).toNatClampNeg x3)) 12 (upd (M.2.1 12) (M.1 0).toNatClampNeg x4)) 13 (upd (M.2.1 13) (M.1 0).toNatClampNeg x5)) 14 (upd (M.2.1 14) (M.1 0).toNatClampNeg x6)) 15 (upd (M.2.1 15) (M.1 0).toNatClampNeg 0)) 0 ((M.1 0) + 1))
def p_X7_adds (M : mT) (x1 : Int32) (x2 : Int32) (x3 : Int32) (x4 : Int32) (x5 : Int32) (x6 : Int32) : Prop := (vp_in (M.1 0) 7) ∧ ((vp_in (M.1 0) 7) ∧ ((vp_in (M.1 0) 7) ∧ ((vp_in (M.1 0) 7) ∧ ((vp_in (M.1 0) 7) ∧ ((vp_in (M.1 0) 7) ∧ (vp_in (M.1 0) 7))))))
set_option maxHeartbeats 4000000 in
theorem c_X7_adds {l : Launch} (G : zG) (a : Nat → Nat) {X : zX} (hX : XOK X) (sz : Nat) (M : mT) (x1 : Int32) (x2 : Int32) (x3 : Int32) (x4 : Int32) (x5 : Int32) (x6 : Int32) (hp : p_X7_adds M x1 x2 x3 x4 x5 x6) : Met l yX7_adds (.code yX7_adds k_X7_adds.1 k_X7_adds.2.1 k_X7_adds.2.2.2.1 :: TS) k_X7_adds.2.2.2.2 (Pz G [.ref (a 0), .int x1, .int x2, .int x3, .int x4, .int x5, .int x6] (Fw G X (mW G a M) sz)) (Qwi G (fun r w => r = (v_X7_adds M x1 x2 x3 x4 x5 x6).1 ∧ w = mW G a (v_X7_adds M x1 x2 x3 x4 x5 x6).2) (va_A (mW G a M) sz)) 0 0 (va_A (mW G a M) sz) := by
  refine zmet (by decide +kernel) rfl rfl (fun Γ hl0 hQ hN hF => ?_)
  refine z_start hX hF (fun hw => ?_)
  generalize va_A (mW G a M) sz = A at hQ hw ⊢
  obtain ⟨res, hv⟩ : ∃ res, v_X7_adds M x1 x2 x3 x4 x5 x6 = res := ⟨_, rfl⟩
  rw [hv] at hQ
  unfold v_X7_adds at hv
  unfold p_X7_adds at hp
  show Z k_X7_adds G Γ _ 0 0 [(0, .ref (a 0)), (1, .int x1), (2, .int x2), (3, .int x3), (4, .int x4), (5, .int x5), (6, .int x6)] 0 []
  refine z_aload_n dX7_adds_0 rfl ?_
  refine mg_9 wr_P rfl dX7_adds_1 ?_
  refine z_aload_n dX7_adds_4 rfl ?_
  refine mg_0 (v := M.1 0) wr_P rfl rfl dX7_adds_5 ?_
  refine z_iload_n dX7_adds_8 rfl ?_
  obtain ⟨q1, hp⟩ := hp
  refine ms_9 (F := upd (M.2.1 9) (M.1 0).toNatClampNeg x1) q1 rfl dX7_adds_9 ?_
  refine z_aload_n dX7_adds_10 rfl ?_
  refine mg_10 wr_P rfl dX7_adds_11 ?_
  refine z_aload_n dX7_adds_14 rfl ?_
  refine mg_0 (v := M.1 0) wr_P rfl rfl dX7_adds_15 ?_
  refine z_iload_n dX7_adds_18 rfl ?_
  obtain ⟨q2, hp⟩ := hp
  refine ms_10 (F := upd (M.2.1 10) (M.1 0).toNatClampNeg x2) q2 rfl dX7_adds_19 ?_
  refine z_aload_n dX7_adds_20 rfl ?_
  refine mg_11 wr_P rfl dX7_adds_21 ?_
  refine z_aload_n dX7_adds_24 rfl ?_
  refine mg_0 (v := M.1 0) wr_P rfl rfl dX7_adds_25 ?_
  refine z_iload_n dX7_adds_28 rfl ?_
  obtain ⟨q3, hp⟩ := hp
  refine ms_11 (F := upd (M.2.1 11) (M.1 0).toNatClampNeg x3) q3 rfl dX7_adds_29 ?_
  refine z_aload_n dX7_adds_30 rfl ?_
  refine mg_12 wr_P rfl dX7_adds_31 ?_
  refine z_aload_n dX7_adds_34 rfl ?_
  refine mg_0 (v := M.1 0) wr_P rfl rfl dX7_adds_35 ?_
  refine z_iload dX7_adds_38 rfl ?_
  obtain ⟨q4, hp⟩ := hp
  refine ms_12 (F := upd (M.2.1 12) (M.1 0).toNatClampNeg x4) q4 rfl dX7_adds_40 ?_
  refine z_aload_n dX7_adds_41 rfl ?_
  refine mg_13 wr_P rfl dX7_adds_42 ?_
  refine z_aload_n dX7_adds_45 rfl ?_
  refine mg_0 (v := M.1 0) wr_P rfl rfl dX7_adds_46 ?_
  refine z_iload dX7_adds_49 rfl ?_
  obtain ⟨q5, hp⟩ := hp
  refine ms_13 (F := upd (M.2.1 13) (M.1 0).toNatClampNeg x5) q5 rfl dX7_adds_51 ?_
  refine z_aload_n dX7_adds_52 rfl ?_
  refine mg_14 wr_P rfl dX7_adds_53 ?_
  refine z_aload_n dX7_adds_56 rfl ?_
  refine mg_0 (v := M.1 0) wr_P rfl rfl dX7_adds_57 ?_
  refine z_iload dX7_adds_60 rfl ?_
  obtain ⟨q6, hp⟩ := hp
  refine ms_14 (F := upd (M.2.1 14) (M.1 0).toNatClampNeg x6) q6 rfl dX7_adds_62 ?_
  refine z_aload_n dX7_adds_63 rfl ?_
  refine mg_15 wr_P rfl dX7_adds_64 ?_
  refine z_aload_n dX7_adds_67 rfl ?_
  refine mg_0 (v := M.1 0) wr_P rfl rfl dX7_adds_68 ?_
  refine z_iconst (v := 0) dX7_adds_71 rfl ?_
  have q7 := hp
  refine ms_15 (F := upd (M.2.1 15) (M.1 0).toNatClampNeg 0) q7 rfl dX7_adds_72 ?_
  refine z_aload_n dX7_adds_73 rfl ?_
  refine z_dup dX7_adds_74 rfl ?_
  refine mg_0 (v := M.1 0) wr_P rfl rfl dX7_adds_75 ?_
  refine z_dup_x1 dX7_adds_78 rfl rfl ?_
  refine z_iconst (v := 1) dX7_adds_79 rfl ?_
  refine z_iadd dX7_adds_80 ?_
  refine mp_0 (v := (M.1 0) + 1) rfl dX7_adds_81 ?_
  subst hv; exact z_iret_W hQ rfl rfl rfl ⟨rfl, rfl⟩ dX7_adds_84
theorem dX7_comer_0 : decode cX7_comer 0 = .ok (.iload_n 1, 1) := by decide +kernel
theorem dX7_comer_1 : decode cX7_comer 1 = .ok (.ifCond .lt 9, 3) := by decide +kernel
theorem dX7_comer_4 : decode cX7_comer 4 = .ok (.iload_n 1, 1) := by decide +kernel
theorem dX7_comer_5 : decode cX7_comer 5 = .ok (.bipush 6, 2) := by decide +kernel
theorem dX7_comer_7 : decode cX7_comer 7 = .ok (.if_icmp .le 9, 3) := by decide +kernel
theorem dX7_comer_10 : decode cX7_comer 10 = .ok (.aload_n 0, 1) := by decide +kernel
theorem dX7_comer_11 : decode cX7_comer 11 = .ok (.iconst (-1), 1) := by decide +kernel
theorem dX7_comer_12 : decode cX7_comer 12 = .ok (.invokevirtual 106, 3) := by decide +kernel
theorem dX7_comer_15 : decode cX7_comer 15 = .ok (.ireturn, 1) := by decide +kernel
theorem dX7_comer_16 : decode cX7_comer 16 = .ok (.aload_n 0, 1) := by decide +kernel
theorem dX7_comer_17 : decode cX7_comer 17 = .ok (.iload_n 2, 1) := by decide +kernel
theorem dX7_comer_18 : decode cX7_comer 18 = .ok (.iconst 0, 1) := by decide +kernel
theorem dX7_comer_19 : decode cX7_comer 19 = .ok (.bipush 9, 2) := by decide +kernel
theorem dX7_comer_21 : decode cX7_comer 21 = .ok (.invokevirtual 116, 3) := by decide +kernel
theorem dX7_comer_24 : decode cX7_comer 24 = .ok (.ifCond .eq 51, 3) := by decide +kernel
theorem dX7_comer_27 : decode cX7_comer 27 = .ok (.aload_n 0, 1) := by decide +kernel
theorem dX7_comer_28 : decode cX7_comer 28 = .ok (.iload_n 3, 1) := by decide +kernel
theorem dX7_comer_29 : decode cX7_comer 29 = .ok (.iconst 0, 1) := by decide +kernel
theorem dX7_comer_30 : decode cX7_comer 30 = .ok (.bipush 30, 2) := by decide +kernel
theorem dX7_comer_32 : decode cX7_comer 32 = .ok (.invokevirtual 116, 3) := by decide +kernel
theorem dX7_comer_35 : decode cX7_comer 35 = .ok (.ifCond .eq 40, 3) := by decide +kernel
theorem dX7_comer_38 : decode cX7_comer 38 = .ok (.aload_n 0, 1) := by decide +kernel
theorem dX7_comer_39 : decode cX7_comer 39 = .ok (.iload 4, 2) := by decide +kernel
theorem dX7_comer_41 : decode cX7_comer 41 = .ok (.iconst 1, 1) := by decide +kernel
theorem dX7_comer_42 : decode cX7_comer 42 = .ok (.bipush 9, 2) := by decide +kernel
theorem dX7_comer_44 : decode cX7_comer 44 = .ok (.invokevirtual 116, 3) := by decide +kernel
theorem dX7_comer_47 : decode cX7_comer 47 = .ok (.ifCond .eq 28, 3) := by decide +kernel
theorem dX7_comer_50 : decode cX7_comer 50 = .ok (.aload_n 0, 1) := by decide +kernel
theorem dX7_comer_51 : decode cX7_comer 51 = .ok (.iload 5, 2) := by decide +kernel
theorem dX7_comer_53 : decode cX7_comer 53 = .ok (.iconst 0, 1) := by decide +kernel
theorem dX7_comer_54 : decode cX7_comer 54 = .ok (.bipush 9, 2) := by decide +kernel
theorem dX7_comer_56 : decode cX7_comer 56 = .ok (.invokevirtual 116, 3) := by decide +kernel
theorem dX7_comer_59 : decode cX7_comer 59 = .ok (.ifCond .eq 16, 3) := by decide +kernel
theorem dX7_comer_62 : decode cX7_comer 62 = .ok (.aload_n 0, 1) := by decide +kernel
theorem dX7_comer_63 : decode cX7_comer 63 = .ok (.iload 6, 2) := by decide +kernel
theorem dX7_comer_65 : decode cX7_comer 65 = .ok (.iconst 0, 1) := by decide +kernel
theorem dX7_comer_66 : decode cX7_comer 66 = .ok (.sipush 999, 3) := by decide +kernel
theorem dX7_comer_69 : decode cX7_comer 69 = .ok (.invokevirtual 116, 3) := by decide +kernel
theorem dX7_comer_72 : decode cX7_comer 72 = .ok (.ifCond .ne 10, 3) := by decide +kernel
theorem dX7_comer_75 : decode cX7_comer 75 = .ok (.aload_n 0, 1) := by decide +kernel
theorem dX7_comer_76 : decode cX7_comer 76 = .ok (.bipush (-6), 2) := by decide +kernel
theorem dX7_comer_78 : decode cX7_comer 78 = .ok (.invokevirtual 106, 3) := by decide +kernel
theorem dX7_comer_81 : decode cX7_comer 81 = .ok (.ireturn, 1) := by decide +kernel
theorem dX7_comer_82 : decode cX7_comer 82 = .ok (.aload_n 0, 1) := by decide +kernel
theorem dX7_comer_83 : decode cX7_comer 83 = .ok (.getfield 99, 3) := by decide +kernel
theorem dX7_comer_86 : decode cX7_comer 86 = .ok (.bipush 7, 2) := by decide +kernel
theorem dX7_comer_88 : decode cX7_comer 88 = .ok (.if_icmp .ne 12, 3) := by decide +kernel
theorem dX7_comer_91 : decode cX7_comer 91 = .ok (.aload_n 0, 1) := by decide +kernel
theorem dX7_comer_92 : decode cX7_comer 92 = .ok (.bipush (-7), 2) := by decide +kernel
theorem dX7_comer_94 : decode cX7_comer 94 = .ok (.invokevirtual 106, 3) := by decide +kernel
theorem dX7_comer_97 : decode cX7_comer 97 = .ok (.goto 16, 3) := by decide +kernel
theorem dX7_comer_100 : decode cX7_comer 100 = .ok (.aload_n 0, 1) := by decide +kernel
theorem dX7_comer_101 : decode cX7_comer 101 = .ok (.iload_n 1, 1) := by decide +kernel
theorem dX7_comer_102 : decode cX7_comer 102 = .ok (.iload_n 2, 1) := by decide +kernel
theorem dX7_comer_103 : decode cX7_comer 103 = .ok (.iload_n 3, 1) := by decide +kernel
theorem dX7_comer_104 : decode cX7_comer 104 = .ok (.iload 4, 2) := by decide +kernel
theorem dX7_comer_106 : decode cX7_comer 106 = .ok (.iload 5, 2) := by decide +kernel
theorem dX7_comer_108 : decode cX7_comer 108 = .ok (.iload 6, 2) := by decide +kernel
theorem dX7_comer_110 : decode cX7_comer 110 = .ok (.invokevirtual 120, 3) := by decide +kernel
theorem dX7_comer_113 : decode cX7_comer 113 = .ok (.ireturn, 1) := by decide +kernel
abbrev k_X7_comer : zK := (cX7_comer, 7, RX7, (some .int), ({ frames := 1, cells := 0, slots := 0, locals := 26 } : Room))
theorem zc_X7_comer : zcal yX7_comer k_X7_comer.1 k_X7_comer.2.1 k_X7_comer.2.2.2.1 6 := ⟨tw_code_yX7_comer, tw_i_TollForHesitatorsModel, ⟨by decide +kernel, by decide +kernel⟩, by decide +kernel⟩
theorem zv_X7_comer : Cond.instanceMethod yX7_comer ∈ TS ∧ Cond.selects RX7 yX7_comer yX7_comer ∈ TS := ⟨tw_inst_yX7_comer, tw_s_yX7_comer⟩
def v_X7_comer (M : mT) (x1 : Int32) (x2 : Int32) (x3 : Int32) (x4 : Int32) (x5 : Int32) (x6 : Int32) : Int32 × mT := if x1 < 0 then kk (v_X7_no M (-1)) (fun q3 : Int32 × mT => (q3.1, q3.2)) else if x1 ≤ 6 then if (v_X7_isFrom M x2 0 9) = 0 then kk (v_X7_no M (-6)) (fun q7 : Int32 × mT => (q7.1, q7.2)) else if (v_X7_isFrom M x3 0 30) = 0 then kk (v_X7_no M (-6)) (fun q10 : Int32 × mT => (q10.1, q10.2)) else if (v_X7_isFrom M x4 1 9) = 0 then kk (v_X7_no M (-6)) (fun q13 : Int32 × mT => (q13.1, q13.2)) else if (v_X7_isFrom M x5 0 9) = 0 then kk (v_X7_no M (-6)) (fun q16 : Int32 × mT => (q16.1, q16.2)) else if (v_X7_isFrom M x6 0 999) = 0 then kk (v_X7_no M (-6)) (fun q26 : Int32 × mT => (q26.1, q26.2)) else kk (if (M.1 0) = 7 then (v_X7_no M (-7)).2 else (v_X7_adds M x1 x2 x3 x4 x5 x6).2) (fun M23 : mT => ((if (M.1 0) = 7 then (v_X7_no M (-7)).1 else (v_X7_adds M x1 x2 x3 x4 x5 x6).1), M23)) else kk (v_X7_no M (-1)) (fun q28 : Int32 × mT => (q28.1, q28.2))
def p_X7_comer (M : mT) (x1 : Int32) (x2 : Int32) (x3 : Int32) (x4 : Int32) (x5 : Int32) (x6 : Int32) : Prop := if x1 < 0 then p_X7_no M (-1) else if x1 ≤ 6 then if (v_X7_isFrom M x2 0 9) = 0 then p_X7_no M (-6) else if (v_X7_isFrom M x3 0 30) = 0 then p_X7_no M (-6) else if (v_X7_isFrom M x4 1 9) = 0 then p_X7_no M (-6) else if (v_X7_isFrom M x5 0 9) = 0 then p_X7_no M (-6) else if (v_X7_isFrom M x6 0 999) = 0 then p_X7_no M (-6) else if (M.1 0) = 7 then p_X7_no M (-7) else p_X7_adds M x1 x2 x3 x4 x5 x6 else p_X7_no M (-1)
set_option maxHeartbeats 4000000 in
theorem c_X7_comer {l : Launch} (G : zG) (a : Nat → Nat) {X : zX} (hX : XOK X) (sz : Nat) (M : mT) (x1 : Int32) (x2 : Int32) (x3 : Int32) (x4 : Int32) (x5 : Int32) (x6 : Int32) (hp : p_X7_comer M x1 x2 x3 x4 x5 x6) : Met l yX7_comer (.code yX7_comer k_X7_comer.1 k_X7_comer.2.1 k_X7_comer.2.2.2.1 :: TS) k_X7_comer.2.2.2.2 (Pz G [.ref (a 0), .int x1, .int x2, .int x3, .int x4, .int x5, .int x6] (Fw G X (mW G a M) sz)) (Qwi G (fun r w => r = (v_X7_comer M x1 x2 x3 x4 x5 x6).1 ∧ w = mW G a (v_X7_comer M x1 x2 x3 x4 x5 x6).2) (va_A (mW G a M) sz)) 0 0 (va_A (mW G a M) sz) := by
  refine zmet (by decide +kernel) rfl rfl (fun Γ hl0 hQ hN hF => ?_)
  refine z_start hX hF (fun hw => ?_)
  generalize va_A (mW G a M) sz = A at hQ hw ⊢
  obtain ⟨res, hv⟩ : ∃ res, v_X7_comer M x1 x2 x3 x4 x5 x6 = res := ⟨_, rfl⟩
  rw [hv] at hQ
  unfold v_X7_comer at hv
  unfold p_X7_comer at hp
  show Z k_X7_comer G Γ _ 0 0 [(0, .ref (a 0)), (1, .int x1), (2, .int x2), (3, .int x3), (4, .int x4), (5, .int x5), (6, .int x6)] 0 []
  refine z_iload_n dX7_comer_0 rfl ?_
  refine z_if_lt (tgt := 10) dX7_comer_1 (by decide) (fun c1 => ?_) (fun c1 => ?_)
  · have hp := ip_t hp c1; have hv := it_t hv c1
    refine z_aload_n dX7_comer_10 rfl ?_
    refine z_iconst (v := (-1)) dX7_comer_11 rfl ?_
    have q2 := hp
    refine z_caviD hw (fun sz => c_X7_no G a hw.1 sz M (-1) q2) zc_X7_no zv_X7_no tw_m_RX7_106 (mrec wr_P) (zroom_of rfl) rfl (Nat.le_of_ble_eq_true rfl) dX7_comer_12 ?_
    suffices z29 : ∀ q3 : Int32 × mT, q3 = (v_X7_no M (-1)) → Z k_X7_comer G Γ (wr G A Γ.2.2.1.1.heap (mW G a q3.2)) 0 0 [(0, .ref (a 0)), (1, .int x1), (2, .int x2), (3, .int x3), (4, .int x4), (5, .int x5), (6, .int x6)] 15 [.int q3.1] from z29 _ rfl
    intro q3 hq3
    have hv := kk_vq hv hq3
    clear hq3
    subst hv; exact z_iret_W hQ rfl rfl rfl ⟨rfl, rfl⟩ dX7_comer_15
  · have hp := ip_f hp c1; have hv := it_f hv c1
    refine z_iload_n dX7_comer_4 rfl ?_
    refine z_bipush (v := 6) dX7_comer_5 rfl ?_
    refine z_icmp_le (tgt := 16) dX7_comer_7 (by decide) (fun c4 => ?_) (fun c4 => ?_)
    · have hp := ip_t hp c4; have hv := it_t hv c4
      refine z_aload_n dX7_comer_16 rfl ?_
      refine z_iload_n dX7_comer_17 rfl ?_
      refine z_iconst (v := 0) dX7_comer_18 rfl ?_
      refine z_bipush (v := 9) dX7_comer_19 rfl ?_
      refine z_cvi (c_X7_isFrom G a M x2 0 9 ) zc_X7_isFrom zv_X7_isFrom tw_m_RX7_116 (mrec wr_P) wr_P (zroom_of rfl) rfl (Nat.le_of_ble_eq_true rfl) dX7_comer_21 ?_
      refine z_if_eq (tgt := 75) dX7_comer_24 (by decide) (fun c5 => ?_) (fun c5 => ?_)
      · have hp := ip_t hp c5; have hv := it_t hv c5
        refine z_aload_n dX7_comer_75 rfl ?_
        refine z_bipush (v := (-6)) dX7_comer_76 rfl ?_
        have q6 := hp
        refine z_caviD hw (fun sz => c_X7_no G a hw.1 sz M (-6) q6) zc_X7_no zv_X7_no tw_m_RX7_106 (mrec wr_P) (zroom_of rfl) rfl (Nat.le_of_ble_eq_true rfl) dX7_comer_78 ?_
        suffices z30 : ∀ q7 : Int32 × mT, q7 = (v_X7_no M (-6)) → Z k_X7_comer G Γ (wr G A Γ.2.2.1.1.heap (mW G a q7.2)) 0 0 [(0, .ref (a 0)), (1, .int x1), (2, .int x2), (3, .int x3), (4, .int x4), (5, .int x5), (6, .int x6)] 81 [.int q7.1] from z30 _ rfl
        intro q7 hq7
        have hv := kk_vq hv hq7
        clear hq7
        subst hv; exact z_iret_W hQ rfl rfl rfl ⟨rfl, rfl⟩ dX7_comer_81
      · have hp := ip_f hp c5; have hv := it_f hv c5
        refine z_aload_n dX7_comer_27 rfl ?_
        refine z_iload_n dX7_comer_28 rfl ?_
        refine z_iconst (v := 0) dX7_comer_29 rfl ?_
        refine z_bipush (v := 30) dX7_comer_30 rfl ?_
        refine z_cvi (c_X7_isFrom G a M x3 0 30 ) zc_X7_isFrom zv_X7_isFrom tw_m_RX7_116 (mrec wr_P) wr_P (zroom_of rfl) rfl (Nat.le_of_ble_eq_true rfl) dX7_comer_32 ?_
        refine z_if_eq (tgt := 75) dX7_comer_35 (by decide) (fun c8 => ?_) (fun c8 => ?_)
        · have hp := ip_t hp c8; have hv := it_t hv c8
          refine z_aload_n dX7_comer_75 rfl ?_
          refine z_bipush (v := (-6)) dX7_comer_76 rfl ?_
          have q9 := hp
          refine z_caviD hw (fun sz => c_X7_no G a hw.1 sz M (-6) q9) zc_X7_no zv_X7_no tw_m_RX7_106 (mrec wr_P) (zroom_of rfl) rfl (Nat.le_of_ble_eq_true rfl) dX7_comer_78 ?_
          suffices z31 : ∀ q10 : Int32 × mT, q10 = (v_X7_no M (-6)) → Z k_X7_comer G Γ (wr G A Γ.2.2.1.1.heap (mW G a q10.2)) 0 0 [(0, .ref (a 0)), (1, .int x1), (2, .int x2), (3, .int x3), (4, .int x4), (5, .int x5), (6, .int x6)] 81 [.int q10.1] from z31 _ rfl
          intro q10 hq10
          have hv := kk_vq hv hq10
          clear hq10
          subst hv; exact z_iret_W hQ rfl rfl rfl ⟨rfl, rfl⟩ dX7_comer_81
        · have hp := ip_f hp c8; have hv := it_f hv c8
          refine z_aload_n dX7_comer_38 rfl ?_
          refine z_iload dX7_comer_39 rfl ?_
          refine z_iconst (v := 1) dX7_comer_41 rfl ?_
          refine z_bipush (v := 9) dX7_comer_42 rfl ?_
          refine z_cvi (c_X7_isFrom G a M x4 1 9 ) zc_X7_isFrom zv_X7_isFrom tw_m_RX7_116 (mrec wr_P) wr_P (zroom_of rfl) rfl (Nat.le_of_ble_eq_true rfl) dX7_comer_44 ?_
          refine z_if_eq (tgt := 75) dX7_comer_47 (by decide) (fun c11 => ?_) (fun c11 => ?_)
          · have hp := ip_t hp c11; have hv := it_t hv c11
            refine z_aload_n dX7_comer_75 rfl ?_
            refine z_bipush (v := (-6)) dX7_comer_76 rfl ?_
            have q12 := hp
            refine z_caviD hw (fun sz => c_X7_no G a hw.1 sz M (-6) q12) zc_X7_no zv_X7_no tw_m_RX7_106 (mrec wr_P) (zroom_of rfl) rfl (Nat.le_of_ble_eq_true rfl) dX7_comer_78 ?_
            suffices z32 : ∀ q13 : Int32 × mT, q13 = (v_X7_no M (-6)) → Z k_X7_comer G Γ (wr G A Γ.2.2.1.1.heap (mW G a q13.2)) 0 0 [(0, .ref (a 0)), (1, .int x1), (2, .int x2), (3, .int x3), (4, .int x4), (5, .int x5), (6, .int x6)] 81 [.int q13.1] from z32 _ rfl
            intro q13 hq13
            have hv := kk_vq hv hq13
            clear hq13
            subst hv; exact z_iret_W hQ rfl rfl rfl ⟨rfl, rfl⟩ dX7_comer_81
          · have hp := ip_f hp c11; have hv := it_f hv c11
            refine z_aload_n dX7_comer_50 rfl ?_
            refine z_iload dX7_comer_51 rfl ?_
            refine z_iconst (v := 0) dX7_comer_53 rfl ?_
            refine z_bipush (v := 9) dX7_comer_54 rfl ?_
            refine z_cvi (c_X7_isFrom G a M x5 0 9 ) zc_X7_isFrom zv_X7_isFrom tw_m_RX7_116 (mrec wr_P) wr_P (zroom_of rfl) rfl (Nat.le_of_ble_eq_true rfl) dX7_comer_56 ?_
            refine z_if_eq (tgt := 75) dX7_comer_59 (by decide) (fun c14 => ?_) (fun c14 => ?_)
            · have hp := ip_t hp c14; have hv := it_t hv c14
              refine z_aload_n dX7_comer_75 rfl ?_
              refine z_bipush (v := (-6)) dX7_comer_76 rfl ?_
              have q15 := hp
              refine z_caviD hw (fun sz => c_X7_no G a hw.1 sz M (-6) q15) zc_X7_no zv_X7_no tw_m_RX7_106 (mrec wr_P) (zroom_of rfl) rfl (Nat.le_of_ble_eq_true rfl) dX7_comer_78 ?_
              suffices z33 : ∀ q16 : Int32 × mT, q16 = (v_X7_no M (-6)) → Z k_X7_comer G Γ (wr G A Γ.2.2.1.1.heap (mW G a q16.2)) 0 0 [(0, .ref (a 0)), (1, .int x1), (2, .int x2), (3, .int x3), (4, .int x4), (5, .int x5), (6, .int x6)] 81 [.int q16.1] from z33 _ rfl
              intro q16 hq16
              have hv := kk_vq hv hq16
              clear hq16
              subst hv; exact z_iret_W hQ rfl rfl rfl ⟨rfl, rfl⟩ dX7_comer_81
            · have hp := ip_f hp c14; have hv := it_f hv c14
              refine z_aload_n dX7_comer_62 rfl ?_
              refine z_iload dX7_comer_63 rfl ?_
              refine z_iconst (v := 0) dX7_comer_65 rfl ?_
              refine z_sipush (v := 999) dX7_comer_66 rfl ?_
              refine z_cvi (c_X7_isFrom G a M x6 0 999 ) zc_X7_isFrom zv_X7_isFrom tw_m_RX7_116 (mrec wr_P) wr_P (zroom_of rfl) rfl (Nat.le_of_ble_eq_true rfl) dX7_comer_69 ?_
              refine z_if_ne (tgt := 82) dX7_comer_72 (by decide) (fun c17 => ?_) (fun c17 => ?_)
              · have hp := ip_f hp c17; have hv := it_f hv c17
                refine z_aload_n dX7_comer_82 rfl ?_
                refine mg_0 (v := M.1 0) wr_P rfl rfl dX7_comer_83 ?_
                refine z_bipush (v := 7) dX7_comer_86 rfl ?_
                have hpm := hp
                have J34 : ∀ M23 : mT, M23 = (if (M.1 0) = 7 then (v_X7_no M (-7)).2 else (v_X7_adds M x1 x2 x3 x4 x5 x6).2) → ∀ m24 : Int32, m24 = (if (M.1 0) = 7 then (v_X7_no M (-7)).1 else (v_X7_adds M x1 x2 x3 x4 x5 x6).1) → Z k_X7_comer G Γ (wr G A Γ.2.2.1.1.heap (mW G a M23)) 0 0 [(0, .ref (a 0)), (1, .int x1), (2, .int x2), (3, .int x3), (4, .int x4), (5, .int x5), (6, .int x6)] 113 [.int m24] := by
                  intro M23 eM23 m24 em24
                  have hv := kk_vq hv eM23
                  clear eM23
                  rewrite [em24]; clear em24
                  subst hv; exact z_iret_W hQ rfl rfl rfl ⟨rfl, rfl⟩ dX7_comer_113
                refine z_icmp_ne (tgt := 100) dX7_comer_88 (by decide) (fun c18 => ?_) (fun c18 => ?_)
                · have hp := ip_f hpm c18
                  refine z_aload_n dX7_comer_100 rfl ?_
                  refine z_iload_n dX7_comer_101 rfl ?_
                  refine z_iload_n dX7_comer_102 rfl ?_
                  refine z_iload_n dX7_comer_103 rfl ?_
                  refine z_iload dX7_comer_104 rfl ?_
                  refine z_iload dX7_comer_106 rfl ?_
                  refine z_iload dX7_comer_108 rfl ?_
                  have q19 := hp
                  refine z_caviD hw (fun sz => c_X7_adds G a hw.1 sz M x1 x2 x3 x4 x5 x6 q19) zc_X7_adds zv_X7_adds tw_m_RX7_120 (mrec wr_P) (zroom_of rfl) rfl (Nat.le_of_ble_eq_true rfl) dX7_comer_110 ?_
                  exact z_lv rfl (J34 _ (if_neg c18).symm _ (if_neg c18).symm)
                · have hp := ip_t hpm c18
                  refine z_aload_n dX7_comer_91 rfl ?_
                  refine z_bipush (v := (-7)) dX7_comer_92 rfl ?_
                  have q21 := hp
                  refine z_caviD hw (fun sz => c_X7_no G a hw.1 sz M (-7) q21) zc_X7_no zv_X7_no tw_m_RX7_106 (mrec wr_P) (zroom_of rfl) rfl (Nat.le_of_ble_eq_true rfl) dX7_comer_94 ?_
                  refine z_goto (tgt := 113) dX7_comer_97 (by decide) ?_
                  exact z_lv rfl (J34 _ (if_pos c18).symm _ (if_pos c18).symm)
              · have hp := ip_t hp c17; have hv := it_t hv c17
                refine z_aload_n dX7_comer_75 rfl ?_
                refine z_bipush (v := (-6)) dX7_comer_76 rfl ?_
                have q25 := hp
                refine z_caviD hw (fun sz => c_X7_no G a hw.1 sz M (-6) q25) zc_X7_no zv_X7_no tw_m_RX7_106 (mrec wr_P) (zroom_of rfl) rfl (Nat.le_of_ble_eq_true rfl) dX7_comer_78 ?_
                suffices z35 : ∀ q26 : Int32 × mT, q26 = (v_X7_no M (-6)) → Z k_X7_comer G Γ (wr G A Γ.2.2.1.1.heap (mW G a q26.2)) 0 0 [(0, .ref (a 0)), (1, .int x1), (2, .int x2), (3, .int x3), (4, .int x4), (5, .int x5), (6, .int x6)] 81 [.int q26.1] from z35 _ rfl
                intro q26 hq26
                have hv := kk_vq hv hq26
                clear hq26
                subst hv; exact z_iret_W hQ rfl rfl rfl ⟨rfl, rfl⟩ dX7_comer_81
    · have hp := ip_f hp c4; have hv := it_f hv c4
      refine z_aload_n dX7_comer_10 rfl ?_
      refine z_iconst (v := (-1)) dX7_comer_11 rfl ?_
      have q27 := hp
      refine z_caviD hw (fun sz => c_X7_no G a hw.1 sz M (-1) q27) zc_X7_no zv_X7_no tw_m_RX7_106 (mrec wr_P) (zroom_of rfl) rfl (Nat.le_of_ble_eq_true rfl) dX7_comer_12 ?_
      suffices z36 : ∀ q28 : Int32 × mT, q28 = (v_X7_no M (-1)) → Z k_X7_comer G Γ (wr G A Γ.2.2.1.1.heap (mW G a q28.2)) 0 0 [(0, .ref (a 0)), (1, .int x1), (2, .int x2), (3, .int x3), (4, .int x4), (5, .int x5), (6, .int x6)] 15 [.int q28.1] from z36 _ rfl
      intro q28 hq28
      have hv := kk_vq hv hq28
      clear hq28
      subst hv; exact z_iret_W hQ rfl rfl rfl ⟨rfl, rfl⟩ dX7_comer_15
