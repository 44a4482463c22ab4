/-! the law's entry: both are made -/
theorem RA_start (P : pT) : RA P nI0 rI rI vI (fun _ => sI) mI := by
  refine ⟨⟨fun j _ => rfl, rfl, rfl, Or.inl rfl⟩, fun s _ => Or.inl ⟨rfl, rfl, rfl⟩, ?_, fun h => absurd h (by decide), ⟨rfl, by decide, fun _ _ _ => rfl⟩, ⟨rfl, fun i hi => ?_, fun i hi => ?_, fun i hi => ?_⟩⟩
  · refine ⟨⟨rfl, rfl, rfl, rfl, rfl, rfl, rfl⟩, ?_, fun c hc => ?_, fun c _ q hq => ?_⟩
    · exact ⟨⟨by decide, by decide⟩, ⟨by decide, by decide⟩, ⟨by decide, by decide⟩, ⟨by decide, by decide⟩, ⟨by decide, by decide⟩⟩
    · have e : (mI.1 0).toInt = 0 := by decide
      omega
    · cases hq
  · show fa_fill t_words (fun _ => 0) 36 i = t_words i
    unfold fa_fill
    exact if_pos hi
  · show fa_fill t_numbers (fun _ => 0) 6 i = t_numbers i
    unfold fa_fill
    exact if_pos hi
  · show fa_fill t_mosts (fun _ => 0) 6 i = t_mosts i
    unfold fa_fill
    exact if_pos hi
section LAWENTRY
variable {G : zG} {Γ : zT} {P : pT} {b k n : Nat} {lv : List (Nat × Value)} {pc : Nat} {st : List Value} {ws : va_W}
theorem LI_of_wr (hw : wk (gX G P) (lA Γ) Γ.2.2.1.1.heap) (h : Z kL G Γ (LJ G P Γ ws) k n lv pc st) : Z kL G Γ (wr G (lA Γ) Γ.2.2.1.1.heap ws) k n lv pc st := z_inv h fun H locs hi => ⟨hi, (gX_ok G P).2 _ _ H (fun q _ hq => by
  rcases hq with hq | hq
  · obtain ⟨e, he⟩ := vaA_mem.mp hq
    exact (va_D_iff.mp hi.2.1).2 _ he
  · exact Nat.le_trans hi.2.2.1 hq) (wr_X hw H locs hi)⟩
set_option maxHeartbeats 4000000 in
theorem lw_entry (hw : wk (gX G P) (lA Γ) Γ.2.2.1.1.heap) (h : lwS G Γ b 0 73 3340 18) : Z kL G Γ (wr G (lA Γ) Γ.2.2.1.1.heap []) 0 0 [(0, .ref b)] 0 [] := by
  refine z_new (ci := 6) (fs := [.null, .null, .null, .null, .null, .null, .null, .null, .null, .null, .int 0, .int 0]) hw rfl uin_X6 tyX6 tyX6_ok tw_k_RL_7 tw_n_RX6 tw_i_TollForHesitators (fun j hj => by rcases (show j = 0 ∨ j = 1 ∨ j = 2 ∨ j = 3 ∨ j = 4 ∨ j = 5 ∨ j = 6 ∨ j = 7 ∨ j = 8 ∨ j = 9 ∨ j = 10 ∨ j = 11 by omega) with rfl | rfl | rfl | rfl | rfl | rfl | rfl | rfl | rfl | rfl | rfl | rfl <;> rfl) (Nat.le_of_ble_eq_true rfl) (Nat.le_of_ble_eq_true rfl) dL_0 (fun q6 => ?_)
  refine z_dup dL_3 rfl ?_
  refine z_cinit (K := kL) (index := 9) (st := [.ref q6]) hw (fun sz => c_X6_init G P q6 sz) zc_X6_init ⟨rfl, tw_inst_yX6_init⟩ tw_m_RL_9 (zroom_of rfl) rfl (Nat.le_of_ble_eq_true rfl) dL_4 (fun w1 hw1 => ?_)
  obtain ⟨a, q, ha, hw1⟩ := hw1
  subst ha
  refine z_astore_n (lv' := [(1, .ref (a 0)), (0, .ref b)]) dL_7 (by decide) rfl ?_
  refine z_new (ci := 7) (fs := [.int 0, .int 0, .int 0, .int 0, .int 0, .int 0, .int 0, .int 0, .null, .null, .null, .null, .null, .null, .null, .null, .null, .null, .null, .null, .null, .null, .null, .null, .null, .null, .int 0, .int 0, .int 0, .int 0, .int 0, .null, .null, .null, .null, .null, .int 0, .int 0, .int 0, .int 0, .int 0, .int 0, .null, .int 0, .int 0]) hw rfl uin_X7 tyX7 tyX7_ok tw_k_RL_10 tw_n_RX7 tw_i_TollForHesitatorsModel (fun j hj => by rcases (show j = 0 ∨ j = 1 ∨ j = 2 ∨ j = 3 ∨ j = 4 ∨ j = 5 ∨ j = 6 ∨ j = 7 ∨ j = 8 ∨ j = 9 ∨ j = 10 ∨ j = 11 ∨ j = 12 ∨ j = 13 ∨ j = 14 ∨ j = 15 ∨ j = 16 ∨ j = 17 ∨ j = 18 ∨ j = 19 ∨ j = 20 ∨ j = 21 ∨ j = 22 ∨ j = 23 ∨ j = 24 ∨ j = 25 ∨ j = 26 ∨ j = 27 ∨ j = 28 ∨ j = 29 ∨ j = 30 ∨ j = 31 ∨ j = 32 ∨ j = 33 ∨ j = 34 ∨ j = 35 ∨ j = 36 ∨ j = 37 ∨ j = 38 ∨ j = 39 ∨ j = 40 ∨ j = 41 ∨ j = 42 ∨ j = 43 ∨ j = 44 by omega) with rfl | rfl | rfl | rfl | rfl | rfl | rfl | rfl | rfl | rfl | rfl | rfl | rfl | rfl | rfl | rfl | rfl | rfl | rfl | rfl | rfl | rfl | rfl | rfl | rfl | rfl | rfl | rfl | rfl | rfl | rfl | rfl | rfl | rfl | rfl | rfl | rfl | rfl | rfl | rfl | rfl | rfl | rfl | rfl | rfl <;> rfl) (Nat.le_of_ble_eq_true rfl) (Nat.le_of_ble_eq_true rfl) dL_8 (fun q7 => ?_)
  refine z_dup dL_11 rfl ?_
  refine z_cinit (K := kL) (index := 12) (st := [.ref q7]) hw (fun sz => c_X7_init G P q7 sz) zc_X7_init ⟨rfl, tw_inst_yX7_init⟩ tw_m_RL_12 (zroom_of rfl) rfl (Nat.le_of_ble_eq_true rfl) dL_12 (fun w2 hw2 => ?_)
  obtain ⟨a', ha', hw2⟩ := hw2
  subst ha'
  refine z_astore_n (lv' := [(2, .ref (a' 0)), (1, .ref (a 0)), (0, .ref b)]) dL_15 (by decide) rfl ?_
  refine z_iconst (v := 0) dL_16 rfl ?_
  refine z_istore_n (lv' := [(3, .int 0), (2, .ref (a' 0)), (1, .ref (a 0)), (0, .ref b)]) dL_17 (by decide) rfl ?_
  refine z_eqw (ws' := lwW G a a' q nI0 rI rI rI eI oI oI oI vI (fun _ => sI) mI) (by rw [hw1, hw2]; simp only [List.nil_append, List.append_assoc]) ?_
  exact LI_of_wr hw (h P a a' q nI0 rI rI rI eI oI oI oI vI (fun _ => sI) mI (RA_start P))
end LAWENTRY
