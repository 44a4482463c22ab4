/-! what the law knows at its start -/
theorem st_G {args : Array Value} {s : State} {A : Nat → Prop} (hs : ∀ c ∈ flatC (Jvm.Cond.and given_1 narrow_1), c.before args s = true) (hts : ∀ w ∈ lw_tbl, w.before args s = true) (hA : ∀ a : Nat, a < s.heap.size → ¬ A a) : ∃ G : zG, GK G s ∧ gX G ([], fun _ _ => 0) A s.heap := by
  have htS : ∀ w ∈ TS, w.before args s = true := fun w hw => hts w (List.mem_filter.mp hw).1
  obtain ⟨c0, i0, k0⟩ := u_known (C := RX0) (T := TX0) (N := 5) (n := 5) htS uin_X0 (htS _ tw_n_RX0)
  obtain ⟨c1, i1, k1⟩ := u_known (C := RX1) (T := TX1) (N := 3) (n := 3) htS uin_X1 (htS _ tw_n_RX1)
  obtain ⟨c2, i2, k2⟩ := u_known (C := RX2) (T := TX2) (N := 8) (n := 8) htS uin_X2 (htS _ tw_n_RX2)
  obtain ⟨c3, i3, k3⟩ := u_known (C := RX3) (T := TX3) (N := 7) (n := 7) htS uin_X3 (htS _ tw_n_RX3)
  obtain ⟨c4, i4, k4⟩ := u_known (C := RX4) (T := TX4) (N := 11) (n := 11) htS uin_X4 (htS _ tw_n_RX4)
  obtain ⟨c5, i5, k5⟩ := u_known (C := RX5) (T := TX5) (N := 3) (n := 3) htS uin_X5 (htS _ tw_n_RX5)
  obtain ⟨c6, i6, k6⟩ := u_known (C := RX6) (T := TX6) (N := 12) (n := 12) htS uin_X6 (htS _ tw_n_RX6)
  obtain ⟨c7, i7, k7⟩ := u_known (C := RX7) (T := TX7) (N := 45) (n := 45) htS uin_X7 (htS _ tw_n_RX7)
  obtain ⟨aI, hI1, hI2⟩ := arr_of (ty := .int) (hts _ (List.mem_of_getElem? (i := 151) (by decide +kernel)))
  obtain ⟨aL, hL1, hL2⟩ := arr_of (ty := .long) (hts _ (List.mem_of_getElem? (i := 174) (by decide +kernel)))
  obtain ⟨aC, hC1, hC2⟩ := arr_ofq (C := RX0) (hts _ (List.mem_of_getElem? (i := 98) (by decide +kernel)))
  obtain ⟨aS, hS1, hS2⟩ := arr_ofq (C := RX5) (hts _ (List.mem_of_getElem? (i := 153) (by decide +kernel)))
  obtain ⟨t0, z0, T0⟩ := st_ABOVE hs hts hA
  obtain ⟨t1, z1, T1⟩ := st_BODIES hs hts hA
  obtain ⟨t2, z2, T2⟩ := st_LEAST_OF_COMER hs hts hA
  obtain ⟨t3, z3, T3⟩ := st_MOST_OF_COMER hs hts hA
  obtain ⟨adK, adV, hk, hev⟩ := st_strings hs hts hA
  let ad : Nat → Nat := fun j => if j < 10 then ([t0, t1, t2, t3] : List Nat).getD j 0 else if j < 20 then adK (j - 10) else adV (j - 20)
  have e1 : ∀ i : Nat, i < 7 → ad (10 + i) = adK i := fun i hi => by
    show (if 10 + i < 10 then _ else if 10 + i < 20 then adK (10 + i - 10) else _) = _
    rw [if_neg (by omega), if_pos (by omega), Nat.add_sub_cancel_left]
  have e2 : ∀ i : Nat, i < 7 → ad (20 + i) = adV i := fun i hi => by
    show (if 20 + i < 10 then _ else if 20 + i < 20 then _ else adV (20 + i - 20)) = _
    rw [if_neg (by omega), if_neg (by omega), Nat.add_sub_cancel_left]
  refine ⟨(s, (fun c => ([c0, c1, c2, c3, c4, c5, c6, c7] : List ClassId).getD c c0, fun c => ([i0, i1, i2, i3, i4, i5, i6, i7] : List (Nat → Nat)).getD c i0), fun j => ([aI, aL, aC, aS] : List ClassId).getD j aI, ad), ⟨Vm.Alike.refl _, ⟨fun c q hq => ?_, fun c q hq => ?_⟩, ⟨va_AO.of (hts _ (List.mem_of_getElem? (i := 98) (by decide +kernel))), va_AO.of (hts _ (List.mem_of_getElem? (i := 153) (by decide +kernel)))⟩, fun q hq => ?_, fun q hq => ?_⟩, ⟨⟨⟨z0, T0⟩, ⟨z1, T1⟩, ⟨z2, T2⟩, ⟨z3, T3⟩, ?_, ?_, fun i hi => ?_⟩, fun q hq => absurd hq List.not_mem_nil⟩⟩
  · match c, hq with
    | 0, hq => cases hq; exact k0
    | 1, hq => cases hq; exact k1
    | 2, hq => cases hq; exact k2
    | 3, hq => cases hq; exact k3
    | 4, hq => cases hq; exact k4
    | 5, hq => cases hq; exact k5
    | 6, hq => cases hq; exact k6
    | 7, hq => cases hq; exact k7
    | c + 8, hq => simp [CL] at hq
  · match c, hq with
    | 0, hq => cases hq; exact ⟨hI1, hI2⟩
    | 1, hq => cases hq; exact ⟨hL1, hL2⟩
    | 2, hq => cases hq; exact ⟨hC1, hC2⟩
    | 3, hq => cases hq; exact ⟨hS1, hS2⟩
    | c + 4, hq => simp [TYS] at hq
  · rcases List.mem_cons.mp hq with rfl | hq
    · exact va_Nw.of rfl (hts _ (List.mem_of_getElem? (i := 93) (by decide +kernel)))
    rcases List.mem_cons.mp hq with rfl | hq
    · exact va_Nw.of rfl (hts _ (List.mem_of_getElem? (i := 155) (by decide +kernel)))
    rcases List.mem_cons.mp hq with rfl | hq
    · exact va_Nw.of rfl (hts _ (List.mem_of_getElem? (i := 177) (by decide +kernel)))
    rcases List.mem_cons.mp hq with rfl | hq
    · exact va_Nw.of rfl (hts _ (List.mem_of_getElem? (i := 242) (by decide +kernel)))
    rcases List.mem_cons.mp hq with rfl | hq
    · exact va_Nw.of rfl (hts _ (List.mem_of_getElem? (i := 564) (by decide +kernel)))
    rcases List.mem_cons.mp hq with rfl | hq
    · exact va_Nw.of rfl (hts _ (List.mem_of_getElem? (i := 807) (by decide +kernel)))
    exact absurd hq List.not_mem_nil
  · rcases List.mem_cons.mp hq with rfl | hq
    · exact vk_R.of (hts _ (List.mem_of_getElem? (i := 481) (by decide +kernel))) (by have := hev 0 (by decide); rw [← e1 0 (by decide)] at this; exact this)
    rcases List.mem_cons.mp hq with rfl | hq
    · exact vk_R.of (hts _ (List.mem_of_getElem? (i := 482) (by decide +kernel))) (by have := hev 1 (by decide); rw [← e1 1 (by decide)] at this; exact this)
    rcases List.mem_cons.mp hq with rfl | hq
    · exact vk_R.of (hts _ (List.mem_of_getElem? (i := 483) (by decide +kernel))) (by have := hev 2 (by decide); rw [← e1 2 (by decide)] at this; exact this)
    rcases List.mem_cons.mp hq with rfl | hq
    · exact vk_R.of (hts _ (List.mem_of_getElem? (i := 484) (by decide +kernel))) (by have := hev 3 (by decide); rw [← e1 3 (by decide)] at this; exact this)
    rcases List.mem_cons.mp hq with rfl | hq
    · exact vk_R.of (hts _ (List.mem_of_getElem? (i := 485) (by decide +kernel))) (by have := hev 4 (by decide); rw [← e1 4 (by decide)] at this; exact this)
    rcases List.mem_cons.mp hq with rfl | hq
    · exact vk_R.of (hts _ (List.mem_of_getElem? (i := 486) (by decide +kernel))) (by have := hev 5 (by decide); rw [← e1 5 (by decide)] at this; exact this)
    rcases List.mem_cons.mp hq with rfl | hq
    · exact vk_R.of (hts _ (List.mem_of_getElem? (i := 487) (by decide +kernel))) (by have := hev 6 (by decide); rw [← e1 6 (by decide)] at this; exact this)
    exact absurd hq List.not_mem_nil
  · exact va_Zof (hts _ (List.mem_of_getElem? (i := 505) (by decide +kernel))) (hts _ (List.mem_of_getElem? (i := 78) (by decide +kernel))) (va_eqt (hs _ (List.mem_of_getElem? (i := 14) (by decide +kernel)))) hA
  · exact va_Zqof (hts _ (List.mem_of_getElem? (i := 521) (by decide +kernel))) (hts _ (List.mem_of_getElem? (i := 80) (by decide +kernel))) (hs _ (List.mem_of_getElem? (i := 15) (by decide +kernel))) hA
  · have h := hk.1 i hi
    rw [← e1 i hi, ← e2 i hi] at h
    exact h
