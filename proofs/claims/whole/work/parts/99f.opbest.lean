/-! the best order, asked -/
section
variable {P : pT} {N : nT} {R Q : rT} {V : vT} {F : fT} {M : mT}
theorem best_ok (h : RA P N R Q V F M) (O T : oT) {n : Nat} (hn : n ≤ 7) (hE : M.1 0 = Int32.ofNat n) (hRe : R.1 4 = Int32.ofNat n) : p_X2_findBest P O T R ∧ p_X7_lays 9 (msf (msf M 40 99) 41 99) 0 0 ∧ ∃ O' T' M' K, v_X2_findBest P O T R = (O', T') ∧ v_X7_lays 9 (msf (msf M 40 99) 41 99) 0 0 = M' ∧ CR M M' ∧ FO n (R.1 7).toInt T' M' K ∧ K < 8000 := by
  have hR := h.2.2.1
  have eI : (M.1 0).toInt = (n : Int) := by rw [hE, n_of (by omega)]
  obtain ⟨a1, O1, a2, a3, a4, a5, a6⟩ := num_all hn hRe O
  obtain ⟨b1, T1, b2, b3, b4, b5, b6⟩ := num_all hn hRe T
  obtain ⟨w1, B, O2, l, w2, w3, w4, w5, w6, w7, w8⟩ := weigh_ok (P := P) hR hn eI a3
  have cr0 : CR M (msf (msf M 40 99) 41 99) := ⟨fun i hi => by rw [msf_ne (by omega), msf_ne (by omega)], fun _ _ _ _ => rfl, rfl⟩
  have hR0 := RR_r cr0 hR
  have h360 : (msf (msf M 40 99) 41 99).1 36 = 0 := (cr0.1 36 (by omega)).trans h.2.2.2.2.2.1
  have h00 : (msf (msf M 40 99) 41 99).1 0 = Int32.ofNat n := (cr0.1 0 (by omega)).trans hE
  have hK0 : BK (msf (msf M 40 99) 41 99) (R.1 7).toInt 8000 := Or.inl ⟨rfl, (msf_ne (by decide)).trans msf_at, msf_at⟩
  unfold p_X2_findBest v_X2_findBest
  simp only [kk_def]
  rw [a2, b2, w2]
  dsimp only
  by_cases z : n = 0
  · subst z
    have e3 : O1.1 3 = 0 := a3
    have e23 : O2.1 3 = 0 := by rw [w3]; exact a3
    rw [if_pos e3]
    obtain ⟨j1, M', j2, j3, j4, j5⟩ := leaf_ok (P := P) (R := R) (f := fun _ => 0) (fm := 8) (x := 0) (by omega) hR0 h360 h00 ⟨fun i hi => absurd hi (by omega), fun i j hi => absurd hi (by omega)⟩ (fun j hj => absurd hj (by omega)) (fun i hi => absurd hi (by omega)) hK0
    have s0 : (st P R 0 (fun _ => 0) 0).2.2 = 0 := rfl
    have stop : p_X2_findBest_r P R 200 O2 (osf T1 7 0) B 0 ∧ v_X2_findBest_r P R 200 O2 (osf T1 7 0) B 0 = (O2, osf T1 7 0) := by
      rw [p_X2_findBest_r, v_X2_findBest_r, e23, if_pos (show (0 : Int32) ≤ 0 by decide), if_pos (show (0 : Int32) ≤ 0 by decide)]
      exact ⟨trivial, rfl⟩
    refine ⟨⟨a1, b1, w1, stop.1⟩, j1, O2, osf T1 7 0, M', 0, stop.2, j2, cr0.tr j3, ?_, by omega⟩
    rw [s0] at j5
    rcases j5 with ⟨-, k2, -⟩ | ⟨k1, -⟩
    · exact ⟨(osf_ne (by decide)).trans b3, by rw [osf_at]; rfl, k2, fun _ j hj => absurd hj (by omega), by omega⟩
    · omega
  · have n3 : ¬ O1.1 3 = 0 := by rw [a3, n_eq, n_of (by omega), n_0]; omega
    rw [if_neg n3]
    have hF : FO n (R.1 7).toInt (osf T1 7 8000) (msf (msf M 40 99) 41 99) 8000 := ⟨(osf_ne (by decide)).trans b3, by rw [osf_at, n_8000], hK0, fun hk => absurd hk (by omega), Int.le_refl _⟩
    obtain ⟨j1, j2, O3, T3, M', K, j3, j4, j5, j6, j7, j8⟩ := top_loop (P := P) (R := R) hn w8 w6 n 0 200 200 O2 (osf T1 7 8000) (msf (msf M 40 99) 41 99) 8000 (by omega) (by omega) (by omega) hR0 h360 h00 (by rw [w3]; exact a3) w5 hF (fun g _ _ h => absurd h (by omega))
    have wz : ¬ Int32.ofNat n ≤ (0 : Int32) := by rw [n_le, n_of (by omega), n_0]; omega
    have e7 : R.1 7 = M.1 3 := hR.1.2.2.2.1
    have ht : 1 ≤ (R.1 7).toInt ∧ (R.1 7).toInt ≤ 99 := by rw [e7]; exact hR.2.1.2.2.2.1
    have hid := j8 (fun j => j) (DL_id hn) (fun i hi => hi) (by omega)
    have sw := st_w (P := P) (n := n) (g := fun j => j) ht n
    rw [p_X7_lays, v_X7_lays, h00, if_neg wz, if_neg wz]
    exact ⟨⟨a1, b1, w1, j1⟩, j2, O3, T3, M', K, j3, j4, cr0.tr j5, j6, by omega⟩
theorem op_best (h : RA P N R Q V F M) (T U : oT) (x : Int32) : p_X6_best P N R T U x ∧ p_X7_best M x ∧ (v_X6_best P N R T U x).1 = (v_X7_best M x).1 ∧ RA P (v_X6_best P N R T U x).2.1 R Q V F (v_X7_best M x).2 := by
  have r5 := RA_ten h (b := 5) (by decide) (by decide)
  have n5 : p_X7_noTen M (-5) := p_noTen (b := 5) (by decide) (by decide)
  have e4 : R.1 4 = M.1 0 := h.2.2.1.1.1
  have m2 : (-2 : Int32).toInt = -2 := rfl
  unfold p_X6_best p_X7_best v_X6_best v_X7_best
  rw [e4]
  simp only [kk_def]
  by_cases c1 : x < -2
  · simp only [if_pos c1]
    exact ⟨p_refuse N 5, n5, r5⟩
  simp only [if_neg c1]
  by_cases c2 : x < M.1 0
  · simp only [if_pos c2]
    obtain ⟨n, hn, hE, hRe, hI⟩ := h.2.2.1.e0
    obtain ⟨j1, j2, O', T', M', K, j3, j4, j5, ⟨f1, f2, f3, f4, -⟩, j7⟩ := best_ok h T U hn hE hRe
    rw [j3, j4]
    dsimp only
    have hA := RA_congr j5.q h
    have e7 : R.1 7 = M'.1 3 := hA.2.2.1.1.2.2.2.1
    have ht : 1 ≤ (R.1 7).toInt ∧ (R.1 7).toInt ≤ 99 := by rw [e7]; exact hA.2.2.1.2.1.2.2.2.1
    rcases f3 with ⟨k1, -⟩ | ⟨b, p, hb, hp, k1, k2, k3⟩
    · omega
    have tp : 0 ≤ (R.1 7).toInt * (p : Int) ∧ (R.1 7).toInt * (p : Int) ≤ 99 * 7 := ⟨Int.mul_nonneg (by omega) (by omega), Int.mul_le_mul ht.2 (by omega) (by omega) (by omega)⟩
    have dv : (T'.1 7 / 1000).toInt = (b : Int) := by
      rw [n_div (by omega) (by decide), f2, n_1000]
      omega
    rw [n_lt, m2] at c1
    rw [n_lt, hI] at c2
    by_cases x2 : x = -2
    · have x1 : ¬ x = -1 := by rw [x2]; decide
      simp only [if_pos x2, if_neg x1]
      refine ⟨⟨j1, trivial⟩, ⟨j2, trivial⟩, ?_, hA⟩
      rw [n_eq, dv, k1, n_of (by omega)]
    · simp only [if_neg x2]
      by_cases x1 : x = -1
      · simp only [if_pos x1]
        refine ⟨⟨j1, trivial⟩, ⟨j2, trivial⟩, ?_, hA⟩
        have d2 : (T'.1 7 / 1000 * 1000).toInt = (b : Int) * 1000 := by rw [n_mul (by rw [dv, n_1000]; omega) (by rw [dv, n_1000]; omega), dv, n_1000]
        rw [n_eq, n_sub (by rw [d2]; omega) (by rw [d2]; omega), d2, f2, k2, ← e7, n_mul (by rw [n_of (by omega), Int.mul_comm]; omega) (by rw [n_of (by omega), Int.mul_comm]; omega), n_of (by omega), Int.mul_comm (p : Int)]
        omega
      · simp only [if_neg x1]
        have x0 : 0 ≤ x.toInt := by
          rw [n_eq, n_m1] at x1
          rw [n_eq, m2] at x2
          omega
        obtain ⟨i, hi, rfl⟩ : ∃ i : Nat, i < n ∧ x = Int32.ofNat i := ⟨x.toNatClampNeg, by rw [n_tn]; omega, n_back x0⟩
        refine ⟨⟨j1, p_memb⟩, ⟨j2, nat_in (by omega) (by omega)⟩, ?_, hA⟩
        unfold v_X2_memberAt
        rw [if_neg (by rw [n_lt, n_of (by omega), n_0]; omega), f1, if_neg (by rw [nat_le (by omega) (by omega)]; omega), if_pos (by rw [n_lt, n_of (by omega), n_7]; omega), tn_of (by omega)]
        exact f4 j7 i hi
  · simp only [if_neg c2]
    exact ⟨p_refuse N 5, n5, r5⟩
end
