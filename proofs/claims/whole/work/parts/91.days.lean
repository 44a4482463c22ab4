/-! a day passes, to both -/
section
variable {P : pT} {N : nT} {R Q : rT} {V : vT} {F : fT} {M : mT} {f : Nat → Nat} {n : Nat}
theorem pass_ok (hR : RR P R M) (hn : n ≤ 7) (hd : DL f n) (h33 : ∀ j, j < n → M.2.1 33 j = Int32.ofNat (f j)) (hpay : ∀ j, j < n → M.2.1 34 j = 1 → (M.1 3).toInt ≤ (M.2.1 14 (f j)).toInt) : p_X4_passDay R (Int32.ofNat (ksum f (M.2.1 34) 0 n)) (Int32.ofNat (ksum f (M.2.1 34) 1 n)) ∧ p_X7_passes M (Int32.ofNat n) ∧ ∃ R' M', v_X4_passDay R (Int32.ofNat (ksum f (M.2.1 34) 0 n)) (Int32.ofNat (ksum f (M.2.1 34) 1 n)) = R' ∧ v_X7_passes M (Int32.ofNat n) = M' ∧ RR P R' M' ∧ (∀ i, i ≠ 5 → M'.1 i = M.1 i) ∧ (∀ j, j ≠ 11 → j ≠ 14 → j ≠ 15 → M'.2.1 j = M.2.1 j) ∧ M'.2.2 = M.2.2 ∧ (∀ i, i ≠ 9 → R'.1 i = R.1 i) := by
  obtain ⟨e, he, hE, hRe, hI⟩ := hR.e0
  obtain ⟨f1, -, f3⟩ := ksum_ok (f := f) (w := M.2.1 34) (h := 0) n hn hd
  obtain ⟨p1, -, p3⟩ := ksum_ok (f := f) (w := M.2.1 34) (h := 1) n hn hd
  have dis : ∀ c, c < 7 → (ksum f (M.2.1 34) 1 n).testBit c = true → ¬ (ksum f (M.2.1 34) 0 n).testBit c = true := fun c hc h1 h0 => by
    obtain ⟨i, a1, a2, a3⟩ := (p3 c hc).mp h1
    obtain ⟨j, b1, b2, b3⟩ := (f3 c hc).mp h0
    have : i = j := hd.2 i j a1 b1 (a2.trans b2.symm)
    subst this
    rw [a3] at b3
    exact absurd b3 (by decide)
  have paid : ∀ c, c < 7 → (ksum f (M.2.1 34) 1 n).testBit c = true → (M.1 3).toInt ≤ (M.2.1 14 c).toInt := fun c hc h1 => by
    obtain ⟨i, a1, a2, a3⟩ := (p3 c hc).mp h1
    have := hpay i a1 a3
    rw [a2] at this
    exact this
  obtain ⟨x1, R1, x2, x3⟩ := dayx_loop (e := e) he f1 p1 hRe 200 0 R (by omega) (by omega) ⟨rfl, rfl, fun c _ => (if_neg (by omega)).symm, fun c _ => (if_neg (by omega)).symm, fun c _ => (if_neg (by omega)).symm⟩
  obtain ⟨m1, M1, m2, m3⟩ := pass_loop (M0 := M) (f := f) hn hd h33 200 0 M (by omega) (by omega) ⟨rfl, fun _ _ _ _ => rfl, rfl, fun c _ => by rw [ksum, Nat.zero_testBit]; rfl, fun c _ => by rw [ksum, ksum, Nat.zero_testBit]; rfl, fun c _ => by rw [ksum, Nat.zero_testBit]; rfl⟩
  refine ⟨x1, m1, rsf R1 9 (R1.1 9 + 1), msf M1 5 (M1.1 5 + 1), x2, m2, ?_, fun i hi => ?_, fun j a b c => ?_, m3.2.2.1, fun i hi => ?_⟩
  · obtain ⟨⟨a4, a5, a6, a7, a8, a9, a10⟩, ⟨o0, o1, o2, o3, o4⟩, hc, hr⟩ := hR
    obtain ⟨y1, y2, y3, y4, y5⟩ := x3
    obtain ⟨z1, z2, z3, z4, z5, z6⟩ := m3
    have mn : ∀ i, i ≠ 5 → (msf M1 5 (M1.1 5 + 1)).1 i = M.1 i := fun i hi => by rw [msf_ne hi, z1]
    have rn : ∀ i, i ≠ 9 → (rsf R1 9 (R1.1 9 + 1)).1 i = R.1 i := fun i hi => by
      show va_up R1.1 9 _ i = _
      rw [up_ne hi, y1]
    generalize ksum f (M.2.1 34) 1 n = pa at *
    generalize ksum f (M.2.1 34) 0 n = fr at *
    refine ⟨⟨?_, ?_, ?_, ?_, ?_, ?_, ?_⟩, ⟨?_, ?_, ?_, ?_, ?_⟩, fun c hlt => ?_, fun c hc7 q eq => ?_⟩
    · rw [rn 4 (by decide), mn 0 (by decide)]; exact a4
    · rw [rn 5 (by decide), mn 1 (by decide)]; exact a5
    · rw [rn 6 (by decide), mn 2 (by decide)]; exact a6
    · rw [rn 7 (by decide), mn 3 (by decide)]; exact a7
    · rw [rn 8 (by decide), mn 4 (by decide)]; exact a8
    · show va_up R1.1 9 (R1.1 9 + 1) 9 = va_up M1.1 5 (M1.1 5 + 1) 5
      rw [up_at, up_at, y1, z1, a9]
    · rw [rn 10 (by decide), mn 6 (by decide)]; exact a10
    · rw [mn 0 (by decide)]; exact o0
    · rw [mn 1 (by decide)]; exact o1
    · rw [mn 2 (by decide)]; exact o2
    · rw [mn 3 (by decide)]; exact o3
    · rw [mn 4 (by decide)]; exact o4
    · rw [mn 0 (by decide)] at hlt
      have hc7 : c < 7 := by omega
      have hce : c < e := by omega
      obtain ⟨⟨q, q1, q2, q3⟩, ⟨r1, r2, r3⟩, ⟨k0, k1, k2, k3, k4, k5, k6⟩⟩ := hc c hlt
      have r1' : R.2.1 1 c = M.2.1 11 c := r1
      have r2' : R.2.1 2 c = M.2.1 14 c := r2
      have r3' : R.2.1 3 c = M.2.1 15 c := r3
      have k2' : 0 ≤ (M.2.1 11 c).toInt ∧ (M.2.1 11 c).toInt ≤ 30 := k2
      have k5' : 0 ≤ (M.2.1 14 c).toInt ∧ (M.2.1 14 c).toInt ≤ 999 := k5
      have k6' : 0 ≤ (M.2.1 15 c).toInt ∧ (M.2.1 15 c).toInt ≤ 30 := k6
      have d0 : M1.2.1 9 c = M.2.1 9 c := by rw [z2 9 (by decide) (by decide) (by decide)]
      have d1 : M1.2.1 10 c = M.2.1 10 c := by rw [z2 10 (by decide) (by decide) (by decide)]
      have d3 : M1.2.1 12 c = M.2.1 12 c := by rw [z2 12 (by decide) (by decide) (by decide)]
      have d4 : M1.2.1 13 c = M.2.1 13 c := by rw [z2 13 (by decide) (by decide) (by decide)]
      obtain ⟨un, un1, un2⟩ := up30_eq k2'
      obtain ⟨ud, ud1, ud2⟩ := up30_eq k6'
      obtain ⟨dd, dd1, dd2⟩ := dn0_eq k6'
      have g1 := y3 c hc7
      have g2 := y4 c hc7
      have g3 := y5 c hc7
      rw [if_pos hce] at g1 g2 g3
      have l1 := z6 c hc7
      have l2 := z4 c hc7
      have l3 := z5 c hc7
      rw [r1', un] at g1
      rw [r2', a7] at g2
      rw [r3', ud, dd] at g3
      have E1 : R1.2.1 1 c = M1.2.1 11 c := by
        rw [g1, l1]
        by_cases t : pa.testBit c = true
        · rw [if_pos t, if_neg (dis c hc7 t)]
        · rw [if_neg t]
      have E2 : R1.2.1 2 c = M1.2.1 14 c := by rw [g2, l2]
      have E3 : R1.2.1 3 c = M1.2.1 15 c := by rw [g3, l3]
      refine ⟨⟨q, q1, ?_, ?_⟩, ⟨E1, E2, E3⟩, ?_⟩
      · show R1.2.2 c = some q
        rw [y2]; exact q2
      · exact ⟨q3.1, q3.2.1.trans d0.symm, q3.2.2.1.trans d1.symm, q3.2.2.2.1.trans d3.symm, q3.2.2.2.2.trans d4.symm⟩
      · refine ⟨?_, ?_, ?_, ?_, ?_, ?_, ?_⟩
        · show 0 ≤ (M1.2.1 9 c).toInt ∧ (M1.2.1 9 c).toInt ≤ 6
          rw [d0]; exact k0
        · show 0 ≤ (M1.2.1 10 c).toInt ∧ (M1.2.1 10 c).toInt ≤ 9
          rw [d1]; exact k1
        · show 0 ≤ (M1.2.1 11 c).toInt ∧ (M1.2.1 11 c).toInt ≤ 30
          rw [l1]
          by_cases t : fr.testBit c = true
          · rw [if_pos t]; exact ⟨un1, un2⟩
          · rw [if_neg t]; exact k2'
        · show 1 ≤ (M1.2.1 12 c).toInt ∧ (M1.2.1 12 c).toInt ≤ 9
          rw [d3]; exact k3
        · show 0 ≤ (M1.2.1 13 c).toInt ∧ (M1.2.1 13 c).toInt ≤ 9
          rw [d4]; exact k4
        · show 0 ≤ (M1.2.1 14 c).toInt ∧ (M1.2.1 14 c).toInt ≤ 999
          rw [l2]
          by_cases t : pa.testBit c = true
          · rw [if_pos t]
            have hp := paid c hc7 t
            have ht : 1 ≤ (M.1 3).toInt ∧ (M.1 3).toInt ≤ 99 := o3
            rw [n_sub (by omega) (by omega)]
            omega
          · rw [if_neg t]; exact k5'
        · show 0 ≤ (M1.2.1 15 c).toInt ∧ (M1.2.1 15 c).toInt ≤ 30
          rw [l3]
          by_cases t : pa.testBit c = true
          · rw [if_pos t]; exact ⟨ud1, ud2⟩
          · rw [if_neg t]
            by_cases t0 : fr.testBit c = true
            · rw [if_pos t0]; exact ⟨dd1, dd2⟩
            · rw [if_neg t0]; exact k6'
    · have eq' : R1.2.2 c = some q := eq
      rw [y2] at eq'
      exact hr c hc7 q eq'
  · rw [msf_ne hi, m3.1]
  · exact m3.2.1 j a b c
  · show va_up R1.1 9 _ i = _
    rw [up_ne hi, x3.1]
theorem op_done (h : RA P N R Q V F M) (O : oT) (x n : Int32) : p_X6_done P N R O F x n ∧ p_X7_done M x n ∧ (v_X6_done P N R O F x n).1 = (v_X7_done M x n).1 ∧ RA P (v_X6_done P N R O F x n).2.1 (v_X6_done P N R O F x n).2.2.1 Q V F (v_X7_done M x n).2 := by
  obtain ⟨p1, p2, hc⟩ := day_1 h x n
  have ps := p_shelfAt N x
  unfold p_X6_done p_X7_done v_X6_done v_X7_done
  simp only [kk_def]
  rcases hc with ⟨b, h1, h2, e1, e2⟩ | ⟨s, m, e1, e2, e3, rfl, hs, hS, rfl, hm, hl⟩
  · have hb : ¬ b = 0 := by rw [n_eq, n_0]; omega
    have hb2 : ¬ -b = 0 := by rw [n_eq, n_neg (by omega), n_0]; omega
    rw [e1, e2, if_neg hb2, if_neg hb2, if_neg hb2, if_neg hb2, if_neg hb2]
    have r := RA_refuse h h1 h2
    have pn := p_no (M := M) h1 h2
    rcases hq : v_X6_shelfAt N x with _ | s
    · rw [oc_none, oc_none, if_neg hb, if_neg hb]
      exact ⟨⟨p1, ps, p_refuse N b⟩, ⟨p2, trivial, pn⟩, r⟩
    · rw [oc_some, oc_some, if_neg hb, if_neg hb]
      exact ⟨⟨p1, ps, p_refuse N b⟩, ⟨p2, trivial, pn⟩, r⟩
  · rw [e1, e2, e3, oc_some, oc_some, if_pos n00, if_pos n00, if_pos n00, if_pos n00, if_pos n00]
    obtain ⟨j1, j2, r, O', M', j3, j4, j5, j6⟩ := wrong_ok (O := O) h hs hS hm hl
    have hA := RA_congr j5.q h
    rw [j3, j4]
    dsimp only
    rcases j6 with hr | ⟨hr, f', hD⟩
    · have h6 : ¬ (-6 : Int32) = 0 := by decide
      simp only [if_neg hr, if_neg h6]
      have r6 := RA_refuse hA (b := 6) (by decide) (by decide)
      exact ⟨⟨p1, ps, j1, p_refuse N 6⟩, ⟨p2, j2, p_no (b := 6) (by decide) (by decide)⟩, r6⟩
    · subst hr
      obtain ⟨⟨⟨a0, a1, a2⟩, -⟩, h33, hd, hC, hw, hpay⟩ := hD
      obtain ⟨k1, k2, R2, M2, k3, k4, k5, k6, k7, k8, k9⟩ := pass_ok (n := m) hA.2.2.1 hm hd h33 hpay
      simp only [if_true, eq_self]
      rw [a0, a1, k3, k4]
      refine ⟨⟨p1, ps, j1, k1⟩, ⟨p2, j2, k2⟩, k5.1.2.2.2.2.2.1, ?_⟩
      refine RA_road hA (fun i hi => k6 i (by omega)) (fun y hy => ?_) (fun j hj => k7 j (by omega) (by omega) (by omega)) (by rw [k8]) k5
      unfold isC at hy ⊢
      rw [k6 0 (by decide)]
      exact hy
end
