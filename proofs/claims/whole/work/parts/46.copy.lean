/-! copy -/
theorem l_bm {x : Int} (h1 : -9223372036854775808 ≤ x) (h2 : x < 9223372036854775808) : x.bmod (2 ^ 64) = x := by
  rw [Int.bmod_def]
  have e : ((2 ^ 64 : Nat) : Int) = 18446744073709551616 := by decide
  rw [e]
  split <;> omega
theorem l_add {a b : Int64} (h1 : -9223372036854775808 ≤ a.toInt + b.toInt) (h2 : a.toInt + b.toInt < 9223372036854775808) : (a + b).toInt = a.toInt + b.toInt := by rw [Int64.toInt_add, l_bm h1 h2]
theorem l_mul {a b : Int64} (h1 : -9223372036854775808 ≤ a.toInt * b.toInt) (h2 : a.toInt * b.toInt < 9223372036854775808) : (a * b).toInt = a.toInt * b.toInt := by rw [Int64.toInt_mul, l_bm h1 h2]
theorem l_lt {a b : Int64} : a < b ↔ a.toInt < b.toInt := Int64.lt_iff_toInt_lt
theorem i_b (x : Int32) : -2147483648 ≤ x.toInt ∧ x.toInt < 2147483648 := ⟨Int32.le_toInt x, Int32.toInt_lt x⟩
theorem spans_iff {S : sT} {x y : Int32} : v_X5_spans S x y.toInt64 = 0 ↔ ¬ (0 ≤ x.toInt ∧ 0 ≤ y.toInt ∧ x.toInt + y.toInt ≤ (S.1 2).toInt) := by
  have hx := i_b x
  have hy := i_b y
  have hs := i_b (S.1 2)
  have e : (x.toInt64 + y.toInt64).toInt = x.toInt + y.toInt := by rw [l_add (by rw [Int32.toInt_toInt64, Int32.toInt_toInt64]; omega) (by rw [Int32.toInt_toInt64, Int32.toInt_toInt64]; omega), Int32.toInt_toInt64, Int32.toInt_toInt64]
  unfold v_X5_spans
  by_cases h1 : x < 0
  · rw [if_pos h1]; rw [n_lt, n_0] at h1
    exact ⟨fun _ h => by omega, fun _ => rfl⟩
  · rw [if_neg h1]; rw [n_lt, n_0] at h1
    by_cases h2 : lg_cmp y.toInt64 0 < 0
    · rw [if_pos h2]
      rw [lg_cmp_lt, l_lt, Int32.toInt_toInt64] at h2
      have h2 : y.toInt < 0 := h2
      exact ⟨fun _ h => by omega, fun _ => rfl⟩
    · rw [if_neg h2]
      rw [lg_cmp_lt, l_lt, Int32.toInt_toInt64] at h2
      have h2 : ¬ y.toInt < 0 := h2
      by_cases h3 : 0 < lg_cmp (x.toInt64 + y.toInt64) (S.1 2).toInt64
      · rw [if_pos h3]
        rw [lg_cmp_gt, l_lt, e, Int32.toInt_toInt64] at h3
        exact ⟨fun _ h => by omega, fun _ => rfl⟩
      · rw [if_neg h3]
        rw [lg_cmp_gt, l_lt, e, Int32.toInt_toInt64] at h3
        exact ⟨fun h => absurd h (by decide), fun h => absurd ⟨by omega, by omega, by omega⟩ h⟩
section
variable {M : mT}
/-- the first loop fills what is carried, the second lays it down -/
theorem copy_loop2 (x2 x4 x5 : Int32) (hx2 : vp_in x2 8) (b4 : 0 ≤ x4.toInt) (b5 : 0 ≤ x5.toInt) (b : x4.toInt + x5.toInt ≤ 160) : ∀ (n : Nat) (M : mT) (x1 x3 v : Int32), 0 ≤ v.toInt → v.toInt ≤ x5.toInt → x5.toInt - v.toInt < n → p_X7_copy_r n 1 M x1 x2 x3 x4 x5 v ∧ (v_X7_copy_r n 1 M x1 x2 x3 x4 x5 v).1 = 1 ∧ (v_X7_copy_r n 1 M x1 x2 x3 x4 x5 v).2.1 = M.1 ∧ (v_X7_copy_r n 1 M x1 x2 x3 x4 x5 v).2.2.1 = M.2.1 ∧ ∀ i : Nat, (v_X7_copy_r n 1 M x1 x2 x3 x4 x5 v).2.2.2 20 i = if 160 * x2.toNatClampNeg + x4.toNatClampNeg + v.toNatClampNeg ≤ i ∧ i < 160 * x2.toNatClampNeg + x4.toNatClampNeg + x5.toNatClampNeg then M.2.2 21 (i - (160 * x2.toNatClampNeg + x4.toNatClampNeg)) else M.2.2 20 i := by
  intro n
  induction n with
  | zero => intro M x1 x3 v h0 h1 h2; omega
  | succ n ih =>
    intro M x1 x3 v h0 h1 h2
    rw [p_X7_copy_r, v_X7_copy_r]
    rw [if_neg Nat.one_ne_zero, if_neg Nat.one_ne_zero]
    by_cases hc : x5 ≤ v
    · rw [if_pos hc, if_pos hc]
      rw [n_le] at hc
      refine ⟨trivial, rfl, rfl, rfl, fun i => ?_⟩
      exact (if_neg (by rw [n_tn v, n_tn x5]; omega)).symm
    · rw [if_neg hc, if_neg hc]
      rw [n_le] at hc
      have hv : (v + 1).toInt = v.toInt + 1 := by rw [n_add (by rw [n_1]; omega) (by rw [n_1]; omega), n_1]
      have hv2 : (v + 1).toNatClampNeg = v.toNatClampNeg + 1 := by rw [n_tn, n_tn, hv]; omega
      have q4 : (x4 + v).toInt = x4.toInt + v.toInt := n_add (by omega) (by omega)
      have q42 : (x4 + v).toNatClampNeg = x4.toNatClampNeg + v.toNatClampNeg := by rw [n_tn, n_tn, n_tn, q4]; omega
      obtain ⟨i1, i2⟩ := cell_ix hx2 (y := x4 + v) ⟨by omega, by omega⟩
      rw [← Int32.add_assoc] at i1 i2
      obtain ⟨a, e1, e2, e3, e4⟩ := ih (msl M 20 (vp_updL (M.2.2 20) (((160 * x2) + x4) + v).toNatClampNeg ((M.2.2 21) v.toNatClampNeg))) 0 0 (v + 1) (by omega) (by omega) (by omega)
      refine ⟨⟨by rw [vp_iff]; omega, i1, a⟩, e1, e2, e3, fun i => ?_⟩
      rw [e4 i]
      rw [msl_at, msl_2021, hv2, i2, q42]
      by_cases c1 : 160 * x2.toNatClampNeg + x4.toNatClampNeg + (v.toNatClampNeg + 1) ≤ i ∧ i < 160 * x2.toNatClampNeg + x4.toNatClampNeg + x5.toNatClampNeg
      · rw [if_pos c1, if_pos ⟨by omega, c1.2⟩]
      · rw [if_neg c1]
        by_cases c2 : i = 160 * x2.toNatClampNeg + (x4.toNatClampNeg + v.toNatClampNeg)
        · rw [c2, updL_at, if_pos ⟨by omega, by rw [n_tn v, n_tn x5]; omega⟩]
          exact congrArg (M.2.2 21) (by omega)
        · rw [updL_ne c2, if_neg (by omega)]
theorem copy_loop1 (x1 x2 x3 x4 x5 : Int32) (h1' : vp_in x1 8) (h2' : vp_in x2 8) (b3 : 0 ≤ x3.toInt) (b4 : 0 ≤ x4.toInt) (b5 : 0 ≤ x5.toInt) (b : x3.toInt + x5.toInt ≤ 160) (b' : x4.toInt + x5.toInt ≤ 160) : ∀ (n : Nat) (M : mT) (v : Int32), 0 ≤ v.toInt → v.toInt ≤ x5.toInt → x5.toInt - v.toInt + x5.toInt + 1 < n → p_X7_copy_r n 0 M x1 x2 x3 x4 x5 v ∧ (v_X7_copy_r n 0 M x1 x2 x3 x4 x5 v).1 = 1 ∧ (v_X7_copy_r n 0 M x1 x2 x3 x4 x5 v).2.1 = M.1 ∧ (v_X7_copy_r n 0 M x1 x2 x3 x4 x5 v).2.2.1 = M.2.1 ∧ ∀ i : Nat, (v_X7_copy_r n 0 M x1 x2 x3 x4 x5 v).2.2.2 20 i = if 160 * x2.toNatClampNeg + x4.toNatClampNeg ≤ i ∧ i < 160 * x2.toNatClampNeg + x4.toNatClampNeg + x5.toNatClampNeg then (if i - (160 * x2.toNatClampNeg + x4.toNatClampNeg) < v.toNatClampNeg then M.2.2 21 (i - (160 * x2.toNatClampNeg + x4.toNatClampNeg)) else M.2.2 20 (160 * x1.toNatClampNeg + x3.toNatClampNeg + (i - (160 * x2.toNatClampNeg + x4.toNatClampNeg)))) else M.2.2 20 i := by
  intro n
  induction n with
  | zero => intro M v h0 h1 h2; omega
  | succ n ih =>
    intro M v h0 h1 h2
    rw [p_X7_copy_r, v_X7_copy_r]
    rw [if_pos (rfl : (0 : Nat) = 0), if_pos (rfl : (0 : Nat) = 0)]
    by_cases hc : x5 ≤ v
    · rw [if_pos hc, if_pos hc]
      rw [n_le] at hc
      obtain ⟨a, e1, e2, e3, e4⟩ := copy_loop2 x2 x4 x5 h2' b4 b5 b' n M 0 0 0 (by decide) (by rw [n_0]; omega) (by rw [n_0]; omega)
      refine ⟨a, e1, e2, e3, fun i => ?_⟩
      rw [e4 i]
      rw [show (0 : Int32).toNatClampNeg = 0 from rfl, Nat.add_zero]
      by_cases c1 : 160 * x2.toNatClampNeg + x4.toNatClampNeg ≤ i ∧ i < 160 * x2.toNatClampNeg + x4.toNatClampNeg + x5.toNatClampNeg
      · rw [if_pos c1, if_pos c1, if_pos (by rw [n_tn v]; rw [n_tn x5] at c1; omega)]
      · rw [if_neg c1, if_neg c1]
    · rw [if_neg hc, if_neg hc]
      rw [n_le] at hc
      have hv : (v + 1).toInt = v.toInt + 1 := by rw [n_add (by rw [n_1]; omega) (by rw [n_1]; omega), n_1]
      have hv2 : (v + 1).toNatClampNeg = v.toNatClampNeg + 1 := by rw [n_tn, n_tn, hv]; omega
      have q4 : (x3 + v).toInt = x3.toInt + v.toInt := n_add (by omega) (by omega)
      have q42 : (x3 + v).toNatClampNeg = x3.toNatClampNeg + v.toNatClampNeg := by rw [n_tn, n_tn, n_tn, q4]; omega
      obtain ⟨i1, i2⟩ := cell_ix h1' (y := x3 + v) ⟨by omega, by omega⟩
      rw [← Int32.add_assoc] at i1 i2
      obtain ⟨a, e1, e2, e3, e4⟩ := ih (msl M 21 (vp_updL (M.2.2 21) v.toNatClampNeg ((M.2.2 20) (((160 * x1) + x3) + v).toNatClampNeg))) (v + 1) (by omega) (by omega) (by omega)
      refine ⟨⟨i1, by rw [vp_iff]; omega, a⟩, e1, e2, e3, fun i => ?_⟩
      rw [e4 i]
      rw [msl_2121, msl_2120, hv2, i2, q42]
      by_cases c1 : 160 * x2.toNatClampNeg + x4.toNatClampNeg ≤ i ∧ i < 160 * x2.toNatClampNeg + x4.toNatClampNeg + x5.toNatClampNeg
      · rw [if_pos c1, if_pos c1]
        by_cases c2 : i - (160 * x2.toNatClampNeg + x4.toNatClampNeg) < v.toNatClampNeg
        · rw [if_pos (by omega), if_pos c2, updL_ne (by omega)]
        · by_cases c3 : i - (160 * x2.toNatClampNeg + x4.toNatClampNeg) = v.toNatClampNeg
          · rw [if_pos (by omega), if_neg c2, c3, updL_at]
            exact congrArg (M.2.2 20) (by omega)
          · rw [if_neg (by omega), if_neg c2]
      · rw [if_neg c1, if_neg c1]
end
