/-! copy -/
theorem l_bm {x : Int} (h1 : -9223372036854775808 ≤ x) (h2 : x < 9223372036854775808) : x.bmod (2 ^ 64) = x := by
  rw [Int.bmod_def]
  have e : ((2 ^ 64 : Nat) : Int) = 18446744073709551616 := by decide
  rw [e]
  split <;> omega
theorem l_add {a b : Int64} (h1 : -9223372036854775808 ≤ a.toInt + b.toInt) (h2 : a.toInt + b.toInt < 9223372036854775808) : (a + b).toInt = a.toInt + b.toInt := by rw [Int64.toInt_add, l_bm h1 h2]
theorem l_mul {a b : Int64} (h1 : -9223372036854775808 ≤ a.toInt * b.toInt) (h2 : a.toInt * b.toInt < 9223372036854775808) : (a * b).toInt = a.toInt * b.toInt := by rw [Int64.toInt_mul, l_bm h1 h2]
theorem l_lt {a b : Int64} : a < b ↔ a.toInt < b.toInt := Int64.lt_iff_toInt_lt
theorem i_b (x : Int32) : -2147483648 ≤ x.toInt ∧ x.toInt < 2147483648 := ⟨Int32.le_toInt x, Int32.toInt_lt x⟩
theorem spans_iff {S : sT} {x y : Int32} : v_X5_spans S x y.toInt64 = 0 ↔ ¬ (0 ≤ x.toInt ∧ 0 ≤ y.toInt ∧ x.toInt + y.toInt ≤ (S.1 2).toInt) := by
  have hx := i_b x
  have hy := i_b y
  have hs := i_b (S.1 2)
  have e : (x.toInt64 + y.toInt64).toInt = x.toInt + y.toInt := by rw [l_add (by rw [Int32.toInt_toInt64, Int32.toInt_toInt64]; omega) (by rw [Int32.toInt_toInt64, Int32.toInt_toInt64]; omega), Int32.toInt_toInt64, Int32.toInt_toInt64]
  unfold v_X5_spans
  by_cases h1 : x < 0
  · rw [if_pos h1]; rw [n_lt, n_0] at h1
    exact ⟨fun _ h => by omega, fun _ => rfl⟩
  · rw [if_neg h1]; rw [n_lt, n_0] at h1
    by_cases h2 : lg_cmp y.toInt64 0 < 0
    · rw [if_pos h2]
      rw [lg_cmp_lt, l_lt, Int32.toInt_toInt64] at h2
      have h2 : y.toInt < 0 := h2
      exact ⟨fun _ h => by omega, fun _ => rfl⟩
    · rw [if_neg h2]
      rw [lg_cmp_lt, l_lt, Int32.toInt_toInt64] at h2
      have h2 : ¬ y.toInt < 0 := h2
      by_cases h3 : 0 < lg_cmp (x.toInt64 + y.toInt64) (S.1 2).toInt64
      · rw [if_pos h3]
        rw [lg_cmp_gt, l_lt, e, Int32.toInt_toInt64] at h3
        exact ⟨fun _ h => by omega, fun _ => rfl⟩
      · rw [if_neg h3]
        rw [lg_cmp_gt, l_lt, e, Int32.toInt_toInt64] at h3
        exact ⟨fun h => absurd h (by decide), fun h => absurd ⟨by omega, by omega, by omega⟩ h⟩
section
variable {M : mT}
/-- the first loop fills what is carried, the second lays it down -/
theorem copy_loop2 (x2 x4 x5 : Int32) (h2 : vp_in x2 8) (b4 : 0 ≤ x4.toInt) (b5 : 0 ≤ x5.toInt) (b : x4.toInt + x5.toInt ≤ 160) : ∀ (n : Nat) (M : mT) (x1 x3 v : Int32), 0 ≤ v.toInt → v.toInt ≤ x5.toInt → x5.toInt - v.toInt < n → p_X7_copy_r n 1 M x1 x2 x3 x4 x5 v ∧ (v_X7_copy_r n 1 M x1 x2 x3 x4 x5 v).1 = 1 ∧ (v_X7_copy_r n 1 M x1 x2 x3 x4 x5 v).2.1 = M.1 ∧ (v_X7_copy_r n 1 M x1 x2 x3 x4 x5 v).2.2.1 = M.2.1 ∧ ∀ i : Nat, (v_X7_copy_r n 1 M x1 x2 x3 x4 x5 v).2.2.2 20 i = if 160 * x2.toNatClampNeg + x4.toNatClampNeg + v.toNatClampNeg ≤ i ∧ i < 160 * x2.toNatClampNeg + x4.toNatClampNeg + x5.toNatClampNeg then M.2.2 21 (i - (160 * x2.toNatClampNeg + x4.toNatClampNeg)) else M.2.2 20 i := by
  intro n
  induction n with
  | zero => intro M x1 x3 v h0 h1 h2; omega
  | succ n ih =>
    intro M x1 x3 v h0 h1 h2
    rw [p_X7_copy_r, v_X7_copy_r]
    rw [if_neg (by decide), if_neg (by decide)]
    by_cases hc : x5 ≤ v
    · rw [if_pos hc, if_pos hc]
      rw [n_le] at hc
      refine ⟨trivial, rfl, rfl, rfl, fun i => ?_⟩
      rw [if_neg (by rw [n_tn v, n_tn x5]; omega)]
    · rw [if_neg hc, if_neg hc]
      rw [n_le] at hc
      have hv : (v + 1).toInt = v.toInt + 1 := by rw [n_add (by rw [n_1]; omega) (by rw [n_1]; omega), n_1]
      have hv2 : (v + 1).toNatClampNeg = v.toNatClampNeg + 1 := by rw [n_tn, n_tn, hv]; omega
      have q4 : (x4 + v).toInt = x4.toInt + v.toInt := n_add (by omega) (by omega)
      have q42 : (x4 + v).toNatClampNeg = x4.toNatClampNeg + v.toNatClampNeg := by rw [n_tn, n_tn, n_tn, q4]; omega
      obtain ⟨i1, i2⟩ := cell_ix h2 (y := x4 + v) ⟨by omega, by omega⟩
      rw [← Int32.add_assoc] at i1 i2
      obtain ⟨a, e1, e2, e3, e4⟩ := ih (msl M 20 (vp_updL (M.2.2 20) (((160 * x2) + x4) + v).toNatClampNeg ((M.2.2 21) v.toNatClampNeg))) 0 0 (v + 1) (by omega) (by omega) (by omega)
      refine ⟨⟨by rw [vp_iff]; omega, i1, a⟩, e1, e2, e3, fun i => ?_⟩
      rw [e4 i]
      show (if _ then va_up M.2.2 20 _ 21 _ else va_up M.2.2 20 _ 20 i) = _
      rw [up_at, up_ne (by decide), hv2, i2, q42]
      by_cases c1 : 160 * x2.toNatClampNeg + x4.toNatClampNeg + (v.toNatClampNeg + 1) ≤ i ∧ i < 160 * x2.toNatClampNeg + x4.toNatClampNeg + x5.toNatClampNeg
      · rw [if_pos c1, if_pos ⟨by omega, c1.2⟩]
      · rw [if_neg c1]
        by_cases c2 : i = 160 * x2.toNatClampNeg + (x4.toNatClampNeg + v.toNatClampNeg)
        · rw [c2, updL_at, if_pos ⟨by omega, by rw [n_tn v, n_tn x5]; omega⟩]
          congr 1
          omega
        · rw [updL_ne c2, if_neg (by omega)]
theorem copy_loop1 (x1 x2 x3 x4 x5 : Int32) (h1' : vp_in x1 8) (h2' : vp_in x2 8) (b3 : 0 ≤ x3.toInt) (b4 : 0 ≤ x4.toInt) (b5 : 0 ≤ x5.toInt) (b : x3.toInt + x5.toInt ≤ 160) (b' : x4.toInt + x5.toInt ≤ 160) : ∀ (n : Nat) (M : mT) (v : Int32), 0 ≤ v.toInt → v.toInt ≤ x5.toInt → x5.toInt - v.toInt + x5.toInt + 1 < n → p_X7_copy_r n 0 M x1 x2 x3 x4 x5 v ∧ (v_X7_copy_r n 0 M x1 x2 x3 x4 x5 v).1 = 1 ∧ (v_X7_copy_r n 0 M x1 x2 x3 x4 x5 v).2.1 = M.1 ∧ (v_X7_copy_r n 0 M x1 x2 x3 x4 x5 v).2.2.1 = M.2.1 ∧ ∀ i : Nat, (v_X7_copy_r n 0 M x1 x2 x3 x4 x5 v).2.2.2 20 i = if 160 * x2.toNatClampNeg + x4.toNatClampNeg ≤ i ∧ i < 160 * x2.toNatClampNeg + x4.toNatClampNeg + x5.toNatClampNeg then (if i - (160 * x2.toNatClampNeg + x4.toNatClampNeg) < v.toNatClampNeg then M.2.2 21 (i - (160 * x2.toNatClampNeg + x4.toNatClampNeg)) else M.2.2 20 (160 * x1.toNatClampNeg + x3.toNatClampNeg + (i - (160 * x2.toNatClampNeg + x4.toNatClampNeg)))) else M.2.2 20 i := by
  intro n
  induction n with
  | zero => intro M v h0 h1 h2; omega
  | succ n ih =>
    intro M v h0 h1 h2
    rw [p_X7_copy_r, v_X7_copy_r]
    rw [if_pos rfl, if_pos rfl]
    by_cases hc : x5 ≤ v
    · rw [if_pos hc, if_pos hc]
      rw [n_le] at hc
      obtain ⟨a, e1, e2, e3, e4⟩ := copy_loop2 x2 x4 x5 h2' b4 b5 b' n M 0 0 0 (by decide) (by rw [n_0]; omega) (by rw [n_0]; omega)
      refine ⟨a, e1, e2, e3, fun i => ?_⟩
      rw [e4 i]
      rw [show (0 : Int32).toNatClampNeg = 0 from rfl, Nat.add_zero]
      by_cases c1 : 160 * x2.toNatClampNeg + x4.toNatClampNeg ≤ i ∧ i < 160 * x2.toNatClampNeg + x4.toNatClampNeg + x5.toNatClampNeg
      · rw [if_pos c1, if_pos c1, if_pos (by rw [n_tn v]; rw [n_tn x5] at c1; omega)]
      · rw [if_neg c1, if_neg c1]
    · rw [if_neg hc, if_neg hc]
      rw [n_le] at hc
      have hv : (v + 1).toInt = v.toInt + 1 := by rw [n_add (by rw [n_1]; omega) (by rw [n_1]; omega), n_1]
      have hv2 : (v + 1).toNatClampNeg = v.toNatClampNeg + 1 := by rw [n_tn, n_tn, hv]; omega
      have q4 : (x3 + v).toInt = x3.toInt + v.toInt := n_add (by omega) (by omega)
      have q42 : (x3 + v).toNatClampNeg = x3.toNatClampNeg + v.toNatClampNeg := by rw [n_tn, n_tn, n_tn, q4]; omega
      obtain ⟨i1, i2⟩ := cell_ix h1' (y := x3 + v) ⟨by omega, by omega⟩
      rw [← Int32.add_assoc] at i1 i2
      obtain ⟨a, e1, e2, e3, e4⟩ := ih (msl M 21 (vp_updL (M.2.2 21) v.toNatClampNeg ((M.2.2 20) (((160 * x1) + x3) + v).toNatClampNeg))) (v + 1) (by omega) (by omega) (by omega)
      refine ⟨⟨i1, by rw [vp_iff]; omega, a⟩, e1, e2, e3, fun i => ?_⟩
      rw [e4 i]
      show (if _ then (if _ then va_up M.2.2 21 _ 21 _ else va_up M.2.2 21 _ 20 _) else va_up M.2.2 21 _ 20 i) = _
      rw [up_at, up_ne (show (20 : Nat) ≠ 21 by decide), hv2, i2, q42]
      by_cases c1 : 160 * x2.toNatClampNeg + x4.toNatClampNeg ≤ i ∧ i < 160 * x2.toNatClampNeg + x4.toNatClampNeg + x5.toNatClampNeg
      · rw [if_pos c1, if_pos c1]
        by_cases c2 : i - (160 * x2.toNatClampNeg + x4.toNatClampNeg) < v.toNatClampNeg
        · rw [if_pos (by omega), if_pos c2, updL_ne (by omega)]
        · by_cases c3 : i - (160 * x2.toNatClampNeg + x4.toNatClampNeg) = v.toNatClampNeg
          · rw [if_pos (by omega), if_neg c2, c3, updL_at]
            congr 1
            omega
          · rw [if_neg (by omega), if_neg c2]
      · rw [if_neg c1, if_neg c1]
end
section
variable {P : pT} {N : nT} {R Q : rT} {V : vT} {F : fT} {M : mT}
theorem t_copy (h : RA P N R Q V F M) (x1 x2 x3 x4 x5 : Int32) : p_X6_copy N F x1 x2 x3 x4 x5 ∧ p_X7_copy M x1 x2 x3 x4 x5 ∧ (v_X6_copy N F x1 x2 x3 x4 x5).1 = (v_X7_copy M x1 x2 x3 x4 x5).1 ∧ RA P (v_X6_copy N F x1 x2 x3 x4 x5).2.1 R Q V (v_X6_copy N F x1 x2 x3 x4 x5).2.2 (v_X7_copy M x1 x2 x3 x4 x5).2 := by
  have z1 : (0 : Int32) = 0 := rfl
  have z2 : ¬ (1 : Int32) = 0 := by decide
  have z3 : ¬ (2 : Int32) = 0 := by decide
  have z4 : ¬ (0 : Int32) = 2 := by decide
  have z5 : ¬ (1 : Int32) = 2 := by decide
  have z6 : ¬ (0 : Int32) = 1 := by decide
  have z7 : (1 : Int32) = 1 := rfl
  have z8 : (2 : Int32) = 2 := rfl
  have pn : ∀ b : Int32, 1 ≤ b.toInt → b.toInt ≤ 7 → p_X7_no M (-b) := fun b h1 h2 => p_no h1 h2
  unfold p_X6_copy p_X7_copy v_X6_copy v_X7_copy
  simp only [kk]
  rcases shelf_cases N M x1 with ⟨e1, e2⟩ | ⟨e1, e2, e3, e4⟩
  · rw [e1, e2]
    simp only [if_pos z1]
    rcases shelf_cases N M x2 with ⟨f1, f2⟩ | ⟨f1, f2, f3, f4⟩
    · rw [f1]
      exact ⟨⟨p_shelfAt N x1, p_shelfAt N x2, p_refuse N 1⟩, pn 1 (by decide) (by decide), RA_refuse h (b := 1) (by decide) (by decide)⟩
    · rw [f1]
      exact ⟨⟨p_shelfAt N x1, p_shelfAt N x2, p_refuse N 1⟩, pn 1 (by decide) (by decide), RA_refuse h (b := 1) (by decide) (by decide)⟩
  · rw [e1, e2]
    simp only [if_neg z2]
    rcases shelf_cases N M x2 with ⟨f1, f2⟩ | ⟨f1, f2, f3, f4⟩
    · rw [f1, f2]
      simp only [if_pos z1]
      exact ⟨⟨p_shelfAt N x1, p_shelfAt N x2, p_refuse N 1⟩, pn 1 (by decide) (by decide), RA_refuse h (b := 1) (by decide) (by decide)⟩
    · rw [f1, f2]
      simp only [if_neg z2, oc]
      have hS1 := h.2.1 _ e3
      have hS2 := h.2.1 _ f3
      rcases RS.kind (R := R) hS1 h.E with ⟨a1, a2, a3⟩ | ⟨a1, a2, a3⟩ | ⟨a1, a2, a3⟩
      · rcases RS.kind (R := R) hS2 h.E with ⟨b1, b2, b3⟩ | ⟨b1, b2, b3⟩ | ⟨b1, b2, b3⟩
        · rw [a1, a2, a3, b1, b2, b3]
          simp only [if_pos z1, if_neg z4, if_neg z6]
          exact ⟨⟨p_shelfAt N x1, p_shelfAt N x2, p_refuse N 3⟩, ⟨e4, f4, e4, e4, pn 3 (by decide) (by decide)⟩, RA_refuse h (b := 3) (by decide) (by decide)⟩
        · rw [a1, a2, a3, b1, b2, b3]
          simp only [if_pos z1, if_neg z4, if_neg z6, if_neg z5]
          exact ⟨⟨p_shelfAt N x1, p_shelfAt N x2, p_refuse N 3⟩, ⟨e4, f4, e4, e4, pn 3 (by decide) (by decide)⟩, RA_refuse h (b := 3) (by decide) (by decide)⟩
        · rw [a1, a2, a3, b1, b2, b3]
          simp only [if_pos z1, if_neg z4, if_neg z2, if_pos z8]
          exact ⟨⟨p_shelfAt N x1, p_shelfAt N x2, p_refuse N 2⟩, ⟨e4, f4, pn 2 (by decide) (by decide)⟩, RA_refuse h (b := 2) (by decide) (by decide)⟩
      · rcases RS.kind (R := R) hS2 h.E with ⟨b1, b2, b3⟩ | ⟨b1, b2, b3⟩ | ⟨b1, b2, b3⟩
        · rw [a1, a2, a3, b1, b2, b3]
          simp only [if_pos z1, if_neg z4, if_neg z6, if_neg z5, if_neg z2, if_pos z7]
          exact ⟨⟨p_shelfAt N x1, p_shelfAt N x2, p_refuse N 3⟩, ⟨e4, f4, e4, f4, e4, f4, pn 3 (by decide) (by decide)⟩, RA_refuse h (b := 3) (by decide) (by decide)⟩
        · rw [a1, a2, a3, b1, b2, b3]
          have k1 : RS1 (F x1.toNatClampNeg) M x1.toNatClampNeg := by
            rcases hS1 with k | k | k
            · rw [k.1] at a1; exact absurd a1 (by decide)
            · exact k
            · rw [k.1] at a1; exact absurd a1 (by decide)
          have k2 : RS1 (F x2.toNatClampNeg) M x2.toNatClampNeg := by
            rcases hS2 with k | k | k
            · rw [k.1] at b1; exact absurd b1 (by decide)
            · exact k
            · rw [k.1] at b1; exact absurd b1 (by decide)
          obtain ⟨g1, g2, g3, g4, g5, g6⟩ := k1
          obtain ⟨j1, j2, j3, j4, j5, j6⟩ := k2
          simp only [if_pos z1, if_neg z5, if_neg z2, if_pos z7]
          have hso : ((F x1.toNatClampNeg).1 1 = (F x2.toNatClampNeg).1 1) ↔ (M.2.1 17 x1.toNatClampNeg = M.2.1 17 x2.toNatClampNeg) := by
            rw [g2, j2, n_eq, n_eq, n_add (by rw [n_100]; omega) (by rw [n_100]; omega), n_add (by rw [n_100]; omega) (by rw [n_100]; omega)]
            omega
          by_cases c0 : M.2.1 17 x1.toNatClampNeg = M.2.1 17 x2.toNatClampNeg
          · simp only [if_pos c0, if_pos (hso.mpr c0)]
            by_cases c1 : (0 : Int32) ≤ x5
            · simp only [if_pos c1]
              rw [n_le, n_0] at c1
              by_cases c2 : x3 < 0
              · have w : v_X5_spans (F x1.toNatClampNeg) x3 x5.toInt64 = 0 := by rw [spans_iff]; rw [n_lt, n_0] at c2; omega
                simp only [if_pos c2, if_pos w]
                exact ⟨⟨p_shelfAt N x1, p_shelfAt N x2, p_refuse N 5⟩, ⟨e4, f4, e4, f4, e4, f4, e4, f4, pn 5 (by decide) (by decide)⟩, RA_refuse h (b := 5) (by decide) (by decide)⟩
              · simp only [if_neg c2]
                rw [n_lt, n_0] at c2
                by_cases c3 : x4 < 0
                · have w2 : v_X5_spans (F x2.toNatClampNeg) x4 x5.toInt64 = 0 := by rw [spans_iff]; rw [n_lt, n_0] at c3; omega
                  simp only [if_pos c3]
                  by_cases w : v_X5_spans (F x1.toNatClampNeg) x3 x5.toInt64 = 0
                  · simp only [if_pos w]
                    exact ⟨⟨p_shelfAt N x1, p_shelfAt N x2, p_refuse N 5⟩, ⟨e4, f4, e4, f4, e4, f4, e4, f4, pn 5 (by decide) (by decide)⟩, RA_refuse h (b := 5) (by decide) (by decide)⟩
                  · simp only [if_neg w, if_pos w2]
                    exact ⟨⟨p_shelfAt N x1, p_shelfAt N x2, p_refuse N 5⟩, ⟨e4, f4, e4, f4, e4, f4, e4, f4, pn 5 (by decide) (by decide)⟩, RA_refuse h (b := 5) (by decide) (by decide)⟩
                · simp only [if_neg c3]
                  rw [n_lt, n_0] at c3
                  have h5 := i_b x5
                  have d1 : (M.2.1 18 x1.toNatClampNeg - x5).toInt = (M.2.1 18 x1.toNatClampNeg).toInt - x5.toInt := n_sub (by omega) (by omega)
                  have d2 : (M.2.1 18 x2.toNatClampNeg - x5).toInt = (M.2.1 18 x2.toNatClampNeg).toInt - x5.toInt := n_sub (by omega) (by omega)
                  by_cases c4 : (M.2.1 18 x1.toNatClampNeg - x5) < x3
                  · have w : v_X5_spans (F x1.toNatClampNeg) x3 x5.toInt64 = 0 := by rw [spans_iff, g4]; rw [n_lt, d1] at c4; omega
                    simp only [if_pos c4, if_pos w]
                    exact ⟨⟨p_shelfAt N x1, p_shelfAt N x2, p_refuse N 5⟩, ⟨e4, f4, e4, f4, e4, f4, e4, f4, e4, pn 5 (by decide) (by decide)⟩, RA_refuse h (b := 5) (by decide) (by decide)⟩
                  · have w : ¬ v_X5_spans (F x1.toNatClampNeg) x3 x5.toInt64 = 0 := by rw [spans_iff, g4]; rw [n_lt, d1] at c4; omega
                    simp only [if_neg c4, if_neg w]
                    rw [n_lt, d1] at c4
                    by_cases c5 : x4 ≤ (M.2.1 18 x2.toNatClampNeg - x5)
                    · have w2 : ¬ v_X5_spans (F x2.toNatClampNeg) x4 x5.toInt64 = 0 := by rw [spans_iff, j4]; rw [n_le, d2] at c5; omega
                      simp only [if_pos c5, if_neg w2]
                      rw [n_le, d2] at c5
                      obtain ⟨l1, l2, l3, l4, l5⟩ := copy_loop1 x1 x2 x3 x4 x5 e4 f4 (by omega) (by omega) c1 (by omega) (by omega) 200 M 0 (by decide) (by rw [n_0]; omega) (by rw [n_0]; omega)
                      refine ⟨⟨p_shelfAt N x1, p_shelfAt N x2, ?_⟩, ⟨e4, f4, e4, f4, e4, f4, e4, f4, e4, f4, l1⟩, l2.symm, ?_⟩
                      · refine ⟨by rw [n_lt, n_0]; exact c2, by rw [n_lt, n_0]; exact c3, by rw [n_lt, n_0]; omega, ?_, ?_⟩
                        · rw [n_tn, n_tn]; omega
                        · rw [n_tn, n_tn]; omega
                      · refine RA_shelf h f3 l3 (fun j hj => by rw [l4]) (fun j s _ _ _ => by rw [l4]) (fun i hi => ?_) (Or.inr (Or.inl ⟨by rw [l4]; exact j1, by rw [l4]; exact j2, by rw [l4]; exact j3, by rw [l4]; exact j4, by rw [l4]; exact j5, fun i hi => ?_⟩))
                        · rw [l5 i, if_neg (by rw [n_tn x4, n_tn x5]; omega)]
                        · rw [l4] at hi
                          rw [l5 _]
                          show va_cpy (F x1.toNatClampNeg).2 (F x2.toNatClampNeg).2 x3.toNatClampNeg x4.toNatClampNeg x5.toNatClampNeg i = _
                          unfold va_cpy
                          rw [show (0 : Int32).toNatClampNeg = 0 from rfl]
                          by_cases c6 : x4.toNatClampNeg ≤ i ∧ i < x4.toNatClampNeg + x5.toNatClampNeg
                          · rw [if_pos c6, if_pos (by omega), if_neg (by omega), g6 _ (by rw [n_tn x3, n_tn x4]; rw [n_tn x4, n_tn x5] at c6; omega)]
                            congr 1
                            omega
                          · rw [if_neg c6, if_neg (by omega)]
                            exact j6 i hi
                    · have w2 : v_X5_spans (F x2.toNatClampNeg) x4 x5.toInt64 = 0 := by rw [spans_iff, j4]; rw [n_le, d2] at c5; omega
                      simp only [if_neg c5, if_pos w2]
                      exact ⟨⟨p_shelfAt N x1, p_shelfAt N x2, p_refuse N 5⟩, ⟨e4, f4, e4, f4, e4, f4, e4, f4, e4, f4, pn 5 (by decide) (by decide)⟩, RA_refuse h (b := 5) (by decide) (by decide)⟩
            · simp only [if_neg c1]
              exact ⟨⟨p_shelfAt N x1, p_shelfAt N x2, p_refuse N 4⟩, ⟨e4, f4, e4, f4, e4, f4, e4, f4, pn 4 (by decide) (by decide)⟩, RA_refuse h (b := 4) (by decide) (by decide)⟩
          · simp only [if_neg c0, if_neg (fun q => c0 (hso.mp q))]
            exact ⟨⟨p_shelfAt N x1, p_shelfAt N x2, p_refuse N 2⟩, ⟨e4, f4, e4, f4, e4, f4, pn 2 (by decide) (by decide)⟩, RA_refuse h (b := 2) (by decide) (by decide)⟩
        · rw [a1, a2, a3, b1, b2, b3]
          simp only [if_pos z1, if_neg z5, if_neg z2, if_pos z8]
          exact ⟨⟨p_shelfAt N x1, p_shelfAt N x2, p_refuse N 2⟩, ⟨e4, f4, pn 2 (by decide) (by decide)⟩, RA_refuse h (b := 2) (by decide) (by decide)⟩
      · rw [a1, a3]
        simp only [if_neg z2, if_pos z8]
        exact ⟨⟨p_shelfAt N x1, p_shelfAt N x2, p_refuse N 2⟩, ⟨e4, pn 2 (by decide) (by decide)⟩, RA_refuse h (b := 2) (by decide) (by decide)⟩
end
