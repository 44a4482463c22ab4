/-! painted -/
theorem l_eq {a b : Int64} : a = b ↔ a.toInt = b.toInt := Int64.toInt_inj.symm
theorem l_div {a b : Int64} (ha : 0 ≤ a.toInt) (hb : 0 < b.toInt) : (a / b).toInt = a.toInt / b.toInt := by
  have h1 := Int64.toInt_lt a
  have h2 : a.toInt.tdiv b.toInt = a.toInt / b.toInt := Int.tdiv_eq_ediv_of_nonneg ha
  have h3 : 0 ≤ a.toInt / b.toInt := Int.ediv_nonneg ha (by omega)
  have h4 : a.toInt / b.toInt ≤ a.toInt := Int.ediv_le_self _ ha
  rw [Int64.toInt_div, h2, l_bm (by omega) (by omega)]
theorem l_64 (x : Int32) : x.toInt64.toInt = x.toInt := Int32.toInt_toInt64 x
theorem l_32 {a : Int64} (h0 : -2147483648 ≤ a.toInt) (h1 : a.toInt < 2147483648) : a.toInt32.toInt = a.toInt := by
  rw [Int64.toInt_toInt32, n_bm h0 h1]
theorem l_1000 : (1000 : Int64).toInt = 1000 := rfl
section
variable {P : pT} {N : nT} {R Q : rT} {V : vT} {F : fT} {M : mT}
theorem paint_loop (k q a : Int32) (hq : 0 ≤ q.toInt ∧ q.toInt ≤ 1000) (ha : 0 ≤ a.toInt ∧ a.toInt ≤ 1000000) (hk : k.toInt ≤ 20) : ∀ (n : Nat) (o i : Int32), 0 ≤ o.toInt → o.toInt ≤ 1000000 → 0 ≤ i.toInt → i.toInt ≤ 20 → 21 - i.toInt < n → p_X6_painted_r n N k q a.toInt64 o.toInt64 i ∧ p_X7_painted_r n M k q a o i ∧ (v_X6_painted_r n N k q a.toInt64 o.toInt64 i).1 = (v_X7_painted_r n M k q a o i).1 ∧ (v_X6_painted_r n N k q a.toInt64 o.toInt64 i).2 = N ∧ (v_X7_painted_r n M k q a o i).2 = M := by
  intro n
  induction n with
  | zero => intro o i h1 h2 h3 h4 h5; omega
  | succ n ih =>
    intro o i h1 h2 h3 h4 h5
    rw [p_X6_painted_r, p_X7_painted_r, v_X6_painted_r, v_X7_painted_r]
    have hs : (a.toInt64 + o.toInt64).toInt = a.toInt + o.toInt := by rw [l_add (by rw [l_64, l_64]; omega) (by rw [l_64, l_64]; omega), l_64, l_64]
    have hs2 : (a + o).toInt = a.toInt + o.toInt := n_add (by omega) (by omega)
    have es : a.toInt64 + o.toInt64 = (a + o).toInt64 := by rw [l_eq, hs, l_64, hs2]
    by_cases c : k ≤ i
    · simp only [c, if_true]
      rw [es]
      by_cases z : a + o = 0
      · have z2 : ¬ 0 < lg_cmp (a + o).toInt64 0 := by rw [lg_cmp_gt, l_lt, l_64, z]; decide
        simp +decide only [z, z2, if_true, if_false]
      · have z1 : ¬ (a + o).toInt = 0 := by rw [n_eq, n_0] at z; exact z
        have z2 : 0 < lg_cmp (a + o).toInt64 0 := by rw [lg_cmp_gt, l_lt, l_64, hs2]; show (0 : Int) < _; omega
        have z3 : ¬ (a + o).toInt64 = 0 := by rw [l_eq, l_64]; exact z1
        simp +decide only [z, z2, z3, if_true, if_false]
        refine ⟨trivial, trivial, ?_, trivial⟩
        rw [Int64.mul_comm]
    · simp only [c, if_false]
      rw [n_le] at c
      have hm : (o.toInt64 * q.toInt64).toInt = o.toInt * q.toInt := by
        have b1 : 0 ≤ o.toInt * q.toInt := Int.mul_nonneg h1 hq.1
        have b2 : o.toInt * q.toInt ≤ 1000000 * 1000 := Int.mul_le_mul h2 hq.2 hq.1 (by decide)
        rw [l_mul (by rw [l_64, l_64]; omega) (by rw [l_64, l_64]; omega), l_64, l_64]
      have b1 : 0 ≤ o.toInt * q.toInt := Int.mul_nonneg h1 hq.1
      have b2 : o.toInt * q.toInt ≤ 1000000 * 1000 := Int.mul_le_mul h2 hq.2 hq.1 (by decide)
      have hd : (o.toInt64 * q.toInt64 / 1000).toInt = o.toInt * q.toInt / 1000 := by rw [l_div (by rw [hm]; exact b1) (by decide), hm, l_1000]
      have h32 : ((o.toInt64 * q.toInt64 / 1000).toInt32).toInt = o.toInt * q.toInt / 1000 := by rw [l_32 (by rw [hd]; omega) (by rw [hd]; omega), hd]
      have he : o.toInt64 * q.toInt64 / 1000 = ((o.toInt64 * q.toInt64 / 1000).toInt32).toInt64 := by rw [l_eq, l_64, h32, hd]
      have hi : (i + 1).toInt = i.toInt + 1 := by rw [n_add (by rw [n_1]; omega) (by rw [n_1]; omega), n_1]
      obtain ⟨j1, j2, j3, j4, j5⟩ := ih ((o.toInt64 * q.toInt64 / 1000).toInt32) (i + 1) (by omega) (by omega) (by omega) (by omega) (by omega)
      rw [← he] at j1 j3 j4
      exact ⟨j1, j2, j3, j4, j5⟩
theorem op_painted (h : RA P N R Q V F M) (x1 x2 x3 : Int32) : p_X6_painted N x1 x2 x3 ∧ p_X7_painted M x1 x2 x3 ∧ (v_X6_painted N x1 x2 x3).1 = (v_X7_painted M x1 x2 x3).1 ∧ RA P (v_X6_painted N x1 x2 x3).2 R Q V F (v_X7_painted M x1 x2 x3).2 := by
  have n6 : p_X7_no M (-6) := p_no (b := 6) (by decide) (by decide)
  have r6 := RA_refuse h (b := 6) (by decide) (by decide)
  have p6 := p_refuse N 6
  unfold p_X6_painted p_X7_painted v_X6_painted v_X7_painted
  simp only [kk, from_eq]
  by_cases c1 : v_X6_within x1 0 1000 = 0
  · simp only [c1, if_true]
    exact ⟨p6, n6, r6⟩
  by_cases c2 : v_X6_within x2 0 20 = 0
  · by_cases c3 : v_X6_within x3 0 1000 = 0
    · simp only [c1, c2, c3, if_true, if_false]
      exact ⟨p6, n6, r6⟩
    · simp only [c1, c2, c3, if_true, if_false]
      exact ⟨p6, n6, r6⟩
  by_cases c3 : v_X6_within x3 0 1000 = 0
  · simp only [c1, c2, c3, if_true, if_false]
    exact ⟨p6, n6, r6⟩
  simp only [c1, c2, c3, if_false]
  obtain ⟨b1, b2⟩ := wneg c1
  obtain ⟨b3, b4⟩ := wneg c2
  obtain ⟨b5, b6⟩ := wneg c3
  rw [n_0] at b1 b3 b5
  rw [n_1000] at b2 b6
  rw [n_20] at b4
  have m1 : (1000 * x1).toInt = 1000 * x1.toInt := by rw [n_mul (by rw [n_1000]; omega) (by rw [n_1000]; omega), n_1000]
  have s1 : (1000 - x1).toInt = 1000 - x1.toInt := by rw [n_sub (by rw [n_1000]; omega) (by rw [n_1000]; omega), n_1000]
  have m2 : (1000 * (1000 - x1)).toInt = 1000 * (1000 - x1.toInt) := by rw [n_mul (by rw [n_1000, s1]; omega) (by rw [n_1000, s1]; omega), n_1000, s1]
  have e1 : x1.toInt64 * 1000 = (1000 * x1).toInt64 := by rw [l_eq, l_mul (by rw [l_64, l_1000]; omega) (by rw [l_64, l_1000]; omega), l_64, l_64, l_1000, m1]; omega
  have e2 : (1000 - x1).toInt64 * 1000 = (1000 * (1000 - x1)).toInt64 := by rw [l_eq, l_mul (by rw [l_64, l_1000, s1]; omega) (by rw [l_64, l_1000, s1]; omega), l_64, l_64, l_1000, m2, s1]; omega
  rw [e1, e2]
  obtain ⟨j1, j2, j3, j4, j5⟩ := paint_loop (N := N) (M := M) x2 x3 (1000 * x1) ⟨b5, b6⟩ ⟨by omega, by omega⟩ b4 200 (1000 * (1000 - x1)) 0 (by omega) (by omega) (by decide) (by decide) (by decide)
  refine ⟨j1, j2, j3, ?_⟩
  rw [j4, j5]
  exact h
end
