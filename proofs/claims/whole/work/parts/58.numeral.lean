/-! the class's signs and numbers -/
section
variable {E : e2T} {f : Nat → Int64} {len a : Nat}
theorem sign_yes (h4 : E.1 4 = Int32.ofNat len) (h5 : E.1 5 = Int32.ofNat a) (hl : len ≤ 160) (ha : a ≤ 400) {x : Int32} (hx : lt f len a = x) : v_X3_sign E f x = (1, e2f E 5 (Int32.ofNat (a + 1))) := by
  unfold v_X3_sign
  rw [h5, letter_eq h4 hl (by omega), if_pos hx, nat1 (by omega)]
theorem sign_no (h4 : E.1 4 = Int32.ofNat len) (h5 : E.1 5 = Int32.ofNat a) (hl : len ≤ 160) (ha : a ≤ 400) {x : Int32} (hx : ¬ lt f len a = x) : v_X3_sign E f x = (0, e2f E 1 (Int32.ofNat a)) := by
  unfold v_X3_sign
  rw [h5, letter_eq h4 hl (by omega), if_neg hx, kk_def]
  rfl
theorem p_sign {x : Int32} : p_X3_sign E f x := p_letter
theorem p_numeral {x y : Int32} : p_X3_numeral E f x y := by
  unfold p_X3_numeral
  refine ⟨p_sign, ?_⟩
  rw [kk_def]
  split
  · trivial
  · refine ⟨p_letter, ?_⟩
    split
    · trivial
    · refine ⟨p_letter, p_letter, ?_⟩
      rw [kk_def]
      split
      · trivial
      · exact p_letter
theorem numeral_no (h4 : E.1 4 = Int32.ofNat len) (h5 : E.1 5 = Int32.ofNat a) (hl : len ≤ 160) (ha : a ≤ 400) (hx : ¬ lt f len a = 32) (x y : Int32) : v_X3_numeral E f x y = (0, e2f E 1 (Int32.ofNat a)) := by
  unfold v_X3_numeral
  rw [sign_no h4 h5 hl ha hx, kk_def, if_pos n00]
/-- behind the blank -/
theorem numeral_yes (h4 : E.1 4 = Int32.ofNat len) (h5 : E.1 5 = Int32.ofNat a) (hl : len ≤ 160) (ha : a ≤ 400) (hx : lt f len a = 32) (x y : Int32) : ∃ (r : Int32) (E' : e2T), v_X3_numeral E f x y = (r, E') ∧ E'.2 = E.2 ∧ (∀ i, i ≠ 1 → i ≠ 5 → i ≠ 6 → E'.1 i = E.1 i) ∧ ((v_X3_isDigit (lt f len (a + 1)) = 0 ∧ r = 0 ∧ E'.1 1 = Int32.ofNat (a + 1)) ∨ (¬ v_X3_isDigit (lt f len (a + 1)) = 0 ∧ v_X3_isDigit (lt f len (a + 2)) = 0 ∧ ((v_X6_within (lt f len (a + 1) - 48) x y = 0 ∧ r = 0 ∧ E'.1 1 = Int32.ofNat (a + 1)) ∨ (¬ v_X6_within (lt f len (a + 1) - 48) x y = 0 ∧ r = 1 ∧ E'.1 5 = Int32.ofNat (a + 2) ∧ E'.1 6 = lt f len (a + 1) - 48))) ∨ (¬ v_X3_isDigit (lt f len (a + 1)) = 0 ∧ ¬ v_X3_isDigit (lt f len (a + 2)) = 0 ∧ ((v_X6_within (10 * (lt f len (a + 1) - 48) + lt f len (a + 2) - 48) x y = 0 ∧ r = 0 ∧ E'.1 1 = Int32.ofNat (a + 1)) ∨ (¬ v_X6_within (10 * (lt f len (a + 1) - 48) + lt f len (a + 2) - 48) x y = 0 ∧ r = 1 ∧ E'.1 5 = Int32.ofNat (a + 3) ∧ E'.1 6 = 10 * (lt f len (a + 1) - 48) + lt f len (a + 2) - 48)))) := by
  unfold v_X3_numeral
  rw [sign_yes h4 h5 hl ha hx, kk_def, if_neg n10]
  dsimp only
  have g4 : (e2f E 5 (Int32.ofNat (a + 1))).1 4 = Int32.ofNat len := (e2f_ne (by decide)).trans h4
  have g5 : (e2f E 5 (Int32.ofNat (a + 1))).1 5 = Int32.ofNat (a + 1) := e2f_at
  rw [g5, letter_eq g4 hl (by omega), nat1 (by omega)]
  by_cases c : v_X3_isDigit (lt f len (a + 1)) = 0
  · rw [if_pos c, kk_def]
    exact ⟨0, e2f (e2f E 5 (Int32.ofNat (a + 1))) 1 (Int32.ofNat (a + 1)), rfl, rfl, fun i h1 h2 h3 => by rw [e2f_ne h1, e2f_ne h2], Or.inl ⟨c, rfl, e2f_at⟩⟩
  · rw [if_neg c]
    have k4 : (e2f (e2f (e2f E 5 (Int32.ofNat (a + 1))) 6 (lt f len (a + 1) - 48)) 5 (Int32.ofNat (a + 1 + 1))).1 4 = Int32.ofNat len := by rw [e2f_ne (by decide), e2f_ne (by decide)]; exact g4
    rw [letter_eq k4 hl (by omega), kk_def]
    generalize hK : e2f (e2f (e2f E 5 (Int32.ofNat (a + 1))) 6 (lt f len (a + 1) - 48)) 5 (Int32.ofNat (a + 1 + 1)) = K at *
    have K2 : K.2 = E.2 := by rw [← hK]; rfl
    have K5 : K.1 5 = Int32.ofNat (a + 2) := by rw [← hK]; exact e2f_at
    have K6 : K.1 6 = lt f len (a + 1) - 48 := by rw [← hK, e2f_ne (by decide)]; exact e2f_at
    have Ki : ∀ i, i ≠ 1 → i ≠ 5 → i ≠ 6 → K.1 i = E.1 i := fun i h1 h2 h3 => by rw [← hK, e2f_ne h2, e2f_ne h3, e2f_ne h2]
    by_cases k : v_X3_isDigit (lt f len (a + 1 + 1)) = 0
    · rw [if_pos k, kk_def, kk_def, K6]
      by_cases w : v_X6_within (lt f len (a + 1) - 48) x y = 0
      · rw [if_pos w, if_pos w]
        exact ⟨0, e2f K 1 (Int32.ofNat (a + 1)), rfl, K2, fun i h1 h2 h3 => by rw [e2f_ne h1]; exact Ki i h1 h2 h3, Or.inr (Or.inl ⟨c, k, Or.inl ⟨w, rfl, e2f_at⟩⟩)⟩
      · rw [if_neg w, if_neg w]
        exact ⟨1, K, rfl, K2, Ki, Or.inr (Or.inl ⟨c, k, Or.inr ⟨w, rfl, K5, K6⟩⟩)⟩
    · rw [if_neg k, nat1 (by omega), kk_def, kk_def]
      have z6 : (e2f (e2f K 6 (10 * (lt f len (a + 1) - 48) + lt f len (a + 1 + 1) - 48)) 5 (Int32.ofNat (a + 1 + 1 + 1))).1 6 = 10 * (lt f len (a + 1) - 48) + lt f len (a + 1 + 1) - 48 := by rw [e2f_ne (by decide)]; exact e2f_at
      rw [z6]
      by_cases w : v_X6_within (10 * (lt f len (a + 1) - 48) + lt f len (a + 1 + 1) - 48) x y = 0
      · rw [if_pos w, if_pos w]
        exact ⟨0, _, rfl, K2, fun i h1 h2 h3 => by
          show (e2f (e2f (e2f K 6 _) 5 _) 1 _).1 i = _
          rw [e2f_ne h1, e2f_ne h2, e2f_ne h3]; exact Ki i h1 h2 h3, Or.inr (Or.inr ⟨c, k, Or.inl ⟨w, rfl, e2f_at⟩⟩)⟩
      · rw [if_neg w, if_neg w]
        exact ⟨1, _, rfl, K2, fun i h1 h2 h3 => by rw [e2f_ne h2, e2f_ne h3]; exact Ki i h1 h2 h3, Or.inr (Or.inr ⟨c, k, Or.inr ⟨w, rfl, e2f_at, z6⟩⟩)⟩
end
section
variable {M : mT} {E : e2T} {f : Nat → Int64} {b len a : Nat}
theorem dig_b {x : Int32} (h : ¬ v_X3_isDigit x = 0) : 48 ≤ x.toInt ∧ x.toInt ≤ 57 := by
  rw [dig_iff] at h
  exact Decidable.not_not.mp h
/-- a blank and a number, to both -/
theorem num_ok (hT : RT f M b len) (h4 : E.1 4 = Int32.ofNat len) (h5 : E.1 5 = Int32.ofNat a) (hx : lt f len a = 32) (hal : a + 1 ≤ len) (hm : M.1 27 = Int32.ofNat (a + 1)) (x y : Int32) : ∃ (r : Int32) (E' : e2T) (M' : mT), v_X3_numeral E f x y = (r, E') ∧ p_X7_reads M ∧ E'.2 = E.2 ∧ (∀ i, i ≠ 1 → i ≠ 5 → i ≠ 6 → E'.1 i = E.1 i) ∧ M'.2 = M.2 ∧ (∀ i, i ≠ 27 → i ≠ 29 → i ≠ 30 → M'.1 i = M.1 i) ∧ ((v_X7_reads M = (0, M') ∧ r = 0 ∧ E'.1 1 = M'.1 30) ∨ ((0 ≤ (M'.1 29).toInt ∧ (M'.1 29).toInt ≤ 99) ∧ v_X7_reads M = (1, M') ∧ ((v_X6_within (M'.1 29) x y = 0 ∧ r = 0 ∧ E'.1 1 = Int32.ofNat (a + 1)) ∨ (¬ v_X6_within (M'.1 29) x y = 0 ∧ r = 1 ∧ E'.1 6 = M'.1 29 ∧ ∃ a', a < a' ∧ a' ≤ len ∧ E'.1 5 = Int32.ofNat a' ∧ M'.1 27 = Int32.ofNat a')))) := by
  have hl := hT.2.2.2.1
  obtain ⟨r, E', e1, e2, e3, e4⟩ := numeral_yes h4 h5 hl (by omega) hx x y
  obtain ⟨M', m1, m2, m3, m4⟩ := reads_ok hT hm hal
  refine ⟨r, E', M', e1, m1, e2, e3, m2, m3, ?_⟩
  have s48 : (48 : Int32).toInt = 48 := rfl
  rcases m4 with ⟨d1, q1, q2⟩ | ⟨d1, d0, d2, q1, q2, q3⟩ | ⟨d1, d0, d2, q1, q2, q3⟩
  · rcases e4 with ⟨g1, g2, g3⟩ | ⟨g1, -⟩ | ⟨g1, -⟩
    · exact Or.inl ⟨q1, g2, g3.trans q2.symm⟩
    · exact absurd d1 g1
    · exact absurd d1 g1
  · have b1 := dig_b d1
    have s1 : (lt f len (a + 1) - 48).toInt = (lt f len (a + 1)).toInt - 48 := by rw [n_sub (by rw [s48]; omega) (by rw [s48]; omega), s48]
    refine Or.inr ⟨by rw [q3, s1]; omega, q1, ?_⟩
    rcases e4 with ⟨g1, -⟩ | ⟨g1, g2, g3⟩ | ⟨g1, g2, g3⟩
    · exact absurd g1 d1
    · rw [q3]
      rcases g3 with ⟨w, r1, r2⟩ | ⟨w, r1, r2, r3⟩
      · exact Or.inl ⟨w, r1, r2⟩
      · exact Or.inr ⟨w, r1, r3, a + 2, by omega, by omega, r2, q2⟩
    · exact absurd d2 g2
  · have b1 := dig_b d1
    have b2 := dig_b d2
    have s1 : (lt f len (a + 1) - 48).toInt = (lt f len (a + 1)).toInt - 48 := by rw [n_sub (by rw [s48]; omega) (by rw [s48]; omega), s48]
    have s2 : (10 * (lt f len (a + 1) - 48)).toInt = 10 * ((lt f len (a + 1)).toInt - 48) := by rw [n_mul (by rw [n_10, s1]; omega) (by rw [n_10, s1]; omega), n_10, s1]
    have s3 : (10 * (lt f len (a + 1) - 48) + lt f len (a + 1 + 1)).toInt = 10 * ((lt f len (a + 1)).toInt - 48) + (lt f len (a + 1 + 1)).toInt := by rw [n_add (by rw [s2]; omega) (by rw [s2]; omega), s2]
    have s4 : (10 * (lt f len (a + 1) - 48) + lt f len (a + 1 + 1) - 48).toInt = 10 * ((lt f len (a + 1)).toInt - 48) + (lt f len (a + 1 + 1)).toInt - 48 := by rw [n_sub (by rw [s3, s48]; omega) (by rw [s3, s48]; omega), s3, s48]
    refine Or.inr ⟨by rw [q3, s4]; omega, q1, ?_⟩
    rcases e4 with ⟨g1, -⟩ | ⟨g1, g2, g3⟩ | ⟨g1, g2, g3⟩
    · exact absurd g1 d1
    · exact absurd g2 d2
    · rw [q3]
      rcases g3 with ⟨w, r1, r2⟩ | ⟨w, r1, r2, r3⟩
      · exact Or.inl ⟨w, r1, r2⟩
      · exact Or.inr ⟨w, r1, r3, a + 3, by omega, by omega, r2, q2⟩
end
