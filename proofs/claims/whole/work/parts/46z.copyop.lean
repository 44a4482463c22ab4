section
variable {P : pT} {N : nT} {R Q : rT} {V : vT} {F : fT} {M : mT}
theorem op_copy (h : RA P N R Q V F M) (x1 x2 x3 x4 x5 : Int32) : p_X6_copy N F x1 x2 x3 x4 x5 ∧ p_X7_copy M x1 x2 x3 x4 x5 ∧ (v_X6_copy N F x1 x2 x3 x4 x5).1 = (v_X7_copy M x1 x2 x3 x4 x5).1 ∧ RA P (v_X6_copy N F x1 x2 x3 x4 x5).2.1 R Q V (v_X6_copy N F x1 x2 x3 x4 x5).2.2 (v_X7_copy M x1 x2 x3 x4 x5).2 := by
  have z1 : (0 : Int32) = 0 := rfl
  have z2 : ¬ (1 : Int32) = 0 := by decide
  have z3 : ¬ (2 : Int32) = 0 := by decide
  have z4 : ¬ (0 : Int32) = 2 := by decide
  have z5 : ¬ (1 : Int32) = 2 := by decide
  have z6 : ¬ (0 : Int32) = 1 := by decide
  have z7 : (1 : Int32) = 1 := rfl
  have z8 : (2 : Int32) = 2 := rfl
  have pn : ∀ b : Int32, 1 ≤ b.toInt → b.toInt ≤ 7 → p_X7_no M (-b) := fun b h1 h2 => p_no h1 h2
  unfold p_X6_copy p_X7_copy v_X6_copy v_X7_copy
  simp only [kk]
  rcases shelf_cases N M x1 with ⟨e1, e2⟩ | ⟨e1, e2, e3, e4⟩
  · rw [e1, e2]
    simp +decide only [z1, if_true, if_false]
    rcases shelf_cases N M x2 with ⟨f1, f2⟩ | ⟨f1, f2, f3, f4⟩
    · rw [f1]
      exact ⟨⟨p_shelfAt N x1, p_shelfAt N x2, p_refuse N 1⟩, pn 1 (by decide) (by decide), RA_refuse h (b := 1) (by decide) (by decide)⟩
    · rw [f1]
      exact ⟨⟨p_shelfAt N x1, p_shelfAt N x2, p_refuse N 1⟩, pn 1 (by decide) (by decide), RA_refuse h (b := 1) (by decide) (by decide)⟩
  · rw [e1, e2]
    simp +decide only [z2, if_true, if_false]
    rcases shelf_cases N M x2 with ⟨f1, f2⟩ | ⟨f1, f2, f3, f4⟩
    · rw [f1, f2]
      simp +decide only [z1, if_true, if_false]
      exact ⟨⟨p_shelfAt N x1, p_shelfAt N x2, p_refuse N 1⟩, pn 1 (by decide) (by decide), RA_refuse h (b := 1) (by decide) (by decide)⟩
    · rw [f1, f2]
      simp +decide only [z2, oc_some, oc_none, if_true, if_false]
      have hS1 := h.2.1 _ e3
      have hS2 := h.2.1 _ f3
      rcases RS.kind (R := R) hS1 h.E with ⟨a1, a2, a3⟩ | ⟨a1, a2, a3⟩ | ⟨a1, a2, a3⟩
      · rcases RS.kind (R := R) hS2 h.E with ⟨b1, b2, b3⟩ | ⟨b1, b2, b3⟩ | ⟨b1, b2, b3⟩
        · rw [a1, a2, a3, b1, b2, b3]
          simp +decide only [z1, z4, z6, if_true, if_false]
          exact ⟨⟨p_shelfAt N x1, p_shelfAt N x2, p_refuse N 3⟩, ⟨e4, f4, e4, e4, pn 3 (by decide) (by decide)⟩, RA_refuse h (b := 3) (by decide) (by decide)⟩
        · rw [a1, a2, a3, b1, b2, b3]
          simp +decide only [z1, z4, z6, z5, if_true, if_false]
          exact ⟨⟨p_shelfAt N x1, p_shelfAt N x2, p_refuse N 3⟩, ⟨e4, f4, e4, e4, pn 3 (by decide) (by decide)⟩, RA_refuse h (b := 3) (by decide) (by decide)⟩
        · rw [a1, a2, a3, b1, b2, b3]
          simp +decide only [z1, z4, z2, z8, if_true, if_false]
          exact ⟨⟨p_shelfAt N x1, p_shelfAt N x2, p_refuse N 2⟩, ⟨e4, f4, pn 2 (by decide) (by decide)⟩, RA_refuse h (b := 2) (by decide) (by decide)⟩
      · rcases RS.kind (R := R) hS2 h.E with ⟨b1, b2, b3⟩ | ⟨b1, b2, b3⟩ | ⟨b1, b2, b3⟩
        · rw [a1, a2, a3, b1, b2, b3]
          simp +decide only [z1, z4, z6, z5, z2, z7, if_true, if_false]
          exact ⟨⟨p_shelfAt N x1, p_shelfAt N x2, p_refuse N 3⟩, ⟨e4, f4, e4, f4, e4, f4, pn 3 (by decide) (by decide)⟩, RA_refuse h (b := 3) (by decide) (by decide)⟩
        · rw [a1, a2, a3, b1, b2, b3]
          have k1 : RS1 (F x1.toNatClampNeg) M x1.toNatClampNeg := by
            rcases hS1 with k | k | k
            · rw [k.1] at a1; exact absurd a1 (by decide)
            · exact k
            · rw [k.1] at a1; exact absurd a1 (by decide)
          have k2 : RS1 (F x2.toNatClampNeg) M x2.toNatClampNeg := by
            rcases hS2 with k | k | k
            · rw [k.1] at b1; exact absurd b1 (by decide)
            · exact k
            · rw [k.1] at b1; exact absurd b1 (by decide)
          obtain ⟨g1, g2, g3, g4, g5, g6⟩ := k1
          obtain ⟨j1, j2, j3, j4, j5, j6⟩ := k2
          simp +decide only [z1, z5, z2, z7, if_true, if_false]
          have hso : ((F x1.toNatClampNeg).1 1 = (F x2.toNatClampNeg).1 1) ↔ (M.2.1 17 x1.toNatClampNeg = M.2.1 17 x2.toNatClampNeg) := by
            rw [g2, j2, n_eq, n_eq, n_add (by rw [n_100]; omega) (by rw [n_100]; omega), n_add (by rw [n_100]; omega) (by rw [n_100]; omega)]
            omega
          by_cases c0 : M.2.1 17 x1.toNatClampNeg = M.2.1 17 x2.toNatClampNeg
          · simp only [if_pos c0, if_pos (hso.mpr c0)]
            by_cases c1 : (0 : Int32) ≤ x5
            · simp +decide only [c1, if_true, if_false]
              rw [n_le, n_0] at c1
              by_cases c2 : x3 < 0
              · have w : v_X5_spans (F x1.toNatClampNeg) x3 x5.toInt64 = 0 := by rw [spans_iff]; rw [n_lt, n_0] at c2; omega
                simp +decide only [c2, w, if_true, if_false]
                exact ⟨⟨p_shelfAt N x1, p_shelfAt N x2, p_refuse N 5⟩, ⟨e4, f4, e4, f4, e4, f4, e4, f4, pn 5 (by decide) (by decide)⟩, RA_refuse h (b := 5) (by decide) (by decide)⟩
              · simp +decide only [c2, if_true, if_false]
                rw [n_lt, n_0] at c2
                by_cases c3 : x4 < 0
                · have w2 : v_X5_spans (F x2.toNatClampNeg) x4 x5.toInt64 = 0 := by rw [spans_iff]; rw [n_lt, n_0] at c3; omega
                  simp +decide only [c3, if_true, if_false]
                  by_cases w : v_X5_spans (F x1.toNatClampNeg) x3 x5.toInt64 = 0
                  · simp +decide only [w, if_true, if_false]
                    exact ⟨⟨p_shelfAt N x1, p_shelfAt N x2, p_refuse N 5⟩, ⟨e4, f4, e4, f4, e4, f4, e4, f4, pn 5 (by decide) (by decide)⟩, RA_refuse h (b := 5) (by decide) (by decide)⟩
                  · simp +decide only [w, w2, if_true, if_false]
                    exact ⟨⟨p_shelfAt N x1, p_shelfAt N x2, p_refuse N 5⟩, ⟨e4, f4, e4, f4, e4, f4, e4, f4, pn 5 (by decide) (by decide)⟩, RA_refuse h (b := 5) (by decide) (by decide)⟩
                · simp +decide only [c3, if_true, if_false]
                  rw [n_lt, n_0] at c3
                  have h5 := i_b x5
                  have d1 : (M.2.1 18 x1.toNatClampNeg - x5).toInt = (M.2.1 18 x1.toNatClampNeg).toInt - x5.toInt := n_sub (by omega) (by omega)
                  have d2 : (M.2.1 18 x2.toNatClampNeg - x5).toInt = (M.2.1 18 x2.toNatClampNeg).toInt - x5.toInt := n_sub (by omega) (by omega)
                  by_cases c4 : (M.2.1 18 x1.toNatClampNeg - x5) < x3
                  · have w : v_X5_spans (F x1.toNatClampNeg) x3 x5.toInt64 = 0 := by rw [spans_iff, g4]; rw [n_lt, d1] at c4; omega
                    simp +decide only [c4, w, if_true, if_false]
                    exact ⟨⟨p_shelfAt N x1, p_shelfAt N x2, p_refuse N 5⟩, ⟨e4, f4, e4, f4, e4, f4, e4, f4, e4, pn 5 (by decide) (by decide)⟩, RA_refuse h (b := 5) (by decide) (by decide)⟩
                  · have w : ¬ v_X5_spans (F x1.toNatClampNeg) x3 x5.toInt64 = 0 := by rw [spans_iff, g4]; rw [n_lt, d1] at c4; omega
                    simp +decide only [c4, w, if_true, if_false]
                    rw [n_lt, d1] at c4
                    by_cases c5 : x4 ≤ (M.2.1 18 x2.toNatClampNeg - x5)
                    · have w2 : ¬ v_X5_spans (F x2.toNatClampNeg) x4 x5.toInt64 = 0 := by rw [spans_iff, j4]; rw [n_le, d2] at c5; omega
                      simp +decide only [c5, w2, if_true, if_false]
                      rw [n_le, d2] at c5
                      obtain ⟨l1, l2, l3, l4, l5⟩ := copy_loop1 x1 x2 x3 x4 x5 e4 f4 (by omega) (by omega) c1 (by omega) (by omega) 400 M 0 (by decide) (by rw [n_0]; omega) (by rw [n_0]; omega)
                      refine ⟨⟨p_shelfAt N x1, p_shelfAt N x2, ?_⟩, ⟨e4, f4, e4, f4, e4, f4, e4, f4, e4, f4, l1⟩, l2.symm, ?_⟩
                      · refine ⟨by first | trivial | (rw [n_lt, n_0]; omega), by first | trivial | (rw [n_lt, n_0]; omega), by first | trivial | (rw [n_lt, n_0]; omega), ?_, ?_⟩
                        · rw [n_tn, n_tn]; omega
                        · rw [n_tn, n_tn]; omega
                      · refine RA_shelf h f3 l3 (fun j hj => by rw [l4]) (fun j s _ _ _ => by rw [l4]) (fun i hi => ?_) (Or.inr (Or.inl ⟨by rw [l4]; exact j1, by rw [l4]; exact j2, by rw [l4]; exact j3, by rw [l4]; exact j4, by rw [l4]; exact j5, fun i hi => ?_⟩))
                        · rw [l5 i, if_neg (by rw [n_tn x4, n_tn x5]; omega)]
                        · rw [l4] at hi
                          rw [l5 _]
                          show va_cpy (F x1.toNatClampNeg).2 (F x2.toNatClampNeg).2 x3.toNatClampNeg x4.toNatClampNeg x5.toNatClampNeg i = _
                          unfold va_cpy
                          rw [show (0 : Int32).toNatClampNeg = 0 from rfl]
                          by_cases c6 : x4.toNatClampNeg ≤ i ∧ i < x4.toNatClampNeg + x5.toNatClampNeg
                          · rw [if_pos c6, if_pos (by omega), if_neg (by omega), g6 _ (by rw [n_tn x3, n_tn x4]; rw [n_tn x4, n_tn x5] at c6; omega)]
                            exact congrArg (M.2.2 20) (by omega)
                          · rw [if_neg c6, if_neg (by omega)]
                            exact j6 i hi
                    · have w2 : v_X5_spans (F x2.toNatClampNeg) x4 x5.toInt64 = 0 := by rw [spans_iff, j4]; rw [n_le, d2] at c5; omega
                      simp +decide only [c5, w2, if_true, if_false]
                      exact ⟨⟨p_shelfAt N x1, p_shelfAt N x2, p_refuse N 5⟩, ⟨e4, f4, e4, f4, e4, f4, e4, f4, e4, f4, pn 5 (by decide) (by decide)⟩, RA_refuse h (b := 5) (by decide) (by decide)⟩
            · simp +decide only [c1, if_true, if_false]
              exact ⟨⟨p_shelfAt N x1, p_shelfAt N x2, p_refuse N 4⟩, ⟨e4, f4, e4, f4, e4, f4, e4, f4, pn 4 (by decide) (by decide)⟩, RA_refuse h (b := 4) (by decide) (by decide)⟩
          · simp only [if_neg c0, if_neg (fun q => c0 (hso.mp q))]
            exact ⟨⟨p_shelfAt N x1, p_shelfAt N x2, p_refuse N 2⟩, ⟨e4, f4, e4, f4, e4, f4, pn 2 (by decide) (by decide)⟩, RA_refuse h (b := 2) (by decide) (by decide)⟩
        · rw [a1, a2, a3, b1, b2, b3]
          simp +decide only [z1, z5, z2, z8, if_true, if_false]
          exact ⟨⟨p_shelfAt N x1, p_shelfAt N x2, p_refuse N 2⟩, ⟨e4, f4, pn 2 (by decide) (by decide)⟩, RA_refuse h (b := 2) (by decide) (by decide)⟩
      · rw [a1, a3]
        simp +decide only [z2, z8, if_true, if_false]
        exact ⟨⟨p_shelfAt N x1, p_shelfAt N x2, p_refuse N 2⟩, ⟨e4, pn 2 (by decide) (by decide)⟩, RA_refuse h (b := 2) (by decide) (by decide)⟩
end
