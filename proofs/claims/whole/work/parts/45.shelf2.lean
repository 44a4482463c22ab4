section
variable {P : pT} {N : nT} {R Q : rT} {V : vT} {F : fT} {M : mT}
theorem RA.E (h : RA P N R Q V F M) : OKe M.1 := h.2.2.1.2.1
/-- why a shelf is no row: to both -/
theorem ref_cases (h : RA P N R Q V F M) (x : Int32) : (v_X6_shelfAt N x = none ∧ v_X7_isShelf M x = 0 ∧ v_X6_rowRefusal N F x = 1 ∧ v_X7_wanted M x = -1) ∨ (v_X6_shelfAt N x = some x.toNatClampNeg ∧ v_X7_isShelf M x = 1 ∧ x.toNatClampNeg < 8 ∧ vp_in x 8 ∧ ((RS0 (F x.toNatClampNeg) M x.toNatClampNeg ∧ v_X6_rowRefusal N F x = 3 ∧ v_X7_wanted M x = -3) ∨ (RS1 (F x.toNatClampNeg) M x.toNatClampNeg ∧ v_X6_rowRefusal N F x = 0 ∧ v_X7_wanted M x = 0) ∨ (RS2 (F x.toNatClampNeg) M x.toNatClampNeg ∧ v_X6_rowRefusal N F x = 2 ∧ v_X7_wanted M x = -2))) := by
  unfold v_X6_rowRefusal v_X7_wanted
  rcases shelf_cases N M x with ⟨e1, e2⟩ | ⟨e1, e2, e3, e4⟩
  · rw [e1, e2]
    exact Or.inl ⟨rfl, rfl, rfl, if_pos rfl⟩
  · refine Or.inr ⟨e1, e2, e3, e4, ?_⟩
    rw [e1, e2]
    simp +decide only [oc_some, oc_none, if_true, if_false]
    have hS := h.2.1 _ e3
    rcases hS with k0 | k1 | k2
    · refine Or.inl ⟨k0, ?_, ?_⟩
      · rcases (RS.kind (R := R) (Or.inl k0) h.E) with ⟨a, b, c⟩ | ⟨a, b, c⟩ | ⟨a, b, c⟩
        · rw [b, c]; rfl
        · rw [k0.1] at a; exact absurd a (by decide)
        · rw [k0.1] at a; exact absurd a (by decide)
      · rw [k0.1]; rfl
    · refine Or.inr (Or.inl ⟨k1, ?_, ?_⟩)
      · rcases (RS.kind (R := R) (Or.inr (Or.inl k1)) h.E) with ⟨a, b, c⟩ | ⟨a, b, c⟩ | ⟨a, b, c⟩
        · rw [k1.1] at a; exact absurd a (by decide)
        · rw [b, c]; rfl
        · rw [k1.1] at a; exact absurd a (by decide)
      · rw [k1.1]; rfl
    · refine Or.inr (Or.inr ⟨k2, ?_, ?_⟩)
      · rcases (RS.kind (R := R) (Or.inr (Or.inr k2)) h.E) with ⟨a, b, c⟩ | ⟨a, b, c⟩ | ⟨a, b, c⟩
        · rw [k2.1] at a; exact absurd a (by decide)
        · rw [k2.1] at a; exact absurd a (by decide)
        · rw [b, c]; rfl
      · rw [k2.1]; rfl
theorem p_rowRef (N : nT) (F : fT) (x : Int32) : p_X6_rowRefusal N F x := p_shelfAt N x
theorem hasEl_iff {S : sT} {y : Int32} : v_X5_hasElement S y = 0 ↔ ¬ (0 ≤ y.toInt ∧ y.toInt < (S.1 2).toInt ∧ y.toInt < 160) := by
  unfold v_X5_hasElement
  by_cases h1 : y < 0
  · rw [if_pos h1]; rw [n_lt, n_0] at h1
    exact ⟨fun _ h => by omega, fun _ => rfl⟩
  · rw [if_neg h1]; rw [n_lt, n_0] at h1
    by_cases h2 : S.1 2 ≤ y
    · rw [if_pos h2]; rw [n_le] at h2
      exact ⟨fun _ h => by omega, fun _ => rfl⟩
    · rw [if_neg h2]; rw [n_le] at h2
      by_cases h3 : (160 : Int32) ≤ y
      · rw [if_pos h3]; rw [n_le, n_160] at h3
        exact ⟨fun _ h => by omega, fun _ => rfl⟩
      · rw [if_neg h3]; rw [n_le, n_160] at h3
        exact ⟨fun h => absurd h (by decide), fun h => absurd ⟨by omega, by omega, by omega⟩ h⟩
theorem op_set (h : RA P N R Q V F M) (x1 x2 : Int32) (x3 : Int64) : p_X6_set N F x1 x2 x3 ∧ p_X7_set M x1 x2 x3 ∧ (v_X6_set N F x1 x2 x3).1 = (v_X7_set M x1 x2 x3).1 ∧ RA P (v_X6_set N F x1 x2 x3).2.1 R Q V (v_X6_set N F x1 x2 x3).2.2 (v_X7_set M x1 x2 x3).2 := by
  unfold p_X6_set p_X7_set v_X6_set v_X7_set
  simp only [kk]
  rcases ref_cases h x1 with ⟨e1, e2, e3, -⟩ | ⟨e1, e2, e3, e4, ⟨k0, er, -⟩ | ⟨k1, er, -⟩ | ⟨k2, er, -⟩⟩
  · rw [e1, e2, e3]
    simp +decide only [if_true, if_false]
    exact ⟨⟨p_rowRef N F x1, p_refuse N 1⟩, p_no (b := 1) (by decide) (by decide), RA_refuse h (b := 1) (by decide) (by decide)⟩
  · rw [e1, e2, er, k0.1]
    simp +decide only [if_true, if_false]
    exact ⟨⟨p_rowRef N F x1, p_refuse N 3⟩, ⟨e4, e4, p_no (b := 3) (by decide) (by decide)⟩, RA_refuse h (b := 3) (by decide) (by decide)⟩
  · rw [e1, e2, er, k1.1]
    simp +decide only [oc_some, oc_none, if_true, if_false]
    obtain ⟨g1, g2, g3, g4, g5, g6⟩ := k1
    by_cases c1 : x2 < 0
    · have w : v_X5_hasElement (F x1.toNatClampNeg) x2 = 0 := by rw [hasEl_iff]; rw [n_lt, n_0] at c1; omega
      simp +decide only [c1, w, if_true, if_false]
      exact ⟨⟨p_rowRef N F x1, p_shelfAt N x1, p_refuse N 5⟩, ⟨e4, e4, p_no (b := 5) (by decide) (by decide)⟩, RA_refuse h (b := 5) (by decide) (by decide)⟩
    · rw [n_lt, n_0] at c1
      by_cases c2 : x2 < M.2.1 18 x1.toNatClampNeg
      · have c2' := c2
        rw [n_lt] at c2'
        have w : ¬ v_X5_hasElement (F x1.toNatClampNeg) x2 = 0 := by rw [hasEl_iff, g4]; omega
        have c1n : ¬ x2 < 0 := by rw [n_lt, n_0]; exact c1
        simp +decide only [c1n, c2, w, if_true, if_false]
        obtain ⟨i1, i2⟩ := cell_ix e4 (y := x2) ⟨by omega, by omega⟩
        have hv : vp_in x2 160 := by rw [vp_iff]; omega
        -- the sort, to both
        have hh : ∀ j : Int32, 0 ≤ j.toInt → j.toInt ≤ 3 → (((F x1.toNatClampNeg).1 1 - 100 = j) ↔ (M.2.1 17 x1.toNatClampNeg = j)) := fun j j1 j2 => by
          have a1 : ((F x1.toNatClampNeg).1 1).toInt = 100 + (M.2.1 17 x1.toNatClampNeg).toInt := by rw [g2, n_add (by rw [n_100]; omega) (by rw [n_100]; omega), n_100]
          rw [n_eq, n_eq, n_sub (by rw [a1, n_100]; omega) (by rw [a1, n_100]; omega), a1, n_100]
          omega
        have hput : v_X5_put (F x1.toNatClampNeg) x2 x3 = ssa (F x1.toNatClampNeg) (vp_updL (F x1.toNatClampNeg).2 x2.toNatClampNeg (if M.2.1 17 x1.toNatClampNeg = 0 then x3.toInt32.toInt8.toInt32.toInt64 else (if M.2.1 17 x1.toNatClampNeg = 1 then x3.toInt32.toInt16.toInt32.toInt64 else (if M.2.1 17 x1.toNatClampNeg = 2 then x3.toInt32.toInt64 else x3)))) := by
          unfold v_X5_put
          rw [if_neg w]
          simp only [hh 0 (by decide) (by decide), hh 1 (by decide) (by decide), hh 2 (by decide) (by decide)]
          split
          · rfl
          · split
            · rfl
            · split <;> rfl
        refine ⟨⟨p_rowRef N F x1, p_shelfAt N x1, ?_⟩, ⟨e4, e4, e4, e4, ?_, i1⟩, by trivial, ?_⟩
        · unfold p_X5_put
          rw [if_neg w]
          repeat' split
          all_goals exact hv
        · split
          · trivial
          · refine ⟨e4, ?_⟩
            split
            · trivial
            · exact e4
        · rw [hput]
          refine RA_shelf h e3 rfl (fun j hj => rfl) (fun j s _ _ _ => rfl) (fun i hi => ?_) (Or.inr (Or.inl ⟨g1, g2, g3, g4, g5, fun i hi => ?_⟩))
          · rw [msl_at, i2, updL_ne (by intro e; exact hi ⟨by omega, by rw [e, n_tn x2]; omega⟩)]
          · show vp_updL (F x1.toNatClampNeg).2 _ _ i = (msl M 20 _).2.2 20 _
            rw [msl_at, i2]
            by_cases q : i = x2.toNatClampNeg
            · subst q
              rw [updL_at, updL_at]
            · rw [updL_ne q, updL_ne (by omega)]
              exact g6 i hi
      · have w : v_X5_hasElement (F x1.toNatClampNeg) x2 = 0 := by rw [hasEl_iff, g4]; rw [n_lt] at c2; omega
        have c1n : ¬ x2 < 0 := by rw [n_lt, n_0]; exact c1
        simp +decide only [c1n, c2, w, if_true, if_false]
        exact ⟨⟨p_rowRef N F x1, p_shelfAt N x1, p_refuse N 5⟩, ⟨e4, e4, e4, p_no (b := 5) (by decide) (by decide)⟩, RA_refuse h (b := 5) (by decide) (by decide)⟩
  · rw [e1, e2, er, k2.1]
    simp +decide only [if_true, if_false]
    exact ⟨⟨p_rowRef N F x1, p_refuse N 2⟩, ⟨e4, p_no (b := 2) (by decide) (by decide)⟩, RA_refuse h (b := 2) (by decide) (by decide)⟩
theorem longAt_eq {S : sT} {y : Int32} (hl : (S.1 2).toInt ≤ 160) : v_X5_longAt S y = (if y < 0 then 0 else (if S.1 2 ≤ y then 0 else S.2 y.toNatClampNeg)) := by
  unfold v_X5_longAt kk
  by_cases h1 : y < 0
  · rw [if_pos h1, if_pos h1]
  · rw [if_neg h1, if_neg h1]
    by_cases h2 : S.1 2 ≤ y
    · rw [if_pos h2, if_pos h2]
    · rw [if_neg h2, if_neg h2, if_pos (by rw [n_lt, n_160]; rw [n_le] at h2; omega)]
theorem p_longAt (S : sT) (y : Int32) : p_X5_longAt S y := by
  unfold p_X5_longAt
  split
  · trivial
  · split
    · trivial
    · split
      · rename_i h1 h2 h3
        rw [n_lt, n_0] at h1; rw [n_lt, n_160] at h3
        rw [vp_iff]; omega
      · trivial
theorem op_element (h : RA P N R Q V F M) (x1 x2 : Int32) : p_X6_element N F x1 x2 ∧ p_X7_element M x1 x2 ∧ v_X6_element N F x1 x2 = v_X7_element M x1 x2 := by
  unfold p_X6_element p_X7_element v_X6_element v_X7_element
  simp only [kk]
  rcases ref_cases h x1 with ⟨e1, e2, -, -⟩ | ⟨e1, e2, e3, e4, ⟨k0, -, -⟩ | ⟨k1, -, -⟩ | ⟨k2, -, -⟩⟩
  · rw [e1, e2]
    simp +decide only [oc_some, oc_none, if_true, if_false]
    exact ⟨⟨p_shelfAt N x1, trivial⟩, by trivial⟩
  · rw [e1, e2, k0.1]
    simp +decide only [oc_some, oc_none, if_true, if_false]
    refine ⟨⟨p_shelfAt N x1, p_longAt _ _⟩, ⟨e4, trivial⟩, ?_⟩
    rw [longAt_eq (by rw [k0.2.2]; decide), k0.2.2]
    by_cases c : x2 < 0
    · rw [if_pos c]
    · rw [if_neg c, if_pos (by rw [n_le, n_0]; rw [n_lt, n_0] at c; omega)]
  · obtain ⟨g1, g2, g3, g4, g5, g6⟩ := k1
    rw [e1, e2, g1]
    simp +decide only [oc_some, oc_none, if_true, if_false]
    rw [longAt_eq (by rw [g4]; omega), g4]
    by_cases c : x2 < 0
    · simp +decide only [c, if_true, if_false]
      exact ⟨⟨p_shelfAt N x1, p_longAt _ _⟩, ⟨e4, trivial⟩, by trivial⟩
    · simp +decide only [c, if_true, if_false]
      rw [n_lt, n_0] at c
      by_cases c2 : M.2.1 18 x1.toNatClampNeg ≤ x2
      · simp +decide only [c2, if_true, if_false]
        exact ⟨⟨p_shelfAt N x1, p_longAt _ _⟩, ⟨e4, e4, trivial⟩, by trivial⟩
      · simp +decide only [c2, if_true, if_false]
        rw [n_le] at c2
        obtain ⟨i1, i2⟩ := cell_ix e4 (y := x2) ⟨by omega, by omega⟩
        refine ⟨⟨p_shelfAt N x1, p_longAt _ _⟩, ⟨e4, e4, i1⟩, ?_⟩
        rw [i2]
        exact g6 _ (by rw [n_tn]; omega)
  · rw [e1, e2, k2.1]
    simp +decide only [oc_some, oc_none, if_true, if_false]
    refine ⟨⟨p_shelfAt N x1, p_longAt _ _⟩, ⟨e4, trivial⟩, ?_⟩
    rw [longAt_eq (by rw [k2.2.2.2]; decide), k2.2.2.2]
    by_cases c : x2 < 0
    · rw [if_pos c]
    · rw [if_neg c, if_pos (by rw [n_le, n_0]; rw [n_lt, n_0] at c; omega)]
theorem op_holds (h : RA P N R Q V F M) (x1 : Int32) : p_X6_holds N F x1 ∧ p_X7_holds M x1 ∧ v_X6_holds N F x1 = v_X7_holds M x1 := by
  unfold p_X6_holds p_X7_holds v_X6_holds v_X7_holds
  rcases ref_cases h x1 with ⟨e1, e2, -, -⟩ | ⟨e1, e2, e3, e4, ⟨k0, -, -⟩ | ⟨k1, -, -⟩ | ⟨k2, -, -⟩⟩
  · rw [e1, e2]
    exact ⟨p_shelfAt N x1, trivial, rfl⟩
  · rw [e1, e2, k0.1]
    exact ⟨p_shelfAt N x1, ⟨e4, trivial⟩, k0.2.1⟩
  · rw [e1, e2, k1.1]
    exact ⟨p_shelfAt N x1, ⟨e4, e4, e4⟩, k1.2.1⟩
  · rw [e1, e2, k2.1]
    exact ⟨p_shelfAt N x1, ⟨e4, e4, e4⟩, k2.2.1⟩
theorem op_show (h : RA P N R Q V F M) (x1 x2 : Int32) : p_X6_show N R F x1 x2 ∧ p_X7_show M x1 x2 ∧ (v_X6_show N R F x1 x2).1 = (v_X7_show M x1 x2).1 ∧ RA P (v_X6_show N R F x1 x2).2.1 R Q V (v_X6_show N R F x1 x2).2.2 (v_X7_show M x1 x2).2 := by
  unfold p_X6_show p_X7_show v_X6_show v_X7_show
  simp only [kk]
  rcases shelf_cases N M x1 with ⟨e1, e2⟩ | ⟨e1, e2, e3, e4⟩
  · rw [e1, e2]
    simp +decide only [oc_some, oc_none, if_true, if_false]
    exact ⟨⟨p_shelfAt N x1, p_refuse N 1⟩, p_no (b := 1) (by decide) (by decide), RA_refuse h (b := 1) (by decide) (by decide)⟩
  · rw [e1, e2]
    simp +decide only [oc_some, oc_none, if_true, if_false]
    have key : ∀ (k2 : Int32), ((x2 = -1 ∧ k2 = 0) ∨ (isC M.1 x2 ∧ k2 = 2)) → RA P N R Q V (va_up F x1.toNatClampNeg (v_X5_hold (F x1.toNatClampNeg) x2)) (msa (msa M 16 (upd (M.2.1 16) x1.toNatClampNeg k2)) 19 (upd (M.2.1 19) x1.toNatClampNeg x2)) := fun k2 hk => by
      refine RA_shelf h e3 rfl (fun j hj => ?_) (fun j s hj hj2 hs => ?_) (fun i hi => rfl) ?_
      · show va_up (va_up M.2.1 16 _) 19 _ j = _
        rw [up_ne (by omega), up_ne (by omega)]
      · show va_up (va_up M.2.1 16 _) 19 _ j s = _
        rcases (show j = 16 ∨ j = 17 ∨ j = 18 ∨ j = 19 by omega) with rfl | rfl | rfl | rfl
        · exact upd_ne hs
        · rfl
        · rfl
        · exact upd_ne hs
      · rcases hk with ⟨a, b⟩ | ⟨a, b⟩
        · refine Or.inl ⟨?_, ?_, rfl⟩
          · show upd (M.2.1 16) x1.toNatClampNeg k2 x1.toNatClampNeg = 0
            rw [upd_at, b]
          · exact a
        · refine Or.inr (Or.inr ⟨?_, ?_, ?_, rfl⟩)
          · show upd (M.2.1 16) x1.toNatClampNeg k2 x1.toNatClampNeg = 2
            rw [upd_at, b]
          · show x2 = upd (M.2.1 19) x1.toNatClampNeg x2 x1.toNatClampNeg
            rw [upd_at]
          · show isC M.1 (upd (M.2.1 19) x1.toNatClampNeg x2 x1.toNatClampNeg)
            rw [upd_at]
            exact a
    by_cases c1 : x2 = -1
    · subst c1
      simp +decide only [if_true, if_false]
      exact ⟨⟨p_shelfAt N _, trivial⟩, ⟨e4, e4⟩, by trivial, key 0 (Or.inl ⟨rfl, rfl⟩)⟩
    · simp +decide only [c1, if_true, if_false]
      by_cases c2 : isC M.1 x2
      · have w1 : ¬ v_X4_has R x2 = 0 := by rw [has_iff h.2.2.1]; exact fun q => q c2
        have w2 : ¬ v_X7_isComer M x2 = 0 := by rw [mcomer_iff]; exact fun q => q c2
        simp +decide only [w1, w2, if_true, if_false]
        exact ⟨⟨p_shelfAt N x1, p_has h.2.2.1 x2, trivial⟩, ⟨e4, e4⟩, trivial, key 2 (Or.inr ⟨c2, rfl⟩)⟩
      · have w1 : v_X4_has R x2 = 0 := by rw [has_iff h.2.2.1]; exact c2
        have w2 : v_X7_isComer M x2 = 0 := by rw [mcomer_iff]; exact c2
        simp +decide only [w1, w2, if_true, if_false]
        exact ⟨⟨p_shelfAt N x1, p_has h.2.2.1 x2, p_refuse N 1⟩, p_no (b := 1) (by decide) (by decide), RA_refuse h (b := 1) (by decide) (by decide)⟩
end
