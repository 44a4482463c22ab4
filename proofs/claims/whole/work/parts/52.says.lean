/-! says -/
theorem isOf_any (o : Nat → Int32) : ∀ (n : Nat) (a b c : Int32), v_X0_isOf_r o n a b c = v_X0_isOf_r (fun _ => 0) n a b c := by
  intro n
  induction n with
  | zero => intro a b c; rfl
  | succ n ih =>
    intro a b c
    rw [v_X0_isOf_r, v_X0_isOf_r, ih]
theorem isOf_all : ∀ x, x < 7 → ∀ k, k < 7 → (v_X0_isOf_r (fun _ => 0) 200 (Int32.ofNat x) (Int32.ofNat k) 0 = 0 ↔ ¬ (x = 0 ∨ x = k ∨ (x = 1 ∧ k = 6) ∨ (x = 2 ∧ k = 3) ∨ (x = 4 ∧ k = 5))) := by decide +kernel
theorem isOf_iff {o : Nat → Int32} {x : Int32} (hk : 0 ≤ (o 1).toInt ∧ (o 1).toInt ≤ 6) (hx : 0 ≤ x.toInt ∧ x.toInt ≤ 6) : v_X0_isOf o x = 0 ↔ ¬ (x = 0 ∨ x = o 1 ∨ (x = 1 ∧ o 1 = 6) ∨ (x = 2 ∧ o 1 = 3) ∨ (x = 4 ∧ o 1 = 5)) := by
  have e1 : Int32.ofNat x.toNatClampNeg = x := by rw [n_eq, n_of (by rw [n_tn]; omega), n_tn]; omega
  have e2 : Int32.ofNat (o 1).toNatClampNeg = o 1 := by rw [n_eq, n_of (by rw [n_tn]; omega), n_tn]; omega
  have h := isOf_all x.toNatClampNeg (by rw [n_tn]; omega) (o 1).toNatClampNeg (by rw [n_tn]; omega)
  rw [e1, e2] at h
  unfold v_X0_isOf
  rw [isOf_any, h]
  rw [n_eq (b := o 1), n_eq (b := 0), n_eq (b := 1), n_eq (b := 2), n_eq (b := 4), n_eq (b := 6), n_eq (b := 3), n_eq (b := 5), n_0, n_1, n_2, n_3, n_4, n_5, n_6, n_tn, n_tn]
  omega
theorem p_above (x : Int32) : p_X0_above x := by
  unfold p_X0_above
  split
  · trivial
  · split
    · rename_i h1 h2
      rw [n_lt, n_0] at h1
      rw [n_lt, n_7] at h2
      rw [vp_iff]
      omega
    · trivial
theorem p_isOf_loop (o : Nat → Int32) : ∀ (n : Nat) (a b c : Int32), 0 ≤ c.toInt → c.toInt ≤ 7 → 7 - c.toInt < n → p_X0_isOf_r o n a b c := by
  intro n
  induction n with
  | zero => intro a b c h1 h2 h3; exact absurd h3 (by omega)
  | succ n ih =>
    intro a b c h1 h2 h3
    rw [p_X0_isOf_r]
    by_cases q : (7 : Int32) ≤ c
    · rw [if_pos q]; trivial
    · rw [if_neg q]
      rw [n_le, n_7] at q
      have e : (c + 1).toInt = c.toInt + 1 := by rw [n_add (by rw [n_1]; omega) (by rw [n_1]; omega), n_1]
      split
      · trivial
      · exact ⟨p_above b, ih _ _ _ (by omega) (by omega) (by omega)⟩
theorem p_isOf (o : Nat → Int32) (x : Int32) : p_X0_isOf o x := p_isOf_loop o 200 x (o 1) 0 (by decide) (by decide) (by decide)
theorem seven {x : Int32} (h : 0 ≤ x.toInt ∧ x.toInt ≤ 6) : x = 0 ∨ x = 1 ∨ x = 2 ∨ x = 3 ∨ x = 4 ∨ x = 5 ∨ x = 6 := by
  rw [n_eq (b := 0), n_eq (b := 1), n_eq (b := 2), n_eq (b := 3), n_eq (b := 4), n_eq (b := 5), n_eq (b := 6), n_0, n_1, n_2, n_3, n_4, n_5, n_6]
  omega
section
variable {P : pT} {N : nT} {R Q : rT} {V : vT} {F : fT} {M : mT}
theorem op_says (h : RA P N R Q V F M) (x1 x2 : Int32) : p_X6_says P N R F x1 x2 ∧ p_X7_says M x1 x2 ∧ (v_X6_says P N R F x1 x2).1 = (v_X7_says M x1 x2).1 ∧ RA P (v_X6_says P N R F x1 x2).2 R Q V F (v_X7_says M x1 x2).2 := by
  have n1 : p_X7_no M (-1) := p_no (b := 1) (by decide) (by decide)
  have n2 : p_X7_no M (-2) := p_no (b := 2) (by decide) (by decide)
  have n3 : p_X7_no M (-3) := p_no (b := 3) (by decide) (by decide)
  have r1 := RA_refuse h (b := 1) (by decide) (by decide)
  have r2 := RA_refuse h (b := 2) (by decide) (by decide)
  have r3 := RA_refuse h (b := 3) (by decide) (by decide)
  have pa := p_shelfAt N x1
  unfold p_X6_says p_X7_says v_X6_says v_X7_says
  simp only [kk]
  rcases shelf_cases N M x1 with ⟨e1, e2⟩ | ⟨e1, e2, e3, e4⟩
  · simp +decide only [e1, e2, oc_none, if_true, if_false]
    exact ⟨⟨pa, p_refuse N 1⟩, n1, r1⟩
  simp +decide only [e1, e2, oc_some, if_true, if_false]
  by_cases c1 : x2 < 0
  · have w : v_X6_within x2 0 6 = 0 := by rw [within_iff]; rw [n_lt] at c1; omega
    simp +decide only [c1, w, if_true, if_false]
    exact ⟨⟨pa, p_refuse N 1⟩, n1, r1⟩
  by_cases c2' : ¬ x2 ≤ 6
  · have c2 := c2'
    have w : v_X6_within x2 0 6 = 0 := by rw [within_iff]; rw [n_le] at c2; omega
    simp +decide only [c1, c2, w, if_true, if_false]
    exact ⟨⟨pa, p_refuse N 1⟩, n1, r1⟩
  have c2 : x2 ≤ 6 := Decidable.not_not.mp c2'
  have w : ¬ v_X6_within x2 0 6 = 0 := by rw [within_iff]; rw [n_lt] at c1; rw [n_le] at c2; omega
  simp +decide only [c1, c2, w, if_true, if_false]
  have hx2 := wneg w
  rw [n_0, n_6] at hx2
  have hS := h.2.1 _ e3
  rcases hS with k0 | k1 | k2
  · have kk0 : v_X5_isRow (F x1.toNatClampNeg) = 0 := by unfold v_X5_isRow; rw [k0.2.1]; decide
    have ka : v_X4_at R ((F x1.toNatClampNeg).1 1) = none := by rw [k0.2.1]; exact at_out h.2.2.1 (fun q => absurd q.1 (by decide))
    rw [k0.1, kk0, ka]
    simp +decide only [oc_none, if_true, if_false]
    exact ⟨⟨pa, p_at h.2.2.1 _, p_refuse N 3⟩, ⟨e4, e4, n3⟩, r3⟩
  · have kk1 : ¬ v_X5_isRow (F x1.toNatClampNeg) = 0 := by
      unfold v_X5_isRow
      have a1 : ((F x1.toNatClampNeg).1 1).toInt = 100 + (M.2.1 17 x1.toNatClampNeg).toInt := by rw [k1.2.1, n_add (by rw [n_100]; have := k1.2.2.1; omega) (by rw [n_100]; have := k1.2.2.1; omega), n_100]
      rw [if_neg (by rw [n_lt, a1, n_100]; have := k1.2.2.1; omega)]
      decide
    rw [k1.1]
    simp +decide only [kk1, if_true, if_false]
    exact ⟨⟨pa, p_refuse N 2⟩, ⟨e4, n2⟩, r2⟩
  · obtain ⟨k21, k22, hc, k24⟩ := k2
    obtain ⟨q, b0, m, a0, a1, a2, a3, a4⟩ := at_in h.2.2.1 hc
    have sc := SC_of h.2.2.1 hc
    have v7 := h.2.2.1.vp hc
    have hk : 0 ≤ (P.2 q 1).toInt ∧ (P.2 q 1).toInt ≤ 6 := by rw [a1]; exact sc.2.2.2.1.1
    have kk2 : v_X5_isRow (F x1.toNatClampNeg) = 0 := by
      unfold v_X5_isRow
      have e7 := h.2.2.1.2.1.1
      have := hc.2
      rw [k22, if_pos (by rw [n_lt, n_100]; omega)]
    rw [k21, kk2, k22, b0]
    simp +decide only [oc_some, if_true, if_false]
    have io := isOf_iff (o := P.2 q) hk hx2
    rw [a1] at io
    have io' : v_X0_isOf (P.2 q) x2 = 0 ↔ ¬(x2 = 0 ∨ x2 = M.2.1 9 (M.2.1 19 x1.toNatClampNeg).toNatClampNeg ∨ x2 = 1 ∧ M.2.1 9 (M.2.1 19 x1.toNatClampNeg).toNatClampNeg = 6 ∨ x2 = 2 ∧ M.2.1 9 (M.2.1 19 x1.toNatClampNeg).toNatClampNeg = 3 ∨ x2 = 4 ∧ M.2.1 9 (M.2.1 19 x1.toNatClampNeg).toNatClampNeg = 5) := io
    have pis := p_isOf (P.2 q) x2
    have st := step_eq (M := M) (x := M.2.1 19 x1.toNatClampNeg) a1 a2
    have ps := p_mstep (M := M) v7
    have nv := nerve_in h.2.2.1 hc
    have pn := p_nerve h.2.2.1 (M.2.1 19 x1.toNatClampNeg)
    have a3' : P.2 q 3 = M.2.1 12 (M.2.1 19 x1.toNatClampNeg).toNatClampNeg := a3
    have a4' : P.2 q 4 = M.2.1 13 (M.2.1 19 x1.toNatClampNeg).toNatClampNeg := a4
    have nv' : v_X4_nerveOf R (M.2.1 19 x1.toNatClampNeg) = M.2.1 11 (M.2.1 19 x1.toNatClampNeg).toNatClampNeg := nv
    have pat := p_at h.2.2.1 (M.2.1 19 x1.toNatClampNeg)
    rw [st, a3', a4', nv']
    generalize M.2.1 9 (M.2.1 19 x1.toNatClampNeg).toNatClampNeg = K at io' ⊢
    rcases seven hx2 with c | c | c | c | c | c | c
    · subst c
      have z : ¬ v_X0_isOf (P.2 q) 0 = 0 := by rw [io']; exact fun q => q (Or.inl rfl)
      simp +decide only [z, if_true, if_false]
      exact ⟨⟨pa, pat, m, pis, pn⟩, ⟨e4, e4, e4, v7, v7⟩, by trivial, h⟩
    · subst c
      by_cases u1 : (1 : Int32) = K
      · have z : ¬ v_X0_isOf (P.2 q) 1 = 0 := by rw [io']; exact fun q => q (Or.inr (Or.inl u1))
        subst u1
        simp +decide only [z, if_true, if_false]
        exact ⟨⟨pa, pat, m, pis, m⟩, ⟨e4, e4, e4, v7, v7⟩, by trivial, h⟩
      · by_cases u2 : K = 6
        · have z : ¬ v_X0_isOf (P.2 q) 1 = 0 := by rw [io']; exact fun q => q (Or.inr (Or.inr (Or.inl ⟨rfl, u2⟩)))
          subst u2
          simp +decide only [z, if_true, if_false]
          exact ⟨⟨pa, pat, m, pis, m⟩, ⟨e4, e4, e4, v7, v7⟩, by trivial, h⟩
        · have z : v_X0_isOf (P.2 q) 1 = 0 := by rw [io']; rintro (e | e | e | e | e) <;> first | exact u1 e | exact u2 e.2 | exact absurd e (by decide) | exact absurd e.1 (by decide)
          simp +decide only [z, u1, u2, if_true, if_false]
          exact ⟨⟨pa, pat, m, pis, p_refuse N 2⟩, ⟨e4, e4, e4, v7, n2⟩, r2⟩
    · subst c
      by_cases u1 : (2 : Int32) = K
      · have z : ¬ v_X0_isOf (P.2 q) 2 = 0 := by rw [io']; exact fun q => q (Or.inr (Or.inl u1))
        subst u1
        simp +decide only [z, if_true, if_false]
        exact ⟨⟨pa, pat, m, pis, m⟩, ⟨e4, e4, e4, v7, v7⟩, by trivial, h⟩
      · by_cases u2 : K = 3
        · have z : ¬ v_X0_isOf (P.2 q) 2 = 0 := by rw [io']; exact fun q => q (Or.inr (Or.inr (Or.inr (Or.inl ⟨rfl, u2⟩))))
          subst u2
          simp +decide only [z, if_true, if_false]
          exact ⟨⟨pa, pat, m, pis, m⟩, ⟨e4, e4, e4, v7, v7⟩, by trivial, h⟩
        · have z : v_X0_isOf (P.2 q) 2 = 0 := by rw [io']; rintro (e | e | e | e | e) <;> first | exact u1 e | exact u2 e.2 | exact absurd e (by decide) | exact absurd e.1 (by decide)
          simp +decide only [z, u1, u2, if_true, if_false]
          exact ⟨⟨pa, pat, m, pis, p_refuse N 2⟩, ⟨e4, e4, e4, v7, n2⟩, r2⟩
    · subst c
      by_cases u1 : (3 : Int32) = K
      · have z : ¬ v_X0_isOf (P.2 q) 3 = 0 := by rw [io']; exact fun q => q (Or.inr (Or.inl u1))
        subst u1
        simp +decide only [z, if_true, if_false]
        exact ⟨⟨pa, pat, m, pis, m⟩, ⟨e4, e4, e4, v7, v7⟩, by trivial, h⟩
      · have z : v_X0_isOf (P.2 q) 3 = 0 := by rw [io']; rintro (e | e | e | e | e) <;> first | exact u1 e | exact absurd e (by decide) | exact absurd e.1 (by decide)
        simp +decide only [z, u1, if_true, if_false]
        exact ⟨⟨pa, pat, m, pis, p_refuse N 2⟩, ⟨e4, e4, e4, v7, n2⟩, r2⟩
    · subst c
      by_cases u1 : (4 : Int32) = K
      · have z : ¬ v_X0_isOf (P.2 q) 4 = 0 := by rw [io']; exact fun q => q (Or.inr (Or.inl u1))
        subst u1
        simp +decide only [z, if_true, if_false]
        exact ⟨⟨pa, pat, m, pis, m⟩, ⟨e4, e4, e4, v7, ps⟩, by trivial, h⟩
      · by_cases u2 : K = 5
        · have z : ¬ v_X0_isOf (P.2 q) 4 = 0 := by rw [io']; exact fun q => q (Or.inr (Or.inr (Or.inr (Or.inr ⟨rfl, u2⟩))))
          subst u2
          simp +decide only [z, if_true, if_false]
          exact ⟨⟨pa, pat, m, pis, m⟩, ⟨e4, e4, e4, v7, ps⟩, by trivial, h⟩
        · have z : v_X0_isOf (P.2 q) 4 = 0 := by rw [io']; rintro (e | e | e | e | e) <;> first | exact u1 e | exact u2 e.2 | exact absurd e (by decide) | exact absurd e.1 (by decide)
          simp +decide only [z, u1, u2, if_true, if_false]
          exact ⟨⟨pa, pat, m, pis, p_refuse N 2⟩, ⟨e4, e4, e4, v7, n2⟩, r2⟩
    · subst c
      by_cases u1 : (5 : Int32) = K
      · have z : ¬ v_X0_isOf (P.2 q) 5 = 0 := by rw [io']; exact fun q => q (Or.inr (Or.inl u1))
        subst u1
        simp +decide only [z, if_true, if_false]
        exact ⟨⟨pa, pat, m, pis, m⟩, ⟨e4, e4, e4, v7, ps⟩, by trivial, h⟩
      · have z : v_X0_isOf (P.2 q) 5 = 0 := by rw [io']; rintro (e | e | e | e | e) <;> first | exact u1 e | exact absurd e (by decide) | exact absurd e.1 (by decide)
        simp +decide only [z, u1, if_true, if_false]
        exact ⟨⟨pa, pat, m, pis, p_refuse N 2⟩, ⟨e4, e4, e4, v7, n2⟩, r2⟩
    · subst c
      by_cases u1 : (6 : Int32) = K
      · have z : ¬ v_X0_isOf (P.2 q) 6 = 0 := by rw [io']; exact fun q => q (Or.inr (Or.inl u1))
        subst u1
        simp +decide only [z, if_true, if_false]
        exact ⟨⟨pa, pat, m, pis, m⟩, ⟨e4, e4, e4, v7, v7⟩, by trivial, h⟩
      · have z : v_X0_isOf (P.2 q) 6 = 0 := by rw [io']; rintro (e | e | e | e | e) <;> first | exact u1 e | exact absurd e (by decide) | exact absurd e.1 (by decide)
        simp +decide only [z, u1, if_true, if_false]
        exact ⟨⟨pa, pat, m, pis, p_refuse N 2⟩, ⟨e4, e4, e4, v7, n2⟩, r2⟩
end
