/-! the class's road and the reference's -/
/-- what is told of a comer, but his nerve, purse, doubt -/
def RQ (P : pT) (R : rT) (D : Nat → Nat → Int32) (c : Nat) : Prop := ∃ q, q ∈ P.1 ∧ R.2.2 c = some q ∧ (P.2 q 0 = Int32.ofNat c ∧ P.2 q 1 = D 0 c ∧ P.2 q 2 = D 1 c ∧ P.2 q 3 = D 3 c ∧ P.2 q 4 = D 4 c)
/-- what a comer may be -/
def OKc (D : Nat → Nat → Int32) (c : Nat) : Prop := (0 ≤ (D 0 c).toInt ∧ (D 0 c).toInt ≤ 6) ∧ (0 ≤ (D 1 c).toInt ∧ (D 1 c).toInt ≤ 9) ∧ (0 ≤ (D 2 c).toInt ∧ (D 2 c).toInt ≤ 30) ∧ (1 ≤ (D 3 c).toInt ∧ (D 3 c).toInt ≤ 9) ∧ (0 ≤ (D 4 c).toInt ∧ (D 4 c).toInt ≤ 9) ∧ (0 ≤ (D 5 c).toInt ∧ (D 5 c).toInt ≤ 999) ∧ (0 ≤ (D 6 c).toInt ∧ (D 6 c).toInt ≤ 30)
def OKe (E : Nat → Int32) : Prop := (0 ≤ (E 0).toInt ∧ (E 0).toInt ≤ 7) ∧ (1 ≤ (E 1).toInt ∧ (E 1).toInt ≤ 20) ∧ (0 ≤ (E 2).toInt ∧ (E 2).toInt ≤ 9) ∧ (1 ≤ (E 3).toInt ∧ (E 3).toInt ≤ 99) ∧ (1 ≤ (E 4).toInt ∧ (E 4).toInt ≤ 99)
def RD (P : pT) (R : rT) (D : Nat → Nat → Int32) (E : Nat → Int32) : Prop :=
  (R.1 4 = E 0 ∧ R.1 5 = E 1 ∧ R.1 6 = E 2 ∧ R.1 7 = E 3 ∧ R.1 8 = E 4 ∧ R.1 9 = E 5 ∧ R.1 10 = E 6) ∧ OKe E ∧ (∀ c : Nat, (c : Int) < (E 0).toInt → RQ P R D c ∧ (R.2.1 1 c = D 2 c ∧ R.2.1 2 c = D 5 c ∧ R.2.1 3 c = D 6 c) ∧ OKc D c) ∧ ∀ c, c < 7 → ∀ q, R.2.2 c = some q → q ∈ P.1
/-- the reference's comers and settings -/
abbrev mD (M : mT) : Nat → Nat → Int32 := fun j => M.2.1 (9 + j)
abbrev RR (P : pT) (R : rT) (M : mT) : Prop := RD P R (mD M) M.1
/-- a comer's number, asked -/
def isC (E : Nat → Int32) (x : Int32) : Prop := 0 ≤ x.toInt ∧ x.toInt < (E 0).toInt
theorem isC_of {E : Nat → Int32} {x : Int32} (h1 : ¬ x < 0) (h2 : ¬ E 0 ≤ x) : isC E x := by
  rw [n_lt, n_0] at h1
  rw [n_le] at h2
  exact ⟨by omega, by omega⟩
section
variable {P : pT} {R : rT} {D : Nat → Nat → Int32} {E : Nat → Int32} {M : mT} {x : Int32}
theorem RD.vp (h : RD P R D E) (hx : isC E x) : vp_in x 7 := by
  obtain ⟨h1, h2⟩ := hx
  have := h.2.1.1
  rw [vp_iff]
  omega
theorem RD.cm (h : RD P R D E) (hx : isC E x) : RQ P R D x.toNatClampNeg ∧ (R.2.1 1 x.toNatClampNeg = D 2 x.toNatClampNeg ∧ R.2.1 2 x.toNatClampNeg = D 5 x.toNatClampNeg ∧ R.2.1 3 x.toNatClampNeg = D 6 x.toNatClampNeg) ∧ OKc D x.toNatClampNeg := h.2.2.1 _ (by rw [n_tn]; have := hx.1; have := hx.2; omega)
theorem at_in (h : RD P R D E) (hx : isC E x) : ∃ q, v_X4_at R x = some q ∧ q ∈ P.1 ∧ (P.2 q 0 = Int32.ofNat x.toNatClampNeg ∧ P.2 q 1 = D 0 x.toNatClampNeg ∧ P.2 q 2 = D 1 x.toNatClampNeg ∧ P.2 q 3 = D 3 x.toNatClampNeg ∧ P.2 q 4 = D 4 x.toNatClampNeg) := by
  obtain ⟨q, h1, h2, h3⟩ := (h.cm hx).1
  refine ⟨q, ?_, h1, h3⟩
  have h7 := h.2.1.1
  have hx1 := hx.1; have hx2 := hx.2
  unfold v_X4_at
  rw [if_neg (by rw [n_lt, n_0]; omega), if_neg (by rw [h.1.1, n_le]; omega), if_pos (by rw [n_lt, n_7]; omega)]
  exact h2
theorem at_out (h : RD P R D E) (hx : ¬ isC E x) : v_X4_at R x = none := by
  unfold v_X4_at
  by_cases h1 : x < 0
  · rw [if_pos h1]
  · by_cases h2 : R.1 4 ≤ x
    · rw [if_neg h1, if_pos h2]
    · rw [h.1.1] at h2
      exact absurd (isC_of h1 h2) hx
theorem p_at (h : RD P R D E) (x : Int32) : p_X4_at R x := by
  unfold p_X4_at
  have h7 := h.2.1.1
  by_cases h1 : x < 0
  · rw [if_pos h1]; trivial
  · by_cases h2 : R.1 4 ≤ x
    · rw [if_neg h1, if_pos h2]; trivial
    · rw [if_neg h1, if_neg h2]
      split
      · rw [h.1.1] at h2
        exact h.vp (isC_of h1 h2)
      · trivial
theorem has_in (h : RD P R D E) (hx : isC E x) : v_X4_has R x = 1 := by
  obtain ⟨q, h1, -⟩ := at_in h hx
  unfold v_X4_has
  rw [h1]
  rfl
theorem has_out (h : RD P R D E) (hx : ¬ isC E x) : v_X4_has R x = 0 := by
  unfold v_X4_has
  rw [at_out h hx]
  rfl
theorem has_iff (h : RD P R D E) : v_X4_has R x = 0 ↔ ¬ isC E x := by
  constructor
  · intro h1 h2
    rw [has_in h h2] at h1
    exact absurd h1 (by decide)
  · exact has_out h
theorem mcomer_iff : v_X7_isComer M x = 0 ↔ ¬ isC M.1 x := by
  unfold v_X7_isComer
  by_cases h1 : x < 0
  · rw [if_pos h1]
    refine ⟨fun _ h => ?_, fun _ => rfl⟩
    rw [n_lt, n_0] at h1
    have := h.1
    omega
  · rw [if_neg h1]
    by_cases h2 : M.1 0 ≤ x
    · rw [if_pos h2]
      refine ⟨fun _ h => ?_, fun _ => rfl⟩
      rw [n_le] at h2
      have := h.2
      omega
    · rw [if_neg h2]
      exact ⟨fun h => absurd h (by decide), fun h => absurd (isC_of h1 h2) h⟩
theorem p_has (h : RD P R D E) (x : Int32) : p_X4_has R x := p_at h x
theorem nerve_in (h : RD P R D E) (hx : isC E x) : v_X4_nerveOf R x = D 2 x.toNatClampNeg := by
  unfold v_X4_nerveOf
  rw [has_in h hx, if_neg (by decide)]
  exact (h.cm hx).2.1.1
theorem nerve_out (h : RD P R D E) (hx : ¬ isC E x) : v_X4_nerveOf R x = 0 := by
  unfold v_X4_nerveOf
  rw [has_out h hx, if_pos rfl]
theorem p_nerve (h : RD P R D E) (x : Int32) : p_X4_nerveOf R x := by
  refine ⟨p_has h x, ?_⟩
  by_cases hx : isC E x
  · rw [has_in h hx, if_neg (by decide)]
    exact h.vp hx
  · rw [has_out h hx, if_pos rfl]
    trivial
/-! steps, looks, burdens -/
theorem step_eq {o : Nat → Int32} (h1 : o 1 = mD M 0 x.toNatClampNeg) (h2 : o 2 = mD M 1 x.toNatClampNeg) : v_X0_step o = v_X7_step M x := by
  unfold v_X0_step v_X7_step
  rw [h1, h2]
theorem looks_eq {o : Nat → Int32} {w : Int32} (h1 : o 1 = mD M 0 x.toNatClampNeg) (h3 : o 3 = mD M 3 x.toNatClampNeg) (hp : 1 ≤ (mD M 3 x.toNatClampNeg).toInt) (hw : w = M.1 1) : v_X0_looksOn o w = v_X7_looksOf M x := by
  unfold v_X0_looksOn v_X7_looksOf
  rw [h1, h3, hw]
  have e : (1 : Int32) ≤ mD M 3 x.toNatClampNeg := by rw [n_le, n_1]; exact hp
  rw [if_pos e]
theorem burden_eq {o : Nat → Int32} {f : Int32} (h1 : o 1 = mD M 0 x.toNatClampNeg) (h4 : o 4 = mD M 4 x.toNatClampNeg) : v_X0_burden o f = v_X7_burden M x f := by
  unfold v_X0_burden v_X7_burden v_X7_isBlind
  rw [h1, h4]
  by_cases k1 : mD M 0 x.toNatClampNeg = 1
  · rw [if_pos k1, if_pos k1, if_neg (by decide)]
  · by_cases k6 : mD M 0 x.toNatClampNeg = 6
    · rw [if_neg k1, if_pos k6, if_neg k1, if_pos k6, if_neg (by decide)]
    · rw [if_neg k1, if_neg k6, if_neg k1, if_neg k6, if_pos rfl]
/-- the nerve of one just there, 0 of nobody -/
def nvOf (M : mT) (y : Int32) : Int32 := if y = -1 then 0 else M.2.1 11 y.toNatClampNeg
theorem courage_eq {o : Nat → Int32} {y z : Int32} (h1 : o 1 = mD M 0 x.toNatClampNeg) (h0 : 0 ≤ (M.2.1 11 x.toNatClampNeg).toInt) : v_X0_courage o (M.2.1 11 x.toNatClampNeg) (nvOf M y) (nvOf M z) = v_X7_courage M x y z := by
  have key : (if M.2.1 11 x.toNatClampNeg < nvOf M y then nvOf M y else M.2.1 11 x.toNatClampNeg) = (if y = (-1) then (M.2.1 11) x.toNatClampNeg else (if ((M.2.1 11) y.toNatClampNeg) ≤ ((M.2.1 11) x.toNatClampNeg) then (M.2.1 11) x.toNatClampNeg else (M.2.1 11) y.toNatClampNeg)) := by
    unfold nvOf
    by_cases hy : y = -1
    · rw [if_pos hy, if_pos hy, if_neg (by rw [n_lt, n_0]; omega)]
    · rw [if_neg hy, if_neg hy]
      by_cases hl : M.2.1 11 x.toNatClampNeg < M.2.1 11 y.toNatClampNeg
      · rw [if_pos hl, if_neg (by rw [n_le]; rw [n_lt] at hl; omega)]
      · rw [if_neg hl, if_pos (by rw [n_le]; rw [n_lt] at hl; omega)]
  have h9 : o 1 = M.2.1 9 x.toNatClampNeg := h1
  unfold v_X0_courage v_X7_courage kk
  rw [h9, key]
  dsimp only
  by_cases k2 : M.2.1 9 x.toNatClampNeg = 2
  · have k3 : ¬ M.2.1 9 x.toNatClampNeg = 3 := by rw [k2]; decide
    rw [if_pos k2, if_pos k2, if_neg k3]
  · by_cases k3 : M.2.1 9 x.toNatClampNeg = 3
    · rw [if_neg k2, if_pos k3, if_neg k2, if_pos k3, if_pos k3]
      by_cases hz : z = -1
      · rw [if_pos hz]
        unfold nvOf
        rw [if_pos hz]
        rw [show (0 : Int32) / 2 = 0 from by decide]
        exact Int32.add_zero _
      · rw [if_neg hz]
        unfold nvOf
        rw [if_neg hz]
    · rw [if_neg k2, if_neg k3, if_neg k2, if_neg k3]
end
