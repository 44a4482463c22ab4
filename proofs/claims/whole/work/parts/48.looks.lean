/-! who slows, alone; looks, slow, brave -/
theorem isC_eq {E : Nat → Int32} {x : Int32} (h : isC E x) : Int32.ofNat x.toNatClampNeg = x := by
  rw [n_eq, n_of (by rw [n_tn]; have := i_b x; omega), n_tn]
  have := h.1
  omega
theorem isC_nat {P : pT} {R : rT} {D : Nat → Nat → Int32} {E : Nat → Int32} (h : RD P R D E) {c : Nat} (hc : (c : Int) < (E 0).toInt) : isC E (Int32.ofNat c) ∧ (Int32.ofNat c).toNatClampNeg = c := by
  have h7 := h.2.1.1.2
  unfold isC
  rw [n_tn, n_of (by omega)]
  exact ⟨⟨by omega, hc⟩, by omega⟩
theorem SC_of {P : pT} {R : rT} {M : mT} {x : Int32} (h : RR P R M) (hx : isC M.1 x) : SC P R M x := by
  obtain ⟨q, e, m, -, a1, a2, a3, a4⟩ := at_in h hx
  obtain ⟨-, ⟨-, -, b3⟩, b4⟩ := h.cm hx
  exact ⟨⟨q, e, m, a1, a2, a3, a4⟩, b3, h.1.2.1, b4, h.2.1.2.1, h.vp hx, p_at h x⟩
/-- the same with another nerve -/
abbrev mNv (M : mT) (x v : Int32) : mT := msa M 11 (upd (M.2.1 11) x.toNatClampNeg v)
theorem mNv_at {M : mT} {x v : Int32} : (mNv M x v).2.1 11 x.toNatClampNeg = v := upd_at
theorem SC_nerve {P : pT} {R : rT} {M : mT} {x v : Int32} (h : SC P R M x) (hv : 0 ≤ v.toInt ∧ v.toInt ≤ 30) : SC P R (mNv M x v) x := by
  obtain ⟨h1, h2, h3, ⟨o0, o1, o2, o3, o4, o5, o6⟩, h5, h6, h7⟩ := h
  refine ⟨h1, h2, h3, ⟨o0, o1, ?_, o3, o4, o5, o6⟩, h5, h6, h7⟩
  show 0 ≤ ((mNv M x v).2.1 11 x.toNatClampNeg).toInt ∧ ((mNv M x v).2.1 11 x.toNatClampNeg).toInt ≤ 30
  rw [mNv_at]
  exact hv
theorem nvOf_m1 (M : mT) : nvOf M (-1) = 0 := if_pos rfl
section
variable {P : pT} {R : rT} {M : mT} {x : Int32}
theorem alone_eq (h : SC P R M x) {f : Int32} (hf : 0 ≤ f.toInt ∧ f.toInt ≤ 9) : v_X4_slowAlone P R x f (M.2.1 11 x.toNatClampNeg) = v_X7_aloneIn M x f := by
  have e := slow_eq h (nb_m1 M) (nb_m1 M) hf (sn := 0) ⟨by decide, by decide⟩
  rw [nvOf_m1] at e
  exact e
theorem p_alonem (h : SC P R M x) {f : Int32} : p_X7_aloneIn M x f := p_slowm h (nb_m1 M) (nb_m1 M)
theorem p_alonex (h : SC P R M x) {f v : Int32} : p_X4_slowAlone P R x f v := p_slowx h
theorem fogs_loop (h : SC P R M x) : ∀ (n : Nat) (a f : Int32), 0 ≤ f.toInt → v_X4_fogsOf_r P R n x (M.2.1 11 x.toNatClampNeg) a f = v_X7_fogsOf_r M n x a f := by
  intro n
  induction n with
  | zero => intro a f _; rfl
  | succ n ih =>
    intro a f h0
    rw [v_X4_fogsOf_r, v_X7_fogsOf_r]
    by_cases c : (9 : Int32) < f
    · rw [if_pos c, if_pos c]
    · rw [if_neg c, if_neg c]
      rw [n_lt, n_9] at c
      rw [alone_eq h ⟨h0, by omega⟩]
      exact ih _ _ (by rw [n_add (by rw [n_1]; omega) (by rw [n_1]; omega), n_1]; omega)
theorem fogs_eq (h : SC P R M x) : v_X4_fogsOf P R x (M.2.1 11 x.toNatClampNeg) = v_X7_fogsOf M x := fogs_loop h 200 0 0 (by decide)
theorem p_fogsx_loop (h : SC P R M x) (v : Int32) : ∀ (n : Nat) (a f : Int32), 0 ≤ f.toInt → f.toInt ≤ 10 → 10 - f.toInt < n → p_X4_fogsOf_r P R n x v a f := by
  intro n
  induction n with
  | zero => intro a f h0 h1 h2; exact absurd h2 (by omega)
  | succ n ih =>
    intro a f h0 h1 h2
    rw [p_X4_fogsOf_r]
    by_cases c : (9 : Int32) < f
    · rw [if_pos c]; trivial
    · rw [if_neg c]
      rw [n_lt, n_9] at c
      have e : (f + 1).toInt = f.toInt + 1 := by rw [n_add (by rw [n_1]; omega) (by rw [n_1]; omega), n_1]
      exact ⟨p_alonex h, ih _ _ (by omega) (by omega) (by omega)⟩
theorem p_fogsm_loop (h : SC P R M x) : ∀ (n : Nat) (a f : Int32), 0 ≤ f.toInt → f.toInt ≤ 10 → 10 - f.toInt < n → p_X7_fogsOf_r M n x a f := by
  intro n
  induction n with
  | zero => intro a f h0 h1 h2; exact absurd h2 (by omega)
  | succ n ih =>
    intro a f h0 h1 h2
    rw [p_X7_fogsOf_r]
    by_cases c : (9 : Int32) < f
    · rw [if_pos c]; trivial
    · rw [if_neg c]
      rw [n_lt, n_9] at c
      have e : (f + 1).toInt = f.toInt + 1 := by rw [n_add (by rw [n_1]; omega) (by rw [n_1]; omega), n_1]
      exact ⟨p_alonem h, ih _ _ (by omega) (by omega) (by omega)⟩
theorem p_fogsx (h : SC P R M x) (v : Int32) : p_X4_fogsOf P R x v := p_fogsx_loop h v 200 0 0 (by decide) (by decide) (by decide)
theorem p_fogsm (h : SC P R M x) : p_X7_fogsOf M x := p_fogsm_loop h 200 0 0 (by decide) (by decide) (by decide)
/-- in how many fogs: 0 to 10 -/
theorem fogs_b_loop : ∀ (n : Nat) (a f : Int32), 0 ≤ f.toInt → f.toInt ≤ 10 → 0 ≤ a.toInt → a.toInt ≤ f.toInt → 0 ≤ (v_X7_fogsOf_r M n x a f).toInt ∧ (v_X7_fogsOf_r M n x a f).toInt ≤ 10 := by
  intro n
  induction n with
  | zero => intro a f h0 h1 h2 h3; exact (show 0 ≤ (0 : Int32).toInt ∧ (0 : Int32).toInt ≤ 10 by decide)
  | succ n ih =>
    intro a f h0 h1 h2 h3
    rw [v_X7_fogsOf_r]
    by_cases c : (9 : Int32) < f
    · rw [if_pos c]
      exact ⟨h2, by omega⟩
    · rw [if_neg c]
      rw [n_lt, n_9] at c
      have e : (f + 1).toInt = f.toInt + 1 := by rw [n_add (by rw [n_1]; omega) (by rw [n_1]; omega), n_1]
      have e2 : (a + 1).toInt = a.toInt + 1 := by rw [n_add (by rw [n_1]; omega) (by rw [n_1]; omega), n_1]
      refine ih _ _ (by omega) (by omega) ?_ ?_
      · split <;> omega
      · split <;> omega
theorem fogs_b : 0 ≤ (v_X7_fogsOf M x).toInt ∧ (v_X7_fogsOf M x).toInt ≤ 10 := fogs_b_loop 200 0 0 (by decide) (by decide) (by decide) (by decide)
/-! what is asked of one, without a change -/
theorem p_mlooks (h : SC P R M x) : p_X7_looksOf M x := by
  obtain ⟨-, -, -, hok, hw, hx, -⟩ := h
  have hp := hok.2.2.2.1.1
  refine ⟨hx, ?_⟩
  split
  · trivial
  · exact ⟨hx, hx, fun e => by have e' : (mD M 3 x.toNatClampNeg) = 0 := e; rw [e', n_0] at hp; omega⟩
theorem p_mstep (hx : vp_in x 7) : p_X7_step M x := by
  refine ⟨hx, ?_⟩
  repeat' split
  all_goals first | exact hx | trivial
theorem p_mburden (hx : vp_in x 7) (f : Int32) : p_X7_burden M x f := by
  unfold p_X7_burden p_X7_isBlind
  refine ⟨⟨hx, ?_⟩, ?_⟩
  · split
    · trivial
    · exact hx
  · split <;> exact hx
theorem courage_00 {o : Nat → Int32} {v : Int32} (hv : 0 ≤ v.toInt) : v_X0_courage o v 0 0 = v := by
  unfold v_X0_courage
  rw [if_neg (show ¬ v < 0 by rw [n_lt, n_0]; omega)]
  split
  · rfl
  · split
    · rw [show (0 : Int32) / 2 = 0 from by decide]; exact Int32.add_zero _
    · rfl
end
section
variable {P : pT} {N : nT} {R Q : rT} {V : vT} {F : fT} {M : mT}
theorem op_looks (h : RA P N R Q V F M) (x1 x2 : Int32) : p_X6_looks P N R x1 x2 ∧ p_X7_looks M x1 x2 ∧ (v_X6_looks P N R x1 x2).1 = (v_X7_looks M x1 x2).1 ∧ RA P (v_X6_looks P N R x1 x2).2 R Q V F (v_X7_looks M x1 x2).2 := by
  have n1 : p_X7_no M (-1) := p_no (b := 1) (by decide) (by decide)
  have n5 : p_X7_no M (-5) := p_no (b := 5) (by decide) (by decide)
  have r1 := RA_refuse h (b := 1) (by decide) (by decide)
  have r5 := RA_refuse h (b := 5) (by decide) (by decide)
  have pa := p_at h.2.2.1 x1
  unfold p_X6_looks p_X7_looks v_X6_looks v_X7_looks
  simp only [kk]
  by_cases hx : isC M.1 x1
  · obtain ⟨-, w2, w3⟩ := hasne h hx
    have sc := SC_of h.2.2.1 hx
    obtain ⟨q, e0, m, a0, a1, a2, a3, a4⟩ := at_in h.2.2.1 hx
    rw [e0]
    simp +decide only [w2, oc_some, if_true, if_false]
    by_cases c0 : x2 = 0
    · simp +decide only [c0, if_true, if_false]
      refine ⟨⟨pa, m, ?_⟩, p_mlooks sc, ?_, h⟩
      · unfold p_X0_looksOn
        split
        · trivial
        · split
          · intro e
            have e' : mD M 3 x1.toNatClampNeg = 0 := a3.symm.trans e
            have := sc.2.2.2.1.2.2.2.1.1
            rw [e', n_0] at this
            omega
          · trivial
      · exact looks_eq a1 a3 sc.2.2.2.1.2.2.2.1.1 h.2.2.1.1.2.1
    · by_cases c1 : x2 = 1
      · simp +decide only [c1, if_true, if_false]
        exact ⟨⟨pa, m⟩, p_mstep w3, step_eq a1 a2, h⟩
      · by_cases c2 : x2 = 2
        · simp +decide only [c2, if_true, if_false]
          rw [h.2.2.1.1.2.2.1]
          exact ⟨⟨pa, m⟩, p_mburden w3 _, burden_eq a1 a4, h⟩
        · by_cases c3 : x2 = 3
          · simp +decide only [c3, if_true, if_false]
            have b1 := (h.2.2.1.cm hx).2.1.1
            refine ⟨⟨pa, w3, m⟩, w3, ?_, h⟩
            rw [b1]
            exact courage_00 sc.2.2.2.1.2.2.1.1
          · simp +decide only [c0, c1, c2, c3, if_true, if_false]
            exact ⟨⟨pa, p_refuse N 5⟩, n5, r5⟩
  · obtain ⟨-, w2⟩ := has0 h hx
    rw [at_out h.2.2.1 hx]
    simp +decide only [w2, oc_none, if_true, if_false]
    exact ⟨⟨pa, p_refuse N 1⟩, n1, r1⟩
theorem p_noTen {M : mT} {b : Int32} (h1 : 1 ≤ b.toInt) (h2 : b.toInt ≤ 7) : p_X7_noTen M (-b) := by
  unfold p_X7_noTen
  rw [Int32.neg_neg]
  have : vp_in b 8 := by rw [vp_iff]; omega
  exact ⟨this, this⟩
theorem op_slow (h : RA P N R Q V F M) (x1 x2 : Int32) : p_X6_slow P N R x1 x2 ∧ p_X7_slow M x1 x2 ∧ (v_X6_slow P N R x1 x2).1 = (v_X7_slow M x1 x2).1 ∧ RA P (v_X6_slow P N R x1 x2).2 R Q V F (v_X7_slow M x1 x2).2 := by
  have n1 : p_X7_noTen M (-1) := p_noTen (b := 1) (by decide) (by decide)
  have n6 : p_X7_noTen M (-6) := p_noTen (b := 6) (by decide) (by decide)
  have r1 := RA_ten h (b := 1) (by decide) (by decide)
  have r6 := RA_ten h (b := 6) (by decide) (by decide)
  have pa := p_has h.2.2.1 x1
  unfold p_X6_slow p_X7_slow v_X6_slow v_X7_slow
  simp only [kk, from_eq]
  by_cases hx : isC M.1 x1
  · obtain ⟨w1, w2, w3⟩ := hasne h hx
    have sc := SC_of h.2.2.1 hx
    by_cases w : v_X6_within x2 0 9 = 0
    · simp +decide only [w1, w2, w, if_true, if_false]
      exact ⟨⟨pa, p_refuse N 6⟩, n6, r6⟩
    · simp +decide only [w1, w2, w, if_true, if_false]
      refine ⟨⟨pa, w3, p_alonex sc⟩, p_alonem sc, ?_, h⟩
      have b1 := (h.2.2.1.cm hx).2.1.1
      rw [b1]
      have hb := wneg w
      exact alone_eq sc hb
  · obtain ⟨w1, w2⟩ := has0 h hx
    simp +decide only [w1, w2, if_true, if_false]
    exact ⟨⟨pa, p_refuse N 1⟩, n1, r1⟩
end
