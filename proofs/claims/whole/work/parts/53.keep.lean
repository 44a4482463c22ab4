/-! all that a road is, kept and brought back -/
theorem kk_def {α : Sort _} {β : Sort _} (e : α) (f : α → β) : kk e f = f e := Eq.trans rfl rfl
theorem tn_of {k : Nat} (h : k < 2147483648) : (Int32.ofNat k).toNatClampNeg = k := by rw [n_tn, n_of h]; omega
theorem nat_add {a b : Nat} (h : a + b < 1000) : Int32.ofNat a + Int32.ofNat b = Int32.ofNat (a + b) := by
  rw [n_eq, n_add (by rw [n_of (by omega), n_of (by omega)]; omega) (by rw [n_of (by omega), n_of (by omega)]; omega), n_of (by omega), n_of (by omega), n_of (by omega)]
  omega
theorem nat_in {c m : Nat} (h : c < m) (h2 : c < 1000) : vp_in (Int32.ofNat c) m := by rw [vp_iff, n_of (by omega)]; omega
theorem msa_at {M : mT} {j : Nat} {f : Nat → Int32} : (msa M j f).2.1 j = f := up_at
theorem msa_ne {M : mT} {j k : Nat} {f : Nat → Int32} (h : k ≠ j) : (msa M j f).2.1 k = M.2.1 k := up_ne h
theorem carry0 {j1 j2 : Nat} (h1 : mO7 j1) (h2 : mO60 j2) {f : Nat} (hf : f ≤ 49) : ∀ (n c : Nat) (M : mT), c ≤ 7 → 7 - c < n → p_X7_carries_r j1 j2 n M (Int32.ofNat f) 0 (Int32.ofNat c) ∧ (v_X7_carries_r j1 j2 n M (Int32.ofNat f) 0 (Int32.ofNat c)).1 = Int32.ofNat (f + 7) ∧ (v_X7_carries_r j1 j2 n M (Int32.ofNat f) 0 (Int32.ofNat c)).2.1 = M.1 ∧ (v_X7_carries_r j1 j2 n M (Int32.ofNat f) 0 (Int32.ofNat c)).2.2.2 = M.2.2 ∧ (∀ j, j ≠ j2 → (v_X7_carries_r j1 j2 n M (Int32.ofNat f) 0 (Int32.ofNat c)).2.2.1 j = M.2.1 j) ∧ ∀ i, (v_X7_carries_r j1 j2 n M (Int32.ofNat f) 0 (Int32.ofNat c)).2.2.1 j2 i = if f + c ≤ i ∧ i < f + 7 then M.2.1 j1 (i - f) else M.2.1 j2 i := by
  have h12 : j1 ≠ j2 := by
    unfold mO7 at h1; unfold mO60 at h2; omega
  intro n
  induction n with
  | zero => intro c M a b; omega
  | succ n ih =>
    intro c M a b
    rw [p_X7_carries_r, v_X7_carries_r]
    by_cases q : c = 7
    · have w : (7 : Int32) ≤ Int32.ofNat c := by rw [q]; decide
      rw [if_pos w, if_pos w]
      refine ⟨trivial, nat_add (b := 7) (by omega), rfl, rfl, fun _ _ => rfl, fun i => ?_⟩
      rw [if_neg (by omega)]
    · have w : ¬ (7 : Int32) ≤ Int32.ofNat c := by rw [show (7 : Int32) = Int32.ofNat 7 from rfl, nat_le (by omega) (by omega)]; omega
      rw [if_neg w, if_neg w]
      simp only [if_pos n00, kk, if_true]
      rw [nat_add (by omega), nat1 (by omega), tn_of (k := f + c) (by omega), tn_of (k := c) (by omega)]
      obtain ⟨i1, i2, i3, i4, i5, i6⟩ := ih (c + 1) (msa M j2 (upd (M.2.1 j2) (f + c) (M.2.1 j1 c))) (by omega) (by omega)
      refine ⟨⟨⟨h1, nat_in (by omega) (by omega), h2, nat_in (by omega) (by omega)⟩, i1⟩, i2, i3, i4, fun j hj => ?_, fun i => ?_⟩
      · rw [i5 j hj, msa_ne hj]
      · rw [i6 i, msa_at, msa_ne h12]
        by_cases c1 : f + (c + 1) ≤ i ∧ i < f + 7
        · rw [if_pos c1, if_pos ⟨by omega, c1.2⟩]
        · rw [if_neg c1]
          by_cases c2 : i = f + c
          · rw [c2, upd_at, if_pos ⟨by omega, by omega⟩]
            exact congrArg (M.2.1 j1) (by omega)
          · rw [upd_ne c2, if_neg (by omega)]
theorem carry1 {j1 j2 : Nat} (h1 : mO7 j1) (h2 : mO60 j2) {f : Nat} (hf : f ≤ 49) : ∀ (n c : Nat) (M : mT), c ≤ 7 → 7 - c < n → p_X7_carries_r j1 j2 n M (Int32.ofNat f) 1 (Int32.ofNat c) ∧ (v_X7_carries_r j1 j2 n M (Int32.ofNat f) 1 (Int32.ofNat c)).1 = Int32.ofNat (f + 7) ∧ (v_X7_carries_r j1 j2 n M (Int32.ofNat f) 1 (Int32.ofNat c)).2.1 = M.1 ∧ (v_X7_carries_r j1 j2 n M (Int32.ofNat f) 1 (Int32.ofNat c)).2.2.2 = M.2.2 ∧ (∀ j, j ≠ j1 → (v_X7_carries_r j1 j2 n M (Int32.ofNat f) 1 (Int32.ofNat c)).2.2.1 j = M.2.1 j) ∧ ∀ i, (v_X7_carries_r j1 j2 n M (Int32.ofNat f) 1 (Int32.ofNat c)).2.2.1 j1 i = if c ≤ i ∧ i < 7 then M.2.1 j2 (f + i) else M.2.1 j1 i := by
  have h12 : j2 ≠ j1 := by
    unfold mO7 at h1; unfold mO60 at h2; omega
  intro n
  induction n with
  | zero => intro c M a b; omega
  | succ n ih =>
    intro c M a b
    rw [p_X7_carries_r, v_X7_carries_r]
    by_cases q : c = 7
    · have w : (7 : Int32) ≤ Int32.ofNat c := by rw [q]; decide
      rw [if_pos w, if_pos w]
      refine ⟨trivial, nat_add (b := 7) (by omega), rfl, rfl, fun _ _ => rfl, fun i => ?_⟩
      rw [if_neg (by omega)]
    · have w : ¬ (7 : Int32) ≤ Int32.ofNat c := by rw [show (7 : Int32) = Int32.ofNat 7 from rfl, nat_le (by omega) (by omega)]; omega
      rw [if_neg w, if_neg w]
      simp only [if_neg n10, n10f, kk, if_false]
      rw [nat_add (by omega), nat1 (by omega), tn_of (k := f + c) (by omega), tn_of (k := c) (by omega)]
      obtain ⟨i1, i2, i3, i4, i5, i6⟩ := ih (c + 1) (msa M j1 (upd (M.2.1 j1) c (M.2.1 j2 (f + c)))) (by omega) (by omega)
      refine ⟨⟨⟨h2, nat_in (by omega) (by omega), h1, nat_in (by omega) (by omega)⟩, i1⟩, i2, i3, i4, fun j hj => ?_, fun i => ?_⟩
      · rw [i5 j hj, msa_ne hj]
      · rw [i6 i, msa_at, msa_ne h12]
        by_cases c1 : c + 1 ≤ i ∧ i < 7
        · rw [if_pos c1, if_pos ⟨by omega, c1.2⟩]
        · rw [if_neg c1]
          by_cases c2 : i = c
          · rw [c2, upd_at, if_pos ⟨by omega, by omega⟩]
          · rw [upd_ne c2, if_neg (by omega)]
theorem carry0' {j1 j2 : Nat} (h1 : mO7 j1) (h2 : mO60 j2) {f : Nat} (hf : f ≤ 49) (M : mT) : ∃ M', v_X7_carries M j1 j2 (Int32.ofNat f) 0 = (Int32.ofNat (f + 7), M') ∧ p_X7_carries M j1 j2 (Int32.ofNat f) 0 ∧ M'.1 = M.1 ∧ M'.2.2 = M.2.2 ∧ (∀ j, j ≠ j2 → M'.2.1 j = M.2.1 j) ∧ ∀ i, M'.2.1 j2 i = if f ≤ i ∧ i < f + 7 then M.2.1 j1 (i - f) else M.2.1 j2 i := by
  obtain ⟨i1, i2, i3, i4, i5, i6⟩ := carry0 h1 h2 hf 200 0 M (by omega) (by omega)
  exact ⟨_, Prod.ext i2 rfl, i1, i3, i4, i5, i6⟩
theorem carry1' {j1 j2 : Nat} (h1 : mO7 j1) (h2 : mO60 j2) {f : Nat} (hf : f ≤ 49) (M : mT) : ∃ M', v_X7_carries M j1 j2 (Int32.ofNat f) 1 = (Int32.ofNat (f + 7), M') ∧ p_X7_carries M j1 j2 (Int32.ofNat f) 1 ∧ M'.1 = M.1 ∧ M'.2.2 = M.2.2 ∧ (∀ j, j ≠ j1 → M'.2.1 j = M.2.1 j) ∧ ∀ i, M'.2.1 j1 i = if i < 7 then M.2.1 j2 (f + i) else M.2.1 j1 i := by
  obtain ⟨i1, i2, i3, i4, i5, i6⟩ := carry1 h1 h2 hf 200 0 M (by omega) (by omega)
  refine ⟨_, Prod.ext i2 rfl, i1, i3, i4, i5, fun i => ?_⟩
  rw [show (if i < 7 then M.2.1 j2 (f + i) else M.2.1 j1 i) = if 0 ≤ i ∧ i < 7 then M.2.1 j2 (f + i) else M.2.1 j1 i from by simp only [Nat.zero_le, true_and]]
  exact i6 i
/-- all is carried away -/
theorem all0 {j2 : Nat} (h2 : mO60 j2) (M : mT) : p_X7_all M j2 0 ∧ (v_X7_all M j2 0).1 = M.1 ∧ (v_X7_all M j2 0).2.2 = M.2.2 ∧ (∀ j, j ≠ j2 → (v_X7_all M j2 0).2.1 j = M.2.1 j) ∧ (∀ j c, j < 7 → c < 7 → (v_X7_all M j2 0).2.1 j2 (7 * j + c) = M.2.1 (9 + j) c) ∧ ∀ i, i < 7 → (v_X7_all M j2 0).2.1 j2 (49 + i) = M.1 i := by
  have hj2 : 31 ≤ j2 := by unfold mO60 at h2; omega
  obtain ⟨M1, e1, p1, a1, b1, c1, d1⟩ := carry0' (j1 := 9) (by unfold mO7; omega) h2 (f := 0) (by omega) M
  obtain ⟨M2, e2, p2, a2, b2, c2, d2⟩ := carry0' (j1 := 10) (by unfold mO7; omega) h2 (f := 0 + 7) (by omega) M1
  obtain ⟨M3, e3, p3, a3, b3, c3, d3⟩ := carry0' (j1 := 11) (by unfold mO7; omega) h2 (f := 0 + 7 + 7) (by omega) M2
  obtain ⟨M4, e4, p4, a4, b4, c4, d4⟩ := carry0' (j1 := 12) (by unfold mO7; omega) h2 (f := 0 + 7 + 7 + 7) (by omega) M3
  obtain ⟨M5, e5, p5, a5, b5, c5, d5⟩ := carry0' (j1 := 13) (by unfold mO7; omega) h2 (f := 0 + 7 + 7 + 7 + 7) (by omega) M4
  obtain ⟨M6, e6, p6, a6, b6, c6, d6⟩ := carry0' (j1 := 14) (by unfold mO7; omega) h2 (f := 0 + 7 + 7 + 7 + 7 + 7) (by omega) M5
  obtain ⟨M7, e7, p7, a7, b7, c7, d7⟩ := carry0' (j1 := 15) (by unfold mO7; omega) h2 (f := 0 + 7 + 7 + 7 + 7 + 7 + 7) (by omega) M6
  have e1' : v_X7_carries M 9 j2 0 0 = (Int32.ofNat (0 + 7), M1) := e1
  have p1' : p_X7_carries M 9 j2 0 0 := p1
  have hp : p_X7_all M j2 0 := by
    unfold p_X7_all
    rw [e1', kk_def]
    dsimp only
    rw [e2, kk_def]
    dsimp only
    rw [e3, kk_def]
    dsimp only
    rw [e4, kk_def]
    dsimp only
    rw [e5, kk_def]
    dsimp only
    rw [e6, kk_def]
    dsimp only
    rw [e7, kk_def]
    dsimp only
    rw [if_pos n00]
    exact ⟨p1', p2, p3, p4, p5, p6, p7, h2, vin rfl, h2, vin rfl, h2, vin rfl, h2, vin rfl, h2, vin rfl, h2, vin rfl, h2, vin rfl⟩
  generalize hX : v_X7_all M j2 0 = X
  unfold v_X7_all at hX
  rw [e1', kk_def] at hX
  dsimp only at hX
  rw [e2, kk_def] at hX
  dsimp only at hX
  rw [e3, kk_def] at hX
  dsimp only at hX
  rw [e4, kk_def] at hX
  dsimp only at hX
  rw [e5, kk_def] at hX
  dsimp only at hX
  rw [e6, kk_def] at hX
  dsimp only at hX
  rw [e7, kk_def] at hX
  dsimp only at hX
  rw [if_pos n00, kk_def] at hX
  rw [show (Int32.ofNat (0 + 7 + 7 + 7 + 7 + 7 + 7 + 7)).toNatClampNeg = 49 from rfl, show (Int32.ofNat (0 + 7 + 7 + 7 + 7 + 7 + 7 + 7) + 1).toNatClampNeg = 50 from rfl, show (Int32.ofNat (0 + 7 + 7 + 7 + 7 + 7 + 7 + 7) + 2).toNatClampNeg = 51 from rfl, show (Int32.ofNat (0 + 7 + 7 + 7 + 7 + 7 + 7 + 7) + 3).toNatClampNeg = 52 from rfl, show (Int32.ofNat (0 + 7 + 7 + 7 + 7 + 7 + 7 + 7) + 4).toNatClampNeg = 53 from rfl, show (Int32.ofNat (0 + 7 + 7 + 7 + 7 + 7 + 7 + 7) + 5).toNatClampNeg = 54 from rfl, show (Int32.ofNat (0 + 7 + 7 + 7 + 7 + 7 + 7 + 7) + 6).toNatClampNeg = 55 from rfl] at hX
  subst hX
  refine ⟨hp, ?_, ?_, fun j hj => ?_, fun j c hj hc => ?_, fun i hi => ?_⟩
  · show M7.1 = M.1
    rw [a7, a6, a5, a4, a3, a2, a1]
  · show M7.2.2 = M.2.2
    rw [b7, b6, b5, b4, b3, b2, b1]
  · rw [msa_ne hj, msa_ne hj, msa_ne hj, msa_ne hj, msa_ne hj, msa_ne hj, msa_ne hj, c7 j hj, c6 j hj, c5 j hj, c4 j hj, c3 j hj, c2 j hj, c1 j hj]
  · rw [msa_at, upd_ne (by omega), upd_ne (by omega), upd_ne (by omega), upd_ne (by omega), upd_ne (by omega), upd_ne (by omega), upd_ne (by omega)]
    rcases (show j = 0 ∨ j = 1 ∨ j = 2 ∨ j = 3 ∨ j = 4 ∨ j = 5 ∨ j = 6 by omega) with q | q | q | q | q | q | q <;> subst q
    · rw [d7, if_neg (by omega), d6, if_neg (by omega), d5, if_neg (by omega), d4, if_neg (by omega), d3, if_neg (by omega), d2, if_neg (by omega), d1, if_pos (by omega)]
      exact congrArg (M.2.1 9) (by omega)
    · rw [d7, if_neg (by omega), d6, if_neg (by omega), d5, if_neg (by omega), d4, if_neg (by omega), d3, if_neg (by omega), d2, if_pos (by omega), c1 10 (by omega)]
      exact congrArg (M.2.1 10) (by omega)
    · rw [d7, if_neg (by omega), d6, if_neg (by omega), d5, if_neg (by omega), d4, if_neg (by omega), d3, if_pos (by omega), c2 11 (by omega), c1 11 (by omega)]
      exact congrArg (M.2.1 11) (by omega)
    · rw [d7, if_neg (by omega), d6, if_neg (by omega), d5, if_neg (by omega), d4, if_pos (by omega), c3 12 (by omega), c2 12 (by omega), c1 12 (by omega)]
      exact congrArg (M.2.1 12) (by omega)
    · rw [d7, if_neg (by omega), d6, if_neg (by omega), d5, if_pos (by omega), c4 13 (by omega), c3 13 (by omega), c2 13 (by omega), c1 13 (by omega)]
      exact congrArg (M.2.1 13) (by omega)
    · rw [d7, if_neg (by omega), d6, if_pos (by omega), c5 14 (by omega), c4 14 (by omega), c3 14 (by omega), c2 14 (by omega), c1 14 (by omega)]
      exact congrArg (M.2.1 14) (by omega)
    · rw [d7, if_pos (by omega), c6 15 (by omega), c5 15 (by omega), c4 15 (by omega), c3 15 (by omega), c2 15 (by omega), c1 15 (by omega)]
      exact congrArg (M.2.1 15) (by omega)
  · rw [msa_at]
    have ha : M7.1 = M.1 := by rw [a7, a6, a5, a4, a3, a2, a1]
    rw [ha]
    rcases (show i = 0 ∨ i = 1 ∨ i = 2 ∨ i = 3 ∨ i = 4 ∨ i = 5 ∨ i = 6 by omega) with q | q | q | q | q | q | q <;> subst q <;> rfl
/-- all is brought back -/
theorem all1 {j2 : Nat} (h2 : mO60 j2) (M : mT) : p_X7_all M j2 1 ∧ (∀ i, 7 ≤ i → (v_X7_all M j2 1).1 i = M.1 i) ∧ (v_X7_all M j2 1).2.2 = M.2.2 ∧ (∀ j, ¬ (9 ≤ j ∧ j ≤ 15) → (v_X7_all M j2 1).2.1 j = M.2.1 j) ∧ (∀ j c, j < 7 → c < 7 → (v_X7_all M j2 1).2.1 (9 + j) c = M.2.1 j2 (7 * j + c)) ∧ ∀ i, i < 7 → (v_X7_all M j2 1).1 i = M.2.1 j2 (49 + i) := by
  have hj2 : 31 ≤ j2 := by unfold mO60 at h2; omega
  obtain ⟨M1, e1, p1, a1, b1, c1, d1⟩ := carry1' (j1 := 9) (by unfold mO7; omega) h2 (f := 0) (by omega) M
  obtain ⟨M2, e2, p2, a2, b2, c2, d2⟩ := carry1' (j1 := 10) (by unfold mO7; omega) h2 (f := 0 + 7) (by omega) M1
  obtain ⟨M3, e3, p3, a3, b3, c3, d3⟩ := carry1' (j1 := 11) (by unfold mO7; omega) h2 (f := 0 + 7 + 7) (by omega) M2
  obtain ⟨M4, e4, p4, a4, b4, c4, d4⟩ := carry1' (j1 := 12) (by unfold mO7; omega) h2 (f := 0 + 7 + 7 + 7) (by omega) M3
  obtain ⟨M5, e5, p5, a5, b5, c5, d5⟩ := carry1' (j1 := 13) (by unfold mO7; omega) h2 (f := 0 + 7 + 7 + 7 + 7) (by omega) M4
  obtain ⟨M6, e6, p6, a6, b6, c6, d6⟩ := carry1' (j1 := 14) (by unfold mO7; omega) h2 (f := 0 + 7 + 7 + 7 + 7 + 7) (by omega) M5
  obtain ⟨M7, e7, p7, a7, b7, c7, d7⟩ := carry1' (j1 := 15) (by unfold mO7; omega) h2 (f := 0 + 7 + 7 + 7 + 7 + 7 + 7) (by omega) M6
  have e1' : v_X7_carries M 9 j2 0 1 = (Int32.ofNat (0 + 7), M1) := e1
  have p1' : p_X7_carries M 9 j2 0 1 := p1
  have hp : p_X7_all M j2 1 := by
    unfold p_X7_all
    rw [e1', kk_def]
    dsimp only
    rw [e2, kk_def]
    dsimp only
    rw [e3, kk_def]
    dsimp only
    rw [e4, kk_def]
    dsimp only
    rw [e5, kk_def]
    dsimp only
    rw [e6, kk_def]
    dsimp only
    rw [e7, kk_def]
    dsimp only
    rw [if_neg n10]
    exact ⟨p1', p2, p3, p4, p5, p6, p7, h2, vin rfl, h2, vin rfl, h2, vin rfl, h2, vin rfl, h2, vin rfl, h2, vin rfl, h2, vin rfl⟩
  generalize hX : v_X7_all M j2 1 = X
  unfold v_X7_all at hX
  rw [e1', kk_def] at hX
  dsimp only at hX
  rw [e2, kk_def] at hX
  dsimp only at hX
  rw [e3, kk_def] at hX
  dsimp only at hX
  rw [e4, kk_def] at hX
  dsimp only at hX
  rw [e5, kk_def] at hX
  dsimp only at hX
  rw [e6, kk_def] at hX
  dsimp only at hX
  rw [e7, kk_def] at hX
  dsimp only at hX
  rw [if_neg n10, kk_def] at hX
  rw [show (Int32.ofNat (0 + 7 + 7 + 7 + 7 + 7 + 7 + 7)).toNatClampNeg = 49 from rfl, show (Int32.ofNat (0 + 7 + 7 + 7 + 7 + 7 + 7 + 7) + 1).toNatClampNeg = 50 from rfl, show (Int32.ofNat (0 + 7 + 7 + 7 + 7 + 7 + 7 + 7) + 2).toNatClampNeg = 51 from rfl, show (Int32.ofNat (0 + 7 + 7 + 7 + 7 + 7 + 7 + 7) + 3).toNatClampNeg = 52 from rfl, show (Int32.ofNat (0 + 7 + 7 + 7 + 7 + 7 + 7 + 7) + 4).toNatClampNeg = 53 from rfl, show (Int32.ofNat (0 + 7 + 7 + 7 + 7 + 7 + 7 + 7) + 5).toNatClampNeg = 54 from rfl, show (Int32.ofNat (0 + 7 + 7 + 7 + 7 + 7 + 7 + 7) + 6).toNatClampNeg = 55 from rfl] at hX
  subst hX
  have hz : ∀ j, ¬ (9 ≤ j ∧ j ≤ 15) → M7.2.1 j = M.2.1 j := fun j hj => by rw [c7 j (by omega), c6 j (by omega), c5 j (by omega), c4 j (by omega), c3 j (by omega), c2 j (by omega), c1 j (by omega)]
  have h2j : M7.2.1 j2 = M.2.1 j2 := hz j2 (by omega)
  refine ⟨hp, fun i hi => ?_, ?_, hz, fun j c hj hc => ?_, fun i hi => ?_⟩
  · show va_up (va_up (va_up (va_up (va_up (va_up (va_up M7.1 0 _) 1 _) 2 _) 3 _) 4 _) 5 _) 6 _ i = _
    rw [up_ne (by omega), up_ne (by omega), up_ne (by omega), up_ne (by omega), up_ne (by omega), up_ne (by omega), up_ne (by omega), a7, a6, a5, a4, a3, a2, a1]
  · show M7.2.2 = M.2.2
    rw [b7, b6, b5, b4, b3, b2, b1]
  · rcases (show j = 0 ∨ j = 1 ∨ j = 2 ∨ j = 3 ∨ j = 4 ∨ j = 5 ∨ j = 6 by omega) with q | q | q | q | q | q | q <;> subst q
    · show M7.2.1 9 c = _
      rw [c7 9 (by omega), c6 9 (by omega), c5 9 (by omega), c4 9 (by omega), c3 9 (by omega), c2 9 (by omega), d1 c, if_pos hc]
    · show M7.2.1 10 c = _
      rw [c7 10 (by omega), c6 10 (by omega), c5 10 (by omega), c4 10 (by omega), c3 10 (by omega), d2 c, if_pos hc, c1 j2 (by omega)]
    · show M7.2.1 11 c = _
      rw [c7 11 (by omega), c6 11 (by omega), c5 11 (by omega), c4 11 (by omega), d3 c, if_pos hc, c2 j2 (by omega), c1 j2 (by omega)]
    · show M7.2.1 12 c = _
      rw [c7 12 (by omega), c6 12 (by omega), c5 12 (by omega), d4 c, if_pos hc, c3 j2 (by omega), c2 j2 (by omega), c1 j2 (by omega)]
    · show M7.2.1 13 c = _
      rw [c7 13 (by omega), c6 13 (by omega), d5 c, if_pos hc, c4 j2 (by omega), c3 j2 (by omega), c2 j2 (by omega), c1 j2 (by omega)]
    · show M7.2.1 14 c = _
      rw [c7 14 (by omega), d6 c, if_pos hc, c5 j2 (by omega), c4 j2 (by omega), c3 j2 (by omega), c2 j2 (by omega), c1 j2 (by omega)]
    · show M7.2.1 15 c = _
      rw [d7 c, if_pos hc, c6 j2 (by omega), c5 j2 (by omega), c4 j2 (by omega), c3 j2 (by omega), c2 j2 (by omega), c1 j2 (by omega)]
  · rw [← h2j]
    rcases (show i = 0 ∨ i = 1 ∨ i = 2 ∨ i = 3 ∨ i = 4 ∨ i = 5 ∨ i = 6 by omega) with q | q | q | q | q | q | q <;> subst q <;> rfl
