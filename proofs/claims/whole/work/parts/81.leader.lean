/-! whom to be led by -/
section
variable {P : pT} {R : rT} {M : mT} {x : Int32}
theorem looks20 (hk : 1 ≤ (mD M 3 x.toNatClampNeg).toInt ∧ (mD M 3 x.toNatClampNeg).toInt ≤ 9) (hw : 1 ≤ (M.1 1).toInt ∧ (M.1 1).toInt ≤ 20) : (v_X7_looksOf M x).toInt ≤ 20 := by
  have e : mD M 3 x.toNatClampNeg = (M.2.1 12) x.toNatClampNeg := rfl
  rw [e] at hk
  unfold v_X7_looksOf
  split
  · decide
  · have h1 : (M.1 1 + M.2.1 12 x.toNatClampNeg).toInt = (M.1 1).toInt + (M.2.1 12 x.toNatClampNeg).toInt := n_add (by omega) (by omega)
    have h2 : (M.1 1 + M.2.1 12 x.toNatClampNeg - 1).toInt = (M.1 1).toInt + (M.2.1 12 x.toNatClampNeg).toInt - 1 := by rw [n_sub (by rw [h1, n_1]; omega) (by rw [h1, n_1]; omega), h1, n_1]
    rw [n_div (by rw [h2]; omega) (by omega), h2]
    refine Int.le_of_lt_add_one (Int.ediv_lt_of_lt_mul (by omega) ?_)
    omega
theorem slow_r {has : Int32} {L : Int} (hL : (v_X7_looksOf M x).toInt = L) (hL2 : L ≤ 30) : ∀ (n : Nat) (k : Int) (is kk : Int32), 1 ≤ k → k ≤ L + 1 → L + 1 - k < n → kk.toInt = k → v_X7_slowsAt_r M n x has is kk = -1 ∨ (1 ≤ (v_X7_slowsAt_r M n x has is kk).toInt ∧ (v_X7_slowsAt_r M n x has is kk).toInt ≤ L) := by
  intro n
  induction n with
  | zero => intro k is kk h1 h2 h3; omega
  | succ n ih =>
    intro k is kk h1 h2 h3 hk
    rw [v_X7_slowsAt_r]
    by_cases c1 : v_X7_looksOf M x < kk
    · rw [if_pos c1]; exact Or.inl rfl
    · rw [if_neg c1]
      rw [n_lt, hL, hk] at c1
      by_cases c2 : is + v_X7_step M x ≤ has
      · rw [if_pos c2]
        exact ih (k + 1) _ (kk + 1) (by omega) (by omega) (by omega) (by rw [n_add (by rw [hk, n_1]; omega) (by rw [hk, n_1]; omega), hk, n_1])
      · rw [if_neg c2]
        exact Or.inr (by omega)
theorem slow_range {y z sn f : Int32} (h : SC P R M x) : v_X7_slowsAt M x y z sn f = -1 ∨ (1 ≤ (v_X7_slowsAt M x y z sn f).toInt ∧ (v_X7_slowsAt M x y z sn f).toInt ≤ 20) := by
  obtain ⟨-, -, -, hok, hw, hx, -⟩ := h
  have hlb := mlooks_b (M := M) (x := x) hok.2.2.2.1 hw
  have hl2 := looks20 (M := M) (x := x) hok.2.2.2.1 hw
  unfold v_X7_slowsAt
  rcases slow_r (M := M) (x := x) (has := v_X7_courage M x y z) rfl (by omega) 40 1 ((((M.2.1 15) x.toNatClampNeg) + sn) + (v_X7_burden M x f)) 1 (by omega) (by omega) (by omega) rfl with q | q
  · exact Or.inl q
  · exact Or.inr ⟨q.1, by omega⟩
end
section
variable {P : pT} {N : nT} {R Q : rT} {V : vT} {F : fT} {M : mT}
theorem leader_loop (hR : RR P R M) (h36 : M.1 36 = 0) {x : Int32} (hx : isC M.1 x) {e : Nat} (he : e ≤ 7) (hE : M.1 0 = Int32.ofNat e) (hRe : R.1 4 = Int32.ofNat e) (hI : (M.1 0).toInt = (e : Int)) : ∀ (fu d : Nat) (l a b : Int32), d ≤ e → e - d < fu → ((l = -1 ∧ a = -1) ∨ (¬ l = -1 ∧ ((a = b ∧ 1 ≤ a.toInt ∧ a.toInt ≤ 20) ∨ (a = 21 ∧ b = 99)))) → p_X6_leader_r P R fu N x l a (Int32.ofNat d) ∧ p_X7_leader_r fu M x l b (Int32.ofNat d) ∧ ∃ r, v_X6_leader_r P R fu N x l a (Int32.ofNat d) = (r, N) ∧ v_X7_leader_r fu M x l b (Int32.ofNat d) = (r, M) := by
  intro fu
  induction fu with
  | zero => intro d l a b _ h; omega
  | succ fu ih =>
    intro d l a b hd hfu hst
    rw [p_X6_leader_r, p_X7_leader_r, v_X6_leader_r, v_X7_leader_r, hE, hRe]
    by_cases c : d = e
    · have w : Int32.ofNat e ≤ Int32.ofNat d := by rw [nat_le (by omega) (by omega)]; omega
      rw [if_pos w, if_pos w, if_pos w, if_pos w]
      exact ⟨trivial, trivial, l, rfl, rfl⟩
    · have w : ¬ Int32.ofNat e ≤ Int32.ofNat d := by rw [nat_le (by omega) (by omega)]; omega
      rw [if_neg w, if_neg w, if_neg w, if_neg w, nat1 (by omega)]
      have hdC := (isC_nat hR (show (d : Int) < (M.1 0).toInt by omega)).1
      obtain ⟨nx1, nx2⟩ := nvof_in hR hx
      obtain ⟨nd1, nd2⟩ := nvof_in hR hdC
      have hs := SC_of hR hx
      have b0 : ¬ ((M.1 36 >>> (Int32.ofNat d &&& 31)) &&& 1) = 1 := by
        rw [h36]
        have := (bits_all d (by omega) 0 (by decide)).1
        rw [show Int32.ofNat 0 = 0 from rfl] at this
        rw [this]
        rw [Nat.zero_testBit]; decide
      obtain ⟨g1, g2, g3⟩ := goes_eq (y := -1) (z := x) (sn := 0) hR hdC (nb_m1 M) nx2 (by decide)
      rw [if_neg b0, nvOf_m1] at g1
      have n11 : v_X4_nerveOf R x = M.2.1 11 x.toNatClampNeg := nerve_in hR hx
      generalize hsn : (if v_X4_comesTo P R (Int32.ofNat d) 0 (nvOf M x) 0 = 1 then (1 : Int32) else 0) = sn
      have hsnb : 0 ≤ sn.toInt ∧ sn.toInt ≤ 7 := by
        rw [← hsn]
        split <;> decide
      have hf : 0 ≤ (M.1 2).toInt ∧ (M.1 2).toInt ≤ 9 := hR.2.1.2.2.1
      have es := slow_eq (y := Int32.ofNat d) (z := -1) (f := M.1 2) hs nd2 (nb_m1 M) hf hsnb
      rw [nvOf_m1] at es
      have e6 : R.1 6 = M.1 2 := hR.1.2.2.1
      have ps := p_slowm (y := Int32.ofNat d) (z := -1) (f := M.1 2) (sn := sn) hs nd2 (nb_m1 M)
      have px : ∀ f a b c d, p_X4_slowAt P R x f a b c d := fun f a b c d => p_slowx hs
      have sr := slow_range (y := Int32.ofNat d) (z := -1) (f := M.1 2) (sn := sn) hs
      have eA : v_X4_slowAt P R x (R.1 6) (v_X4_nerveOf R x) (v_X4_nerveOf R (Int32.ofNat d)) 0 (if v_X4_comesTo P R (Int32.ofNat d) 0 (v_X4_nerveOf R x) 0 = 1 then (1 : Int32) else 0) = v_X7_slowsAt M x (Int32.ofNat d) (-1) sn (M.1 2) := by
        rw [e6, nd1, nx1, hsn, ← nx1, n11]
        exact es
      have eB : v_X7_slowsAt M x (Int32.ofNat d) (-1) (if v_X7_goes M (Int32.ofNat d) (-1) x 0 = 1 then 1 else 0) (M.1 2) = v_X7_slowsAt M x (Int32.ofNat d) (-1) sn (M.1 2) := by
        rw [g1, hsn]
      have eP : p_X7_slowsAt M x (Int32.ofNat d) (-1) (if v_X7_goes M (Int32.ofNat d) (-1) x 0 = 1 then 1 else 0) (M.1 2) := by
        rw [g1, hsn]
        exact ps
      rw [eA, eB]
      generalize hS : v_X7_slowsAt M x (Int32.ofNat d) (-1) sn (M.1 2) = S at *
      have pX : p_X4_nerveOf R x ∧ (p_X4_comesTo P R (Int32.ofNat d) 0 (v_X4_nerveOf R x) 0) ∧ p_X4_nerveOf R x ∧ p_X4_nerveOf R (Int32.ofNat d) ∧ p_X4_slowAt P R x (R.1 6) (v_X4_nerveOf R x) (v_X4_nerveOf R (Int32.ofNat d)) 0 (if v_X4_comesTo P R (Int32.ofNat d) 0 (v_X4_nerveOf R x) 0 = 1 then (1 : Int32) else 0) := ⟨p_nerve hR _, g3 _ _ _, p_nerve hR _, p_nerve hR _, px _ _ _ _ _⟩
      by_cases z : Int32.ofNat d = x
      · simp only [if_pos z, kk_def]
        obtain ⟨j1, j2, j3⟩ := ih (d + 1) l a b (by omega) (by omega) hst
        exact ⟨⟨trivial, j1⟩, ⟨trivial, j2⟩, j3⟩
      · simp only [if_neg z, kk_def]
        have dm : ¬ Int32.ofNat d = -1 := by rw [n_eq, n_of (by omega), n_m1]; omega
        have n21 : (21 : Int32).toInt = 21 := rfl
        have n99 : (99 : Int32).toInt = 99 := rfl
        have hT : ∃ A B : Int32, (if S = -1 then 21 else S) = A ∧ (if S = -1 then 99 else S) = B ∧ ((A = B ∧ 1 ≤ A.toInt ∧ A.toInt ≤ 20) ∨ (A = 21 ∧ B = 99)) := by
          rcases sr with q | q
          · exact ⟨21, 99, if_pos q, if_pos q, Or.inr ⟨rfl, rfl⟩⟩
          · have qn : ¬ S = -1 := by rw [n_eq, n_m1]; omega
            exact ⟨S, S, if_neg qn, if_neg qn, Or.inl ⟨rfl, q.1, q.2⟩⟩
        obtain ⟨A, B, hA, hB, hAB⟩ := hT
        have key : ∃ l' a' b' : Int32, (if A ≤ a then l else Int32.ofNat d) = l' ∧ (if A ≤ a then a else A) = a' ∧ (if l = -1 then Int32.ofNat d else if b < B then Int32.ofNat d else l) = l' ∧ (if l = -1 then B else if b < B then B else b) = b' ∧ ((l' = -1 ∧ a' = -1) ∨ (¬ l' = -1 ∧ ((a' = b' ∧ 1 ≤ a'.toInt ∧ a'.toInt ≤ 20) ∨ (a' = 21 ∧ b' = 99)))) := by
          rcases hst with ⟨k1, k2⟩ | ⟨k1, k2⟩
          · have q : ¬ A ≤ a := by
              rw [k2, n_le, n_m1]
              rcases hAB with q | q
              · omega
              · rw [q.1, n21]; omega
            exact ⟨Int32.ofNat d, A, B, if_neg q, if_neg q, if_pos k1, if_pos k1, Or.inr ⟨dm, hAB⟩⟩
          · have key : A ≤ a ↔ ¬ b < B := by
              rw [n_le, n_lt]
              rcases k2 with ⟨u1, u2, u3⟩ | ⟨u1, u2⟩
              · rcases hAB with ⟨t1, t2, t3⟩ | ⟨t1, t2⟩
                · rw [← u1, ← t1]; omega
                · rw [← u1, t1, t2, n21, n99]; omega
              · rcases hAB with ⟨t1, t2, t3⟩ | ⟨t1, t2⟩
                · rw [u1, u2, ← t1, n21, n99]; omega
                · rw [u1, u2, t1, t2, n21, n99]; omega
            by_cases q : A ≤ a
            · have q2 : ¬ b < B := key.mp q
              exact ⟨l, a, b, if_pos q, if_pos q, by rw [if_neg k1, if_neg q2], by rw [if_neg k1, if_neg q2], Or.inr ⟨k1, k2⟩⟩
            · have q2 : b < B := by
                by_cases y : b < B
                · exact y
                · exact absurd (key.mpr y) q
              exact ⟨Int32.ofNat d, A, B, if_neg q, if_neg q, by rw [if_neg k1, if_pos q2], by rw [if_neg k1, if_pos q2], Or.inr ⟨dm, hAB⟩⟩
        obtain ⟨l', a', b', q1, q2, q3, q4, q5⟩ := key
        obtain ⟨j1, j2, j3⟩ := ih (d + 1) l' a' b' (by omega) (by omega) q5
        rw [hA, hB, q1, q2, q3, q4]
        exact ⟨⟨pX, j1⟩, ⟨⟨g2, eP⟩, j2⟩, j3⟩
theorem op_leader (h : RA P N R Q V F M) (x : Int32) : p_X6_leader P N R x ∧ p_X7_leader M x ∧ (v_X6_leader P N R x).1 = (v_X7_leader M x).1 ∧ RA P (v_X6_leader P N R x).2 R Q V F (v_X7_leader M x).2 := by
  unfold p_X6_leader p_X7_leader v_X6_leader v_X7_leader
  by_cases c : isC M.1 x
  · obtain ⟨h1, h2, -⟩ := hasne h c
    rw [if_neg h1, if_neg h1, if_neg h2, if_neg h2]
    obtain ⟨e, he, hE, hRe, hI⟩ := h.2.2.1.e0
    obtain ⟨j1, j2, r, j3, j4⟩ := leader_loop (N := N) h.2.2.1 h.2.2.2.2.2.1 c he hE hRe hI 200 0 (-1) (-1) 0 (by omega) (by omega) (Or.inl ⟨rfl, rfl⟩)
    rw [show v_X6_leader_r P R 200 N x (-1) (-1) 0 = (r, N) from j3, show v_X7_leader_r 200 M x (-1) 0 0 = (r, M) from j4]
    exact ⟨⟨p_has h.2.2.1 x, j1⟩, j2, rfl, h⟩
  · obtain ⟨h1, h2⟩ := has0 h c
    rw [if_pos h1, if_pos h1, if_pos h2, if_pos h2, kk_def, kk_def]
    exact ⟨⟨p_has h.2.2.1 x, p_refuse N 1⟩, p_noTen (b := 1) (by decide) (by decide), RA_ten h (b := 1) (by decide) (by decide)⟩
end
