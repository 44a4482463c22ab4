/-! how often to practise -/
theorem mNv_twice {M : mT} {x v w : Int32} : mNv (mNv M x w) x v = mNv M x v := by
  show (M.1, va_up (va_up M.2.1 11 _) 11 (upd (va_up M.2.1 11 (upd (M.2.1 11) x.toNatClampNeg w) 11) x.toNatClampNeg v), M.2.2) = (M.1, va_up M.2.1 11 (upd (M.2.1 11) x.toNatClampNeg v), M.2.2)
  rw [up_twice, up_at, upd_twice]
theorem mNv_self {M : mT} {x : Int32} : mNv M x (M.2.1 11 x.toNatClampNeg) = M := by
  show (M.1, va_up M.2.1 11 (upd (M.2.1 11) x.toNatClampNeg (M.2.1 11 x.toNatClampNeg)), M.2.2) = M
  rw [upd_self, up_self]
section
variable {P : pT} {N : nT} {R Q : rT} {V : vT} {F : fT} {M : mT}
theorem prac_loop (hR : RR P R M) {x c w : Int32} (hx : isC M.1 x) (hc : 1 ≤ c.toInt ∧ c.toInt ≤ 99) : ∀ (fu k : Nat) (v a b m : Int32), k ≤ 21 → 21 - k < fu → (0 ≤ v.toInt ∧ v.toInt ≤ 30) → ((k = 0 ∧ m = -1) ∨ (0 < k ∧ m = b ∧ 0 ≤ b.toInt)) → p_X6_practise_r P R fu N x c w a b (Int32.ofNat k) ∧ p_X7_practise_r fu (mNv M x v) x c w (M.2.1 11 x.toNatClampNeg) a m (Int32.ofNat k) ∧ ∃ r, v_X6_practise_r P R fu N x c w a b (Int32.ofNat k) = (r, N) ∧ v_X7_practise_r fu (mNv M x v) x c w (M.2.1 11 x.toNatClampNeg) a m (Int32.ofNat k) = (r, M) := by
  intro fu
  induction fu with
  | zero => intro k v a b m _ h; omega
  | succ fu ih =>
    intro k v a b m hk hfu hv hst
    have v7 := hR.vp hx
    have hs := SC_of hR hx
    have hn := (hR.cm hx).2.2.2.2.1
    have hn2 : 0 ≤ (M.2.1 11 x.toNatClampNeg).toInt ∧ (M.2.1 11 x.toNatClampNeg).toInt ≤ 30 := hn
    have e11 : (R.2.1 1) x.toNatClampNeg = M.2.1 11 x.toNatClampNeg := (hR.cm hx).2.1.1
    rw [p_X6_practise_r, p_X7_practise_r, v_X6_practise_r, v_X7_practise_r]
    by_cases z : k = 21
    · have w21 : (20 : Int32) < Int32.ofNat k := by rw [z]; decide
      rw [if_pos w21, if_pos w21, if_pos w21, if_pos w21]
      refine ⟨trivial, v7, _, rfl, ?_⟩
      have e1 : msa (mNv M x v) 11 (upd ((mNv M x v).2.1 11) x.toNatClampNeg (M.2.1 11 x.toNatClampNeg)) = M := by
        show mNv (mNv M x v) x (M.2.1 11 x.toNatClampNeg) = M
        rw [mNv_twice, mNv_self]
      rw [e1]
      rcases hst with ⟨q, -⟩ | ⟨-, q, -⟩
      · omega
      · rw [q]
    · have w21 : ¬ (20 : Int32) < Int32.ofNat k := by rw [n_lt, n_of (by omega), n_20]; omega
      rw [if_neg w21, if_neg w21, if_neg w21, if_neg w21, nat1 (by omega), e11]
      have e3 : (mNv M x v).1 3 = R.1 7 := hR.1.2.2.2.1.symm
      -- the nerve that he would have
      have ks : (M.2.1 11 x.toNatClampNeg + Int32.ofNat k).toInt = (M.2.1 11 x.toNatClampNeg).toInt + k := by rw [n_add (by rw [n_of (by omega)]; omega) (by rw [n_of (by omega)]; omega), n_of (by omega)]
      obtain ⟨u, hu1, hu2, hu⟩ : ∃ u : Int32, (if M.2.1 11 x.toNatClampNeg + Int32.ofNat k < 30 then M.2.1 11 x.toNatClampNeg + Int32.ofNat k else 30) = u ∧ (if M.2.1 11 x.toNatClampNeg + Int32.ofNat k ≤ 30 then M.2.1 11 x.toNatClampNeg + Int32.ofNat k else 30) = u ∧ 0 ≤ u.toInt ∧ u.toInt ≤ 30 := by
        by_cases q : M.2.1 11 x.toNatClampNeg + Int32.ofNat k < 30
        · have q2 : M.2.1 11 x.toNatClampNeg + Int32.ofNat k ≤ 30 := by rw [n_le, n_30]; rw [n_lt, n_30] at q; omega
          rw [n_lt, n_30, ks] at q
          exact ⟨_, if_pos (by rw [n_lt, n_30, ks]; exact q), if_pos q2, by rw [ks]; omega⟩
        · by_cases q2 : M.2.1 11 x.toNatClampNeg + Int32.ofNat k ≤ 30
          · refine ⟨30, if_neg q, ?_, by decide⟩
            rw [if_pos q2, n_eq, n_30]
            rw [n_lt, n_30] at q
            rw [n_le, n_30] at q2
            omega
          · exact ⟨30, if_neg q, if_neg q2, by decide⟩
      rw [hu1, hu2, show msa (mNv M x v) 11 (upd ((mNv M x v).2.1 11) x.toNatClampNeg u) = mNv M x u from mNv_twice]
      have hs2 : SC P R (mNv M x u) x := SC_nerve hs hu
      have ef : v_X4_fogsOf P R x u = v_X7_fogsOf (mNv M x u) x := by
        have := fogs_eq hs2
        rw [mNv_at] at this
        exact this
      have pf1 := p_fogsx hs u
      have pf2 := p_fogsm hs2
      have fb := fogs_b (M := mNv M x u) (x := x)
      simp only [kk_def]
      rw [ef, e3, Int32.mul_comm (v_X7_fogsOf (mNv M x u) x)]
      generalize v_X7_fogsOf (mNv M x u) x = G at *
      have ht : 1 ≤ (R.1 7).toInt ∧ (R.1 7).toInt ≤ 99 := by rw [hR.1.2.2.2.1]; exact hR.2.1.2.2.2.1
      have y0 : 0 ≤ (Int32.ofNat k * c + R.1 7 * G).toInt := by
        have hm2 : (0 : Int) ≤ k := by omega
        have u1 : 0 ≤ (k : Int) * c.toInt := Int.mul_nonneg hm2 (by omega)
        have u2 : (k : Int) * c.toInt ≤ 21 * 99 := Int.mul_le_mul (by omega) hc.2 (by omega) (by omega)
        have t1 : 0 ≤ (R.1 7).toInt * G.toInt := Int.mul_nonneg (by omega) fb.1
        have t2 : (R.1 7).toInt * G.toInt ≤ 99 * 10 := Int.mul_le_mul ht.2 fb.2 fb.1 (by omega)
        have s1 : (Int32.ofNat k * c).toInt = (k : Int) * c.toInt := by rw [n_mul (by rw [n_of (by omega)]; omega) (by rw [n_of (by omega)]; omega), n_of (by omega)]
        have s2 : (R.1 7 * G).toInt = (R.1 7).toInt * G.toInt := n_mul (by omega) (by omega)
        rw [n_add (by rw [s1, s2]; omega) (by rw [s1, s2]; omega), s1, s2]
        omega
      generalize hy : Int32.ofNat k * c + R.1 7 * G = y at *
      have key : ∃ a' b' : Int32, (if Int32.ofNat k = 0 then y else if b ≤ y then b else y) = b' ∧ (if Int32.ofNat k = 0 then Int32.ofNat k else if b ≤ y then a else Int32.ofNat k) = a' ∧ (if m = -1 then Int32.ofNat k else if y < m then Int32.ofNat k else a) = a' ∧ (if m = -1 then y else if y < m then y else m) = b' ∧ 0 ≤ b'.toInt := by
        rcases hst with ⟨z, hm⟩ | ⟨z, hm, h0v⟩
        · have zk : Int32.ofNat k = 0 := by rw [z]; rfl
          exact ⟨Int32.ofNat k, y, if_pos zk, if_pos zk, if_pos hm, if_pos hm, y0⟩
        · have zk : ¬ Int32.ofNat k = 0 := by rw [n_eq, n_of (by omega), n_0]; omega
          have hm1 : ¬ m = -1 := by rw [hm, n_eq, n_m1]; omega
          by_cases q : b ≤ y
          · have q2 : ¬ y < m := by rw [hm, n_lt]; rw [n_le] at q; omega
            exact ⟨a, b, by rw [if_neg zk, if_pos q], by rw [if_neg zk, if_pos q], by rw [if_neg hm1, if_neg q2], by rw [if_neg hm1, if_neg q2, hm], h0v⟩
          · have q2 : y < m := by rw [hm, n_lt]; rw [n_le] at q; omega
            exact ⟨Int32.ofNat k, y, by rw [if_neg zk, if_neg q], by rw [if_neg zk, if_neg q], by rw [if_neg hm1, if_pos q2], by rw [if_neg hm1, if_pos q2], y0⟩
      obtain ⟨a', b', q1, q2, q3, q4, q5⟩ := key
      obtain ⟨j1, j2, r, j3, j4⟩ := ih (k + 1) u a' b' b' (by omega) (by omega) hu (Or.inr ⟨by omega, rfl, q5⟩)
      rw [q1, q2, q3, q4]
      exact ⟨⟨v7, pf1, j1⟩, ⟨v7, pf2, j2⟩, r, j3, j4⟩
theorem op_practise (h : RA P N R Q V F M) (x c w : Int32) : p_X6_practise P N R x c w ∧ p_X7_practise M x c w ∧ (v_X6_practise P N R x c w).1 = (v_X7_practise M x c w).1 ∧ RA P (v_X6_practise P N R x c w).2 R Q V F (v_X7_practise M x c w).2 := by
  have n1 : p_X7_no M (-1) := p_no (b := 1) (by decide) (by decide)
  have n5 : p_X7_no M (-5) := p_no (b := 5) (by decide) (by decide)
  have n6 : p_X7_no M (-6) := p_no (b := 6) (by decide) (by decide)
  have r1 := RA_refuse h (b := 1) (by decide) (by decide)
  have r5 := RA_refuse h (b := 5) (by decide) (by decide)
  have r6 := RA_refuse h (b := 6) (by decide) (by decide)
  have ph := p_has h.2.2.1 x
  unfold p_X6_practise p_X7_practise v_X6_practise v_X7_practise
  rw [from_eq]
  by_cases z : isC M.1 x
  · obtain ⟨h1, h2, h7⟩ := hasne h z
    rw [if_neg h1, if_neg h1, if_neg h2, if_neg h2]
    by_cases d : v_X6_within w 0 1 = 0
    · rw [if_pos d, if_pos d, kk_def]
      rw [within_iff, n_0, n_1] at d
      by_cases g : w < 0
      · rw [if_pos g, if_pos g, kk_def]
        exact ⟨⟨ph, p_refuse N 5⟩, n5, r5⟩
      · have g2 : ¬ w ≤ 1 := by rw [n_lt, n_0] at g; rw [n_le, n_1]; omega
        rw [if_neg g, if_neg g, if_neg g2, if_neg g2, kk_def]
        exact ⟨⟨ph, p_refuse N 5⟩, n5, r5⟩
    · rw [if_neg d, if_neg d]
      have hb := wneg d
      rw [n_0, n_1] at hb
      have g : ¬ w < 0 := by rw [n_lt, n_0]; omega
      have g2 : w ≤ 1 := by rw [n_le, n_1]; omega
      rw [if_neg g, if_neg g, if_pos g2, if_pos g2]
      by_cases k : v_X6_within c 1 99 = 0
      · rw [if_pos k, if_pos k, if_pos k, if_pos k, kk_def, kk_def]
        exact ⟨⟨ph, p_refuse N 6⟩, n6, r6⟩
      · rw [if_neg k, if_neg k, if_neg k, if_neg k]
        have hc := wneg k
        rw [n_1, n_99] at hc
        have hn := (h.2.2.1.cm z).2.2.2.2.1
        obtain ⟨j1, j2, r, j3, j4⟩ := prac_loop (N := N) (w := w) h.2.2.1 z hc 200 0 (M.2.1 11 x.toNatClampNeg) 0 0 (-1) (by omega) (by omega) hn (Or.inl ⟨rfl, rfl⟩)
        rw [mNv_self] at j2 j4
        rw [show v_X6_practise_r P R 200 N x c w 0 0 0 = (r, N) from j3, show v_X7_practise_r 200 M x c w (M.2.1 11 x.toNatClampNeg) 0 (-1) 0 = (r, M) from j4]
        exact ⟨⟨ph, j1⟩, ⟨h7, j2⟩, rfl, h⟩
  · obtain ⟨h1, h2⟩ := has0 h z
    rw [if_pos h1, if_pos h1, if_pos h2, if_pos h2, kk_def, kk_def]
    exact ⟨⟨ph, p_refuse N 1⟩, n1, r1⟩
end
