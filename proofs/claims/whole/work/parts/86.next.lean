/-! in which fog to look next -/
section
variable {P : pT} {N : nT} {R Q : rT} {V : vT} {F : fT} {M : mT} {c : Int32} {k : Nat}
theorem many_loop (hk : k < 2147483648) {g : Nat} : ∀ (d v : Nat), v + d = 31 → v_X7_next_r (g + d + 1) 0 M c (Int32.ofNat k) (Int32.ofNat (pc k v)) (-1) 0 (Int32.ofNat v) 0 0 = (if 2 ≤ Int32.ofNat (pc k 31) then v_X7_next_r g 1 M c (Int32.ofNat k) (Int32.ofNat (pc k 31)) (-1) 0 0 0 0 else (-1, M)) ∧ ((2 ≤ Int32.ofNat (pc k 31) → p_X7_next_r g 1 M c (Int32.ofNat k) (Int32.ofNat (pc k 31)) (-1) 0 0 0 0) → p_X7_next_r (g + d + 1) 0 M c (Int32.ofNat k) (Int32.ofNat (pc k v)) (-1) 0 (Int32.ofNat v) 0 0) := by
  intro d
  induction d with
  | zero =>
    intro v hv
    have e31 : v = 31 := by omega
    subst e31
    have w : (30 : Int32) < Int32.ofNat 31 := by decide
    rw [show g + 0 + 1 = g + 1 from rfl, v_X7_next_r, p_X7_next_r]
    simp only [if_true, eq_self, if_pos w]
    refine ⟨trivial, fun h => ?_⟩
    by_cases z : 2 ≤ Int32.ofNat (pc k 31)
    · rw [if_pos z]; exact h z
    · rw [if_neg z]; trivial
  | succ d ih =>
    intro v hv
    have w : ¬ (30 : Int32) < Int32.ofNat v := by rw [n_lt, n_of (by omega), n_30]; omega
    have pl := pc_le (k := k) v
    obtain ⟨j1, j2⟩ := ih (v + 1) (by omega)
    rw [show g + (d + 1) + 1 = (g + d + 1) + 1 from rfl, v_X7_next_r, p_X7_next_r]
    simp only [if_true, eq_self, if_neg w]
    have e : Int32.ofNat (pc k v) + ((Int32.ofNat k >>> (Int32.ofNat v &&& 31)) &&& 1) = Int32.ofNat (pc k (v + 1)) := by
      rw [mask_bit (by omega) hk, nat_add (by split <;> omega), pc]
    rw [e, nat1 (by omega)]
    exact ⟨j1, j2⟩
/-- how many of them slow in a fog -/
theorem among_loop (hR : RR P R M) (hc : isC M.1 c) (hk : k < 2147483648) {f : Nat} (hf : f < 10) {m7 m8 : Int32} {g h : Nat} : ∀ (d v : Nat) (a : Int32), v + d = 31 → 0 ≤ a.toInt → a.toInt ≤ (pc k v : Int) → p_X6_slowAmong_r P N R (h + d + 1) (Int32.ofNat k) c (Int32.ofNat f) a (Int32.ofNat v) ∧ ∃ A : Int32, 0 ≤ A.toInt ∧ A.toInt ≤ (pc k 31 : Int) ∧ v_X6_slowAmong_r P N R (h + d + 1) (Int32.ofNat k) c (Int32.ofNat f) a (Int32.ofNat v) = A ∧ v_X7_next_r (g + 1 + d) 2 M c (Int32.ofNat k) (Int32.ofNat (pc k 31)) m7 m8 (Int32.ofNat f) a (Int32.ofNat v) = v_X7_next_r (g + 1) 2 M c (Int32.ofNat k) (Int32.ofNat (pc k 31)) m7 m8 (Int32.ofNat f) A (Int32.ofNat 31) ∧ (p_X7_next_r (g + 1) 2 M c (Int32.ofNat k) (Int32.ofNat (pc k 31)) m7 m8 (Int32.ofNat f) A (Int32.ofNat 31) → p_X7_next_r (g + 1 + d) 2 M c (Int32.ofNat k) (Int32.ofNat (pc k 31)) m7 m8 (Int32.ofNat f) a (Int32.ofNat v)) := by
  intro d
  induction d with
  | zero =>
    intro v a hv h0 h1
    have e31 : v = 31 := by omega
    subst e31
    have w : (30 : Int32) < Int32.ofNat 31 := by decide
    rw [show h + 0 + 1 = h + 1 from rfl, v_X6_slowAmong_r, p_X6_slowAmong_r, if_pos w, if_pos w]
    exact ⟨trivial, a, h0, h1, rfl, rfl, fun h => h⟩
  | succ d ih =>
    intro v a hv h0 h1
    have w : ¬ (30 : Int32) < Int32.ofNat v := by rw [n_lt, n_of (by omega), n_30]; omega
    have pl := pc_le (k := k) v
    obtain ⟨q1, q2, q3⟩ := slowsby_ok (v := Int32.ofNat v) (f := Int32.ofNat f) hR hc (by rw [n_of (by omega)]; omega) (by rw [n_of (by omega)]; omega)
    obtain ⟨b1, b0⟩ := bit_one (k := k) (v := v) (by omega) hk
    rw [show h + (d + 1) + 1 = (h + d + 1) + 1 from rfl, show g + 1 + (d + 1) = (g + 1 + d) + 1 from rfl, v_X6_slowAmong_r, p_X6_slowAmong_r, v_X7_next_r, p_X7_next_r]
    simp only [if_neg (show ¬ (2 : Nat) = 0 by decide), if_neg (show ¬ (2 : Nat) = 1 by decide), if_neg w, kk_def]
    rw [nat1 (by omega)]
    by_cases t : k.testBit v = true
    · have g1 := b1.mpr t
      have g0 : ¬ ((Int32.ofNat k >>> (Int32.ofNat v &&& 31)) &&& 1) = 0 := fun q => (b0.mp q) t
      have pe : pc k (v + 1) = pc k v + 1 := by rw [pc, if_pos t]
      simp only [if_neg g0, if_pos g1, q1]
      generalize hS : v_X4_slowAlone P R c (Int32.ofNat f) (Int32.ofNat v) = S at *
      by_cases z : S = -1
      · simp only [if_pos z]
        rw [show a + 0 = a from Int32.add_zero a]
        obtain ⟨j1, A, j2, j3, j4, j5, j6⟩ := ih (v + 1) a (by omega) h0 (by omega)
        exact ⟨⟨q3, j1⟩, A, j2, j3, j4, j5, fun h => ⟨q2, j6 h⟩⟩
      · simp only [if_neg z]
        have e1 : (a + 1).toInt = a.toInt + 1 := by rw [n_add (by rw [n_1]; omega) (by rw [n_1]; omega), n_1]
        obtain ⟨j1, A, j2, j3, j4, j5, j6⟩ := ih (v + 1) (a + 1) (by omega) (by omega) (by omega)
        exact ⟨⟨q3, j1⟩, A, j2, j3, j4, j5, fun h => ⟨q2, j6 h⟩⟩
    · have g0 := b0.mpr t
      have g1 : ¬ ((Int32.ofNat k >>> (Int32.ofNat v &&& 31)) &&& 1) = 1 := fun q => t (b1.mp q)
      have pe : pc k (v + 1) = pc k v := by rw [pc, if_neg t]; rfl
      simp only [if_pos g0, if_neg g1]
      obtain ⟨j1, A, j2, j3, j4, j5, j6⟩ := ih (v + 1) a (by omega) h0 (by omega)
      exact ⟨⟨trivial, j1⟩, A, j2, j3, j4, j5, fun h => ⟨trivial, j6 h⟩⟩
theorem next_loop (hR : RR P R M) (hc : isC M.1 c) (hk : k < 2147483648) : ∀ (d f fx g : Nat) (v8 v9 m7 m8 : Int32), f + d = 10 → d < fx → 33 * d < g → ((f = 0 ∧ v9 = Int32.ofNat (pc k 31 + 1) ∧ m7 = -1) ∨ (0 < f ∧ v8 = m7 ∧ v9 = m8 ∧ ¬ m7 = -1)) → p_X6_next_r P R F fx N c (Int32.ofNat k) (Int32.ofNat (pc k 31)) v8 v9 (Int32.ofNat f) ∧ p_X7_next_r g 1 M c (Int32.ofNat k) (Int32.ofNat (pc k 31)) m7 m8 (Int32.ofNat f) 0 0 ∧ ∃ r, v_X6_next_r P R F fx N c (Int32.ofNat k) (Int32.ofNat (pc k 31)) v8 v9 (Int32.ofNat f) = (r, N) ∧ v_X7_next_r g 1 M c (Int32.ofNat k) (Int32.ofNat (pc k 31)) m7 m8 (Int32.ofNat f) 0 0 = (r, M) := by
  intro d
  induction d with
  | zero =>
    intro f fx g v8 v9 m7 m8 hf hfx hg hst
    have e10 : f = 10 := by omega
    subst e10
    obtain ⟨fx, rfl⟩ : ∃ m, fx = m + 1 := ⟨fx - 1, by omega⟩
    obtain ⟨g, rfl⟩ : ∃ m, g = m + 1 := ⟨g - 1, by omega⟩
    have w : (9 : Int32) < Int32.ofNat 10 := by decide
    rw [v_X6_next_r, p_X6_next_r, v_X7_next_r, p_X7_next_r]
    simp only [if_neg (show ¬ (1 : Nat) = 0 by decide), if_true, eq_self, if_pos w]
    rcases hst with ⟨q, -⟩ | ⟨-, q, -⟩
    · omega
    · rw [q]; exact ⟨trivial, trivial, m7, rfl, rfl⟩
  | succ d ih =>
    intro f fx g v8 v9 m7 m8 hf hfx hg hst
    obtain ⟨fx, rfl⟩ : ∃ m, fx = m + 1 := ⟨fx - 1, by omega⟩
    obtain ⟨g, rfl⟩ : ∃ m, g = (m + 1 + 31) + 1 := ⟨g - 33, by omega⟩
    have w : ¬ (9 : Int32) < Int32.ofNat f := by rw [n_lt, n_of (by omega), n_9]; omega
    have w30 : (30 : Int32) < Int32.ofNat 31 := by decide
    obtain ⟨j1, A, a0, a1, j2, j3, j4⟩ := among_loop (N := N) (g := g) (h := 168) (m7 := m7) (m8 := m8) hR hc hk (show f < 10 by omega) 31 0 0 (by omega) (by decide) (Int.le_refl 0)
    rw [v_X6_next_r, p_X6_next_r, v_X7_next_r, p_X7_next_r]
    simp only [if_neg (show ¬ (1 : Nat) = 0 by decide), if_true, eq_self, if_neg w]
    rw [show v_X7_next_r (g + 1 + 31) 2 M c (Int32.ofNat k) (Int32.ofNat (pc k 31)) m7 m8 (Int32.ofNat f) 0 0 = _ from j3, show v_X6_slowAmong P N R (Int32.ofNat k) c (Int32.ofNat f) = A from j2]
    rw [v_X7_next_r]
    rw [p_X7_next_r] at j4
    simp only [if_neg (show ¬ (2 : Nat) = 0 by decide), if_neg (show ¬ (2 : Nat) = 1 by decide), if_pos w30, kk_def] at j4 ⊢
    have pl := pc_le (k := k) 31
    have es : (Int32.ofNat (pc k 31) - A).toInt = (pc k 31 : Int) - A.toInt := by rw [n_sub (by rw [n_of (by omega)]; omega) (by rw [n_of (by omega)]; omega), n_of (by omega)]
    rw [nat1 (by omega)] at j4 ⊢
    have key : ∃ a' b' y : Int32, (if A < (Int32.ofNat (pc k 31) - A) then Int32.ofNat (pc k 31) - A else A) = y ∧ (if A ≤ (Int32.ofNat (pc k 31) - A) then Int32.ofNat (pc k 31) - A else A) = y ∧ (if v9 ≤ y then v8 else Int32.ofNat f) = a' ∧ (if v9 ≤ y then v9 else y) = b' ∧ (if m7 = -1 then Int32.ofNat f else if y < m8 then Int32.ofNat f else m7) = a' ∧ (if m7 = -1 then y else if y < m8 then y else m8) = b' ∧ ¬ a' = -1 := by
      have hy : ∃ y : Int32, (if A < (Int32.ofNat (pc k 31) - A) then Int32.ofNat (pc k 31) - A else A) = y ∧ (if A ≤ (Int32.ofNat (pc k 31) - A) then Int32.ofNat (pc k 31) - A else A) = y ∧ y.toInt ≤ (pc k 31 : Int) := by
        by_cases q : A < (Int32.ofNat (pc k 31) - A)
        · have q2 : A ≤ (Int32.ofNat (pc k 31) - A) := by rw [n_lt] at q; rw [n_le]; omega
          exact ⟨_, if_pos q, if_pos q2, by rw [es]; omega⟩
        · by_cases q2 : A ≤ (Int32.ofNat (pc k 31) - A)
          · refine ⟨A, if_neg q, ?_, a1⟩
            rw [if_pos q2, n_eq]
            rw [n_lt] at q
            rw [n_le] at q2
            omega
          · exact ⟨A, if_neg q, if_neg q2, a1⟩
      obtain ⟨y, y1, y2, y3⟩ := hy
      have fm : ¬ Int32.ofNat f = -1 := by rw [n_eq, n_of (by omega), n_m1]; omega
      rcases hst with ⟨z, hv, hm⟩ | ⟨z, hv, hm, hn⟩
      · have q : ¬ v9 ≤ y := by rw [hv, n_le, n_of (by omega)]; omega
        exact ⟨Int32.ofNat f, y, y, y1, y2, if_neg q, if_neg q, if_pos hm, if_pos hm, fm⟩
      · by_cases q : v9 ≤ y
        · have q2 : ¬ y < m8 := by rw [← hm, n_lt]; rw [n_le] at q; omega
          exact ⟨m7, m8, y, y1, y2, by rw [if_pos q, hv], by rw [if_pos q, hm], by rw [if_neg hn, if_neg q2], by rw [if_neg hn, if_neg q2], hn⟩
        · have q2 : y < m8 := by rw [← hm, n_lt]; rw [n_le] at q; omega
          exact ⟨Int32.ofNat f, y, y, y1, y2, if_neg q, if_neg q, by rw [if_neg hn, if_pos q2], by rw [if_neg hn, if_pos q2], fm⟩
    obtain ⟨a', b', y, y1, y2, q1, q2, q3, q4, q5⟩ := key
    rw [y2, q3, q4] at j4
    rw [y1, y2, q1, q2, q3, q4]
    obtain ⟨l1, l2, r, l3, l4⟩ := ih (f + 1) fx g a' b' a' b' (by omega) (by omega) (by omega) (Or.inr ⟨by omega, rfl, rfl, q5⟩)
    exact ⟨⟨j1, l1⟩, j4 l2, r, l3, l4⟩
end
section
variable {P : pT} {N : nT} {R Q : rT} {V : vT} {F : fT} {M : mT}
theorem pc_31 {k : Nat} (hk : k < 2147483648) : pc k 32 = pc k 31 := by
  rw [show (32 : Nat) = 31 + 1 from rfl, pc, if_neg (by rw [Nat.testBit_lt_two_pow hk]; decide)]
  rfl
theorem op_next (h : RA P N R Q V F M) (x n c : Int32) : p_X6_next P N R F x n c ∧ p_X7_next M x n c ∧ (v_X6_next P N R F x n c).1 = (v_X7_next M x n c).1 ∧ RA P (v_X6_next P N R F x n c).2 R Q V F (v_X7_next M x n c).2 := by
  obtain ⟨p1, p2, hc⟩ := two_cases h x n c
  have ps := p_shelfAt N x
  unfold p_X6_next p_X7_next v_X6_next v_X7_next
  rcases hc with ⟨b, h1, h2, e1, e2⟩ | ⟨s, m, e1, e2, e3, rfl, hs, hS, hC, rfl, hm, hl, hT⟩
  · have hb : ¬ b = 0 := by rw [n_eq, n_0]; omega
    have hb2 : ¬ -b = 0 := by rw [n_eq, n_neg (by omega), n_0]; omega
    rw [e1, e2, if_neg hb2, if_neg hb2, kk_def]
    have r := RA_ten h h1 h2
    have pn := p_noTen (M := M) h1 h2
    rcases hq : v_X6_shelfAt N x with _ | s
    · rw [oc_none, oc_none, if_neg hb, if_neg hb, kk_def]
      exact ⟨⟨p1, ps, p_refuse N b⟩, ⟨p2, pn⟩, r⟩
    · rw [oc_some, oc_some, if_neg hb, if_neg hb, kk_def]
      exact ⟨⟨p1, ps, p_refuse N b⟩, ⟨p2, pn⟩, r⟩
  · rw [e1, e2, e3, oc_some, oc_some, if_pos n00, if_pos n00, if_pos n00, if_pos n00]
    obtain ⟨j1, j2, k, j3, j4, j5⟩ := fit_ok (N := N) h.2.2.1 hC hs hS hm hl hT
    rw [j4, j5, kk_def, kk_def, bitCount_ok (by omega), pc_31 j3]
    dsimp only
    obtain ⟨q1, q2⟩ := many_loop (M := M) (c := c) (k := k) (g := 468) j3 31 0 (by omega)
    rw [show v_X7_next_r 500 0 M c (Int32.ofNat k) 0 (-1) 0 0 0 0 = _ from q1]
    by_cases z : 2 ≤ Int32.ofNat (pc k 31)
    · have pl := pc_le (k := k) 31
      obtain ⟨l1, l2, r, l3, l4⟩ := next_loop (N := N) (F := F) h.2.2.1 hC j3 10 0 200 468 (-1) (Int32.ofNat (pc k 31 + 1)) (-1) 0 (by omega) (by omega) (by omega) (Or.inl ⟨rfl, rfl, rfl⟩)
      rw [if_pos z, if_pos z, if_pos z, nat1 (by omega)]
      rw [show v_X6_next_r P R F 200 N c (Int32.ofNat k) (Int32.ofNat (pc k 31)) (-1) (Int32.ofNat (pc k 31 + 1)) 0 = (r, N) from l3, show v_X7_next_r 468 1 M c (Int32.ofNat k) (Int32.ofNat (pc k 31)) (-1) 0 0 0 0 = (r, M) from l4]
      exact ⟨⟨p1, ps, j1, l1⟩, ⟨p2, j2, q2 (fun _ => l2)⟩, rfl, h⟩
    · rw [if_neg z, if_neg z, if_neg z]
      exact ⟨⟨p1, ps, j1, trivial⟩, ⟨p2, j2, q2 (fun q => absurd q z)⟩, rfl, h⟩
end
