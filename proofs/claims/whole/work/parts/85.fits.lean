/-! which nerves fit -/
section
variable {P : pT} {N : nT} {R Q : rT} {V : vT} {F : fT} {M : mT}
theorem slowsby_ok (hR : RR P R M) {c v f : Int32} (hc : isC M.1 c) (hv : 0 ≤ v.toInt ∧ v.toInt ≤ 30) (hf : 0 ≤ f.toInt ∧ f.toInt ≤ 9) : v_X7_slowsBy M c v f = ((if v_X4_slowAlone P R c f v = -1 then 0 else 1), M) ∧ p_X7_slowsBy M c v f ∧ p_X4_slowAlone P R c f v := by
  have hs := SC_of hR hc
  have hs2 := SC_nerve hs hv
  have e := alone_eq hs2 hf
  rw [mNv_at] at e
  have v7 := hR.vp hc
  refine ⟨?_, ⟨v7, v7, p_alonem hs2, v7⟩, p_alonex hs⟩
  unfold v_X7_slowsBy
  rw [kk_def, e]
  have e1 : msa (msa M 11 (upd (M.2.1 11) c.toNatClampNeg v)) 11 (upd (upd (M.2.1 11) c.toNatClampNeg v) c.toNatClampNeg ((M.2.1 11) c.toNatClampNeg)) = M := by
    rw [upd_twice, upd_self]
    show (M.1, va_up (va_up M.2.1 11 _) 11 (M.2.1 11), M.2.2) = M
    rw [up_twice, up_self]
  rw [e1]
theorem fit_inner (hR : RR P R M) {c : Int32} (hc : isC M.1 c) {s m : Nat} (hs : s < 8) (hS : RS1 (F s) M s) (hm : m ≤ 40) (hl : 2 * (m : Int) ≤ (M.2.1 18 s).toInt) (hT : ∀ j, j < m → TW M s j) {nv : Nat} (hv : nv < 31) {v4 : Int32} {g : Nat} : ∀ (d i : Nat) (t : Int32), i + d = m → ∃ (g' : Nat) (t' : Int32), g ≤ g' ∧ v_X6_fitting_r P N R (F s) (g + d + 1) 1 (Int32.ofNat m) c v4 (Int32.ofNat nv) t (Int32.ofNat i) = v_X6_fitting_r P N R (F s) g' 0 (Int32.ofNat m) c (if t' = 0 then v4 else v4 ||| (1 <<< (Int32.ofNat nv &&& 31))) (Int32.ofNat nv + 1) 0 0 ∧ (p_X6_fitting_r P N R (F s) g' 0 (Int32.ofNat m) c (if t' = 0 then v4 else v4 ||| (1 <<< (Int32.ofNat nv &&& 31))) (Int32.ofNat nv + 1) 0 0 → p_X6_fitting_r P N R (F s) (g + d + 1) 1 (Int32.ofNat m) c v4 (Int32.ofNat nv) t (Int32.ofNat i)) ∧ v_X7_fitting_r (g + d + 1) 1 M (Int32.ofNat s) (Int32.ofNat m) c v4 (Int32.ofNat nv) t (Int32.ofNat i) = v_X7_fitting_r g' 0 M (Int32.ofNat s) (Int32.ofNat m) c (if t' = 0 then v4 else v4 + (1 <<< (Int32.ofNat nv &&& 31))) (Int32.ofNat nv + 1) 0 0 ∧ (p_X7_fitting_r g' 0 M (Int32.ofNat s) (Int32.ofNat m) c (if t' = 0 then v4 else v4 + (1 <<< (Int32.ofNat nv &&& 31))) (Int32.ofNat nv + 1) 0 0 → p_X7_fitting_r (g + d + 1) 1 M (Int32.ofNat s) (Int32.ofNat m) c v4 (Int32.ofNat nv) t (Int32.ofNat i)) := by
  intro d
  induction d with
  | zero =>
    intro i t hi
    have w : Int32.ofNat m ≤ Int32.ofNat i := by rw [nat_le (by omega) (by omega)]; omega
    rw [show g + 0 + 1 = g + 1 from rfl, v_X6_fitting_r, p_X6_fitting_r, v_X7_fitting_r, p_X7_fitting_r]
    simp only [if_neg (show ¬ (1 : Nat) = 0 by decide), if_pos w]
    exact ⟨g, t, Nat.le_refl g, rfl, fun h => h, rfl, fun h => h⟩
  | succ d ih =>
    intro i t hi
    have w : ¬ Int32.ofNat m ≤ Int32.ofNat i := by rw [nat_le (by omega) (by omega)]; omega
    rw [show g + (d + 1) + 1 = (g + d + 1) + 1 from rfl, v_X6_fitting_r, p_X6_fitting_r, v_X7_fitting_r, p_X7_fitting_r]
    simp only [if_neg (show ¬ (1 : Nat) = 0 by decide), if_neg w]
    by_cases z : t = 0
    · simp only [if_pos z]
      refine ⟨g + d + 1, 0, by omega, ?_, ?_, ?_, ?_⟩
      · rw [if_pos n00]
      · rw [if_pos n00]; exact fun h => h
      · rw [if_pos n00]
      · rw [if_pos n00]; exact fun h => h
    · simp only [if_neg z, kk_def]
      obtain ⟨e1, e2⟩ := int_eq (i := 2 * i) hS hs (by omega)
      obtain ⟨e3, e4⟩ := int_eq (i := 2 * i + 1) hS hs (by omega)
      obtain ⟨t1, t2⟩ := hT i (by omega)
      obtain ⟨q1, q2, q3⟩ := slowsby_ok (v := Int32.ofNat nv) hR hc (by rw [n_of (by omega)]; omega) t1
      rw [nat_2 (by omega), nat1 (by omega), nat1 (by omega), e1, e3]
      rw [q1]
      dsimp only
      have tt : (if v_X7_intAt M (Int32.ofNat s) (Int32.ofNat (2 * i + 1)) = 1 then (1 : Int32) else 0) = v_X7_intAt M (Int32.ofNat s) (Int32.ofNat (2 * i + 1)) := by
        by_cases y : v_X7_intAt M (Int32.ofNat s) (Int32.ofNat (2 * i + 1)) = 1
        · rw [if_pos y, y]
        · rw [if_neg y, n_eq, n_0]
          rw [n_eq, n_1] at y
          omega
      rw [tt]
      obtain ⟨g', t', h1, h2, h3, h4, h5⟩ := ih (i + 1) (if (if v_X4_slowAlone P R c (v_X7_intAt M (Int32.ofNat s) (Int32.ofNat (2 * i))) (Int32.ofNat nv) = -1 then 0 else 1) = v_X7_intAt M (Int32.ofNat s) (Int32.ofNat (2 * i + 1)) then 1 else 0) (by omega)
      exact ⟨g', t', h1, h2, fun h => ⟨p_intx, q3, p_intx, h3 h⟩, h4, fun h => ⟨e2, q2, e4, h5 h⟩⟩
theorem fit_loop (hR : RR P R M) {c : Int32} (hc : isC M.1 c) {s m : Nat} (hs : s < 8) (hS : RS1 (F s) M s) (hm : m ≤ 40) (hl : 2 * (m : Int) ≤ (M.2.1 18 s).toInt) (hT : ∀ j, j < m → TW M s j) : ∀ (n nv k fu : Nat), nv + n = 31 → k < 2 ^ nv → n * (m + 2) < fu → p_X6_fitting_r P N R (F s) fu 0 (Int32.ofNat m) c (Int32.ofNat k) (Int32.ofNat nv) 0 0 ∧ p_X7_fitting_r fu 0 M (Int32.ofNat s) (Int32.ofNat m) c (Int32.ofNat k) (Int32.ofNat nv) 0 0 ∧ ∃ k', k' < 2147483648 ∧ v_X6_fitting_r P N R (F s) fu 0 (Int32.ofNat m) c (Int32.ofNat k) (Int32.ofNat nv) 0 0 = Int32.ofNat k' ∧ v_X7_fitting_r fu 0 M (Int32.ofNat s) (Int32.ofNat m) c (Int32.ofNat k) (Int32.ofNat nv) 0 0 = (Int32.ofNat k', M) := by
  intro n
  induction n with
  | zero =>
    intro nv k fu hn hk hfu
    obtain ⟨fu, rfl⟩ : ∃ m, fu = m + 1 := ⟨fu - 1, by omega⟩
    have e31 : nv = 31 := by omega
    subst e31
    have w : (30 : Int32) < Int32.ofNat 31 := by decide
    rw [v_X6_fitting_r, p_X6_fitting_r, v_X7_fitting_r, p_X7_fitting_r]
    simp only [if_true, eq_self, if_pos w]
    exact ⟨trivial, trivial, k, by have : (2 : Nat) ^ 31 = 2147483648 := rfl; omega, rfl, rfl⟩
  | succ n ih =>
    intro nv k fu hn hk hfu
    have hm1 : (n + 1) * (m + 2) = n * (m + 2) + (m + 2) := Nat.succ_mul n (m + 2)
    obtain ⟨g, rfl⟩ : ∃ g, fu = (g + m + 1) + 1 := ⟨fu - m - 2, by omega⟩
    have w : ¬ (30 : Int32) < Int32.ofNat nv := by rw [n_lt, n_of (by omega), n_30]; omega
    rw [v_X6_fitting_r, p_X6_fitting_r, v_X7_fitting_r, p_X7_fitting_r]
    simp only [if_true, eq_self, if_neg w]
    obtain ⟨g', t', h1, h2, h3, h4, h5⟩ := fit_inner (N := N) (g := g) (v4 := Int32.ofNat k) hR hc hs hS hm hl hT (show nv < 31 by omega) m 0 1 (by omega)
    obtain ⟨m1, m2, m3, m4⟩ := mask_more (k := k) (v := nv) (by omega) hk
    rw [m1, nat1 (by omega)] at h2 h3
    rw [m2, nat1 (by omega)] at h4 h5
    rw [show v_X6_fitting_r P N R (F s) (g + m + 1) 1 (Int32.ofNat m) c (Int32.ofNat k) (Int32.ofNat nv) 1 0 = _ from h2, show v_X7_fitting_r (g + m + 1) 1 M (Int32.ofNat s) (Int32.ofNat m) c (Int32.ofNat k) (Int32.ofNat nv) 1 0 = _ from h4]
    by_cases z : t' = 0
    · rw [if_pos z] at h3 h5
      rw [if_pos z]
      obtain ⟨j1, j2, j3⟩ := ih (nv + 1) k g' (by omega) (by omega) (by omega)
      exact ⟨h3 j1, h5 j2, j3⟩
    · rw [if_neg z] at h3 h5
      rw [if_neg z]
      obtain ⟨j1, j2, j3⟩ := ih (nv + 1) (k + 2 ^ nv) g' (by omega) m3 (by omega)
      exact ⟨h3 j1, h5 j2, j3⟩
theorem fit_ok (hR : RR P R M) {c : Int32} (hc : isC M.1 c) {s m : Nat} (hs : s < 8) (hS : RS1 (F s) M s) (hm : m ≤ 40) (hl : 2 * (m : Int) ≤ (M.2.1 18 s).toInt) (hT : ∀ j, j < m → TW M s j) : p_X6_fitting P N R (F s) (Int32.ofNat m) c ∧ p_X7_fitting M (Int32.ofNat s) (Int32.ofNat m) c ∧ ∃ k, k < 2147483648 ∧ v_X6_fitting P N R (F s) (Int32.ofNat m) c = Int32.ofNat k ∧ v_X7_fitting M (Int32.ofNat s) (Int32.ofNat m) c = (Int32.ofNat k, M) := fit_loop (N := N) hR hc hs hS hm hl hT 31 0 0 2000 (by omega) (by omega) (by omega)
theorem two_cases (h : RA P N R Q V F M) (x n c : Int32) : p_X6_twosRefusal N R F x n c ∧ p_X7_barsOfTwos M x n c ∧ ((∃ b : Int32, 1 ≤ b.toInt ∧ b.toInt ≤ 7 ∧ v_X6_twosRefusal N R F x n c = b ∧ v_X7_barsOfTwos M x n c = -b) ∨ ∃ s m : Nat, v_X6_twosRefusal N R F x n c = 0 ∧ v_X7_barsOfTwos M x n c = 0 ∧ v_X6_shelfAt N x = some s ∧ x = Int32.ofNat s ∧ s < 8 ∧ RS1 (F s) M s ∧ isC M.1 c ∧ n = Int32.ofNat m ∧ m ≤ 40 ∧ 2 * (m : Int) ≤ (M.2.1 18 s).toInt ∧ ∀ j, j < m → TW M s j) := by
  have ps := p_shelfAt N x
  have ph := p_has h.2.2.1 c
  have n1 := fun q : Prop => q
  unfold p_X6_twosRefusal p_X7_barsOfTwos v_X6_twosRefusal v_X7_barsOfTwos
  have pw := (day_cases h x n 0).2.1
  rcases ref_cases h x with ⟨a1, a2, a3, a4⟩ | ⟨a1, a2, a3, a4, hc⟩
  · rw [a1, if_pos a2, if_pos a2]
    exact ⟨⟨ps, trivial⟩, trivial, Or.inl ⟨1, by decide, by decide, rfl, rfl⟩⟩
  rw [a1, if_neg (show ¬ v_X7_isShelf M x = 0 by rw [a2]; decide), if_neg (show ¬ v_X7_isShelf M x = 0 by rw [a2]; decide)]
  by_cases z : isC M.1 c
  · obtain ⟨h1, h2, h7⟩ := hasne h z
    rw [if_neg h2, if_neg h2]
    simp only [oc_some, if_neg h1, kk_def]
    have bad : ∀ b : Int32, ¬ -b = 0 → p_X7_barsOfTwos_r M 200 x n (-b) 0 ∧ v_X7_barsOfTwos_r M 200 x n (-b) 0 = -b := fun b hb => by
      rw [p_X7_barsOfTwos_r, v_X7_barsOfTwos_r]
      by_cases q : n ≤ 0
      · rw [if_pos q, if_pos q]; exact ⟨trivial, rfl⟩
      · rw [if_neg q, if_neg q, if_neg hb, if_neg hb]; exact ⟨trivial, rfl⟩
    rcases hc with ⟨b1, b2, b3⟩ | ⟨b1, b2, b3⟩ | ⟨b1, b2, b3⟩
    · rw [b2, b3]
      obtain ⟨q1, q2⟩ := bad 3 (by decide)
      rw [if_neg (show ¬ (3 : Int32) = 0 by decide), if_neg (show ¬ (3 : Int32) = 0 by decide), if_neg (show ¬ (-3 : Int32) = 0 by decide), if_neg (show ¬ (-3 : Int32) = 0 by decide)]
      exact ⟨⟨ps, ph, ps, trivial⟩, ⟨pw, trivial, q1⟩, Or.inl ⟨3, by decide, by decide, rfl, q2⟩⟩
    · rw [b2, b3, if_pos n00, if_pos n00, if_pos n00, if_pos n00]
      generalize hs : x.toNatClampNeg = s at *
      have hx : x = Int32.ofNat s := by
        rw [← hs]
        refine n_back ?_
        rw [vp_iff] at a4
        omega
      have hlen := b1.2.2.2.2.1
      have e2 : (F s).1 2 = M.2.1 18 s := b1.2.2.2.1
      by_cases c1 : 0 ≤ n
      · simp only [if_pos c1]
        rw [n_le, n_0] at c1
        have sp := spans2 (S := F s) c1
        rw [e2] at sp
        have dv : (M.2.1 18 s / 2).toInt = (M.2.1 18 s).toInt / 2 := n_div hlen.1 (by decide)
        by_cases c2 : v_X5_spans (F s) 0 (2 * n.toInt64) = 0
        · have c3 := sp.mp c2
          have c4 : ¬ n ≤ M.2.1 18 s / 2 := by rw [n_le, dv]; omega
          simp only [if_pos c2, if_neg c4]
          obtain ⟨q1, q2⟩ := bad 5 (by decide)
          exact ⟨⟨ps, ph, ps, trivial⟩, ⟨pw, a4, q1⟩, Or.inl ⟨5, by decide, by decide, rfl, q2⟩⟩
        · have c3 : ¬ (M.2.1 18 s).toInt < 2 * n.toInt := fun q => c2 (sp.mpr q)
          have c4 : n ≤ M.2.1 18 s / 2 := by rw [n_le, dv]; omega
          simp only [if_neg c2, if_pos c4]
          by_cases c5 : n ≤ 40
          · simp only [if_pos c5]
            rw [n_le, n_40] at c5
            obtain ⟨m, hm, rfl⟩ : ∃ m : Nat, m ≤ 40 ∧ n = Int32.ofNat m := ⟨n.toNatClampNeg, by rw [n_tn]; omega, n_back c1⟩
            rw [n_of (by omega)] at c3
            subst hx
            obtain ⟨j1, j2, j3⟩ := twos_loop (N := N) (R := R) a3 b1 hm (by omega) 200 0 (by omega) (by omega) (fun j hj => absurd hj (by omega))
            refine ⟨⟨ps, ph, ps, j1⟩, ⟨pw, a4, j2⟩, ?_⟩
            rcases j3 with ⟨k1, k2⟩ | ⟨k1, k2, k3⟩
            · exact Or.inl ⟨6, by decide, by decide, k1, k2⟩
            · exact Or.inr ⟨s, m, k1, k2, rfl, rfl, a3, b1, z, rfl, hm, by omega, k3⟩
          · simp only [if_neg c5]
            obtain ⟨q1, q2⟩ := bad 6 (by decide)
            exact ⟨⟨ps, ph, ps, trivial⟩, ⟨pw, a4, q1⟩, Or.inl ⟨6, by decide, by decide, rfl, q2⟩⟩
      · simp only [if_neg c1]
        obtain ⟨q1, q2⟩ := bad 4 (by decide)
        exact ⟨⟨ps, ph, ps, trivial⟩, ⟨pw, trivial, q1⟩, Or.inl ⟨4, by decide, by decide, rfl, q2⟩⟩
    · rw [b2, b3]
      obtain ⟨q1, q2⟩ := bad 2 (by decide)
      rw [if_neg (show ¬ (2 : Int32) = 0 by decide), if_neg (show ¬ (2 : Int32) = 0 by decide), if_neg (show ¬ (-2 : Int32) = 0 by decide), if_neg (show ¬ (-2 : Int32) = 0 by decide)]
      exact ⟨⟨ps, ph, ps, trivial⟩, ⟨pw, trivial, q1⟩, Or.inl ⟨2, by decide, by decide, rfl, q2⟩⟩
  · obtain ⟨h1, h2⟩ := has0 h z
    rw [if_pos h2, if_pos h2, oc_some, oc_some, if_pos h1, if_pos h1]
    exact ⟨⟨ps, ph, trivial⟩, trivial, Or.inl ⟨1, by decide, by decide, rfl, rfl⟩⟩
theorem op_fits (h : RA P N R Q V F M) (x n c : Int32) : p_X6_fits P N R F x n c ∧ p_X7_fits M x n c ∧ (v_X6_fits P N R F x n c).1 = (v_X7_fits M x n c).1 ∧ RA P (v_X6_fits P N R F x n c).2 R Q V F (v_X7_fits M x n c).2 := by
  obtain ⟨p1, p2, hc⟩ := two_cases h x n c
  have ps := p_shelfAt N x
  unfold p_X6_fits p_X7_fits v_X6_fits v_X7_fits
  rw [kk_def]
  rcases hc with ⟨b, h1, h2, e1, e2⟩ | ⟨s, m, e1, e2, e3, rfl, hs, hS, hC, rfl, hm, hl, hT⟩
  · have hb : ¬ b = 0 := by rw [n_eq, n_0]; omega
    have hb2 : ¬ -b = 0 := by rw [n_eq, n_neg (by omega), n_0]; omega
    rw [e1, e2, if_neg hb2, if_neg hb2, if_neg hb2]
    have r := RA_refuse h h1 h2
    have pn := p_no (M := M) h1 h2
    rcases hq : v_X6_shelfAt N x with _ | s
    · rw [oc_none, oc_none, if_neg hb, if_neg hb, kk_def]
      exact ⟨⟨p1, ps, p_refuse N b⟩, ⟨p2, pn⟩, r⟩
    · rw [oc_some, oc_some, if_neg hb, if_neg hb, kk_def]
      exact ⟨⟨p1, ps, p_refuse N b⟩, ⟨p2, pn⟩, r⟩
  · rw [e1, e2, e3, oc_some, oc_some, if_pos n00, if_pos n00, if_pos n00, if_pos n00, if_pos n00]
    obtain ⟨j1, j2, k, j3, j4, j5⟩ := fit_ok (N := N) h.2.2.1 hC hs hS hm hl hT
    rw [j4, j5]
    exact ⟨⟨p1, ps, j1⟩, ⟨p2, j2⟩, rfl, h⟩
end
