/-! orders asked -/
section
variable {P : pT} {N : nT} {R Q : rT} {V : vT} {F : fT} {M : mT}
theorem day_cases (h : RA P N R Q V F M) (x n ws : Int32) : p_X6_dayRefusal N F x n ws ∧ p_X7_wanted M x ∧ ((∃ b : Int32, 1 ≤ b.toInt ∧ b.toInt ≤ 3 ∧ v_X6_dayRefusal N F x n ws = b ∧ v_X7_wanted M x = -b) ∨ ∃ s : Nat, v_X7_wanted M x = 0 ∧ v_X6_shelfAt N x = some s ∧ x = Int32.ofNat s ∧ s < 8 ∧ RS1 (F s) M s ∧ vp_in x 8 ∧ ((¬ 0 ≤ n ∧ v_X6_dayRefusal N F x n ws = 4) ∨ (0 ≤ n ∧ M.2.1 18 s < n ∧ v_X6_dayRefusal N F x n ws = 5) ∨ (0 ≤ n ∧ ¬ M.2.1 18 s < n ∧ ws = 0 ∧ v_X6_dayRefusal N F x n ws = 5) ∨ (0 ≤ n ∧ ¬ M.2.1 18 s < n ∧ ¬ ws = 0 ∧ ¬ n ≤ 7 ∧ v_X6_dayRefusal N F x n ws = 6) ∨ (0 ≤ n ∧ ¬ M.2.1 18 s < n ∧ ¬ ws = 0 ∧ n ≤ 7 ∧ v_X6_dayRefusal N F x n ws = 0))) := by
  have ps := p_shelfAt N x
  refine ⟨⟨ps, ps⟩, ?_, ?_⟩
  · unfold p_X7_wanted
    rcases shelf_cases N M x with ⟨e1, e2⟩ | ⟨e1, e2, e3, e4⟩
    · rw [if_pos e2]; trivial
    · rw [if_neg (by rw [e2]; decide)]
      refine ⟨e4, ?_⟩
      by_cases z : M.2.1 16 x.toNatClampNeg = 2
      · rw [if_pos z]; trivial
      · rw [if_neg z]; exact e4
  · unfold v_X6_dayRefusal
    rcases ref_cases h x with ⟨a1, a2, a3, a4⟩ | ⟨a1, a2, a3, a4, hc⟩
    · rw [a1, a3]
      exact Or.inl ⟨1, by decide, by decide, by rw [oc_none]; exact if_neg (by decide), a4⟩
    rcases hc with ⟨b1, b2, b3⟩ | ⟨b1, b2, b3⟩ | ⟨b1, b2, b3⟩
    · rw [a1, b2]
      exact Or.inl ⟨3, by decide, by decide, by rw [oc_some]; exact if_neg (by decide), b3⟩
    · rw [a1, b2, oc_some, if_pos n00]
      generalize hs : x.toNatClampNeg = s at *
      have hx : x = Int32.ofNat s := by
        rw [← hs]
        refine n_back ?_
        rw [vp_iff] at a4
        omega
      refine Or.inr ⟨s, b3, rfl, hx, a3, b1, a4, ?_⟩
      rw [b1.2.2.2.1]
      by_cases c1 : 0 ≤ n
      · rw [if_pos c1]
        by_cases c2 : M.2.1 18 s < n
        · rw [if_pos c2]; exact Or.inr (Or.inl ⟨c1, c2, rfl⟩)
        · rw [if_neg c2]
          by_cases c3 : ws = 0
          · rw [if_pos c3]; exact Or.inr (Or.inr (Or.inl ⟨c1, c2, c3, rfl⟩))
          · rw [if_neg c3]
            by_cases c4 : n ≤ 7
            · rw [if_pos c4]; exact Or.inr (Or.inr (Or.inr (Or.inr ⟨c1, c2, c3, c4, rfl⟩)))
            · rw [if_neg c4]; exact Or.inr (Or.inr (Or.inr (Or.inl ⟨c1, c2, c3, c4, rfl⟩)))
      · rw [if_neg c1]; exact Or.inl ⟨c1, rfl⟩
    · rw [a1, b2]
      exact Or.inl ⟨2, by decide, by decide, by rw [oc_some]; exact if_neg (by decide), b3⟩
theorem order_ref {O : oT} {x n w b : Int32} (h : v_X6_dayRefusal N F x n (v_X6_within w 0 5) = b) (hb : ¬ b = 0) (hp : p_X6_dayRefusal N F x n (v_X6_within w 0 5)) : p_X6_order P N R O F x n w ∧ v_X6_order P N R O F x n w = ((v_X6_refuse N b).1, (v_X6_refuse N b).2, O) := by
  have ps := p_shelfAt N x
  unfold p_X6_order v_X6_order
  rw [h, if_neg hb, if_neg hb, kk_def]
  rcases hq : v_X6_shelfAt N x with _ | s
  · exact ⟨⟨hp, ps, by rw [oc_none]; exact p_refuse N b⟩, rfl⟩
  · rw [oc_some, oc_some, if_neg hb, if_neg hb]
    exact ⟨⟨hp, ps, p_refuse N b⟩, rfl⟩
theorem RA_day {M1 : mT} {b : Int32} (h : RA P N R Q V F M) (e : MEQ M M1) (h1 : 1 ≤ b.toInt) (h2 : b.toInt ≤ 7) : (v_X6_refuse N b).1 = (v_X7_no M1 (-b)).1 ∧ RA P (v_X6_refuse N b).2 R Q V F (v_X7_no M1 (-b)).2 := RA_refuse (RA_congr e h) h1 h2
/-- the answers of an order, once it is played -/
theorem ord_ok {f : Nat → Nat} {n : Nat} {O : oT} {M1 : mT} (h : RA P N R Q V F M) (e : MEQ M M1) (hR : RR P R M1) (hL : LN f n O M1) (w : Int32) : p_X2_play P O R 0 ∧ pORD M1 (Int32.ofNat n) w ∧ ∃ O', v_X2_play P O R 0 = O' ∧ RA P N R Q V F (ORD M1 (Int32.ofNat n) w).2 ∧ ∀ A : Int32, (w = 0 → A = v_J6_bitCount_0f7a4 (O'.1 4)) → (w = 1 → A = v_J6_bitCount_0f7a4 (O'.1 5)) → (w = 2 → A = v_J6_bitCount_0f7a4 (O'.1 6)) → (w = 3 → A = v_X2_paid O' R) → (w = 4 → A = O'.1 5) → (w = 5 → A = O'.1 6) → (0 ≤ w.toInt ∧ w.toInt ≤ 5) → A = (ORD M1 (Int32.ofNat n) w).1 := by
  have h36 : M1.1 36 = Int32.ofNat 0 := (e.1 36 (by decide)).trans h.2.2.2.2.2.1
  obtain ⟨j1, j2, O', M', j3, j4, j5, j6, j7⟩ := play_ok (P := P) (R := R) (k := 0) (by decide) hL hR h36
  have q : MEQ M M' := e.tr j6.q
  have hA := RA_congr q h
  have e7 : R.1 7 = M'.1 3 := hA.2.2.1.1.2.2.2.1
  have h33 : ∀ j, j < n → M'.2.1 33 j = Int32.ofNat (f j) := fun j hj => by rw [j6.2.1 33 (by decide)]; exact hL.2.2.2.1 j hj
  have so : ∀ hh, p_X7_setOf M' (Int32.ofNat n) hh ∧ v_X7_setOf M' (Int32.ofNat n) hh = Int32.ofNat (ksum f (M'.2.1 34) hh n) := fun hh => setof_ok hL.1 hL.2.2.2.2.1 h33
  have bc : ∀ hh, v_J6_bitCount_0f7a4 (Int32.ofNat (ksum f (M'.2.1 34) hh n)) = Int32.ofNat (kcnt (M'.2.1 34) hh n) := fun hh => (ksum_ok n hL.1 hL.2.2.2.2.1).2.1
  obtain ⟨⟨a0, a1, a2⟩, ⟨b0, b1, b2⟩, -⟩ := j7
  refine ⟨j1, ⟨j2, ?_⟩, O', j3, ?_, fun A w0 w1 w2 w3 w4 w5 hw => ?_⟩
  · rw [kk_def, j4]
    split
    · trivial
    · split
      · trivial
      · split
        · trivial
        · split
          · trivial
          · exact (so _).1
  · unfold ORD
    rw [kk_def, j4]
    split
    · exact hA
    · split
      · exact hA
      · split
        · exact hA
        · split
          · exact hA
          · exact hA
  · unfold ORD
    rw [kk_def, j4]
    by_cases c0 : w = 0
    · rw [if_pos c0, w0 c0, a0, bc]; exact b0.symm
    rw [if_neg c0]
    by_cases c1 : w = 1
    · rw [if_pos c1, w1 c1, a1, bc]; exact b1.symm
    rw [if_neg c1]
    by_cases c2 : w = 2
    · rw [if_pos c2, w2 c2, a2, bc]; exact b2.symm
    rw [if_neg c2]
    by_cases c3 : w = 3
    · rw [if_pos c3, w3 c3]
      show v_X2_paid O' R = M'.1 38 * M'.1 3
      unfold v_X2_paid
      rw [a1, bc, b1, e7, Int32.mul_comm]
    rw [if_neg c3]
    show A = v_X7_setOf M' (Int32.ofNat n) (w - 3)
    rw [(so _).2]
    rcases (show w.toInt = 4 ∨ w.toInt = 5 by
      rw [n_eq, n_0] at c0
      rw [n_eq, n_1] at c1
      rw [n_eq, n_2] at c2
      rw [n_eq, n_3] at c3
      omega) with e | e
    · have c4 : w = 4 := by rw [n_eq, e]; rfl
      rw [w4 c4, c4]; exact a1
    · have c5 : w = 5 := by rw [n_eq, e]; rfl
      rw [w5 c5, c5]; exact a2
theorem op_order (h : RA P N R Q V F M) (O : oT) (x n w : Int32) : p_X6_order P N R O F x n w ∧ p_X7_order M x n w ∧ (v_X6_order P N R O F x n w).1 = (v_X7_order M x n w).1 ∧ RA P (v_X6_order P N R O F x n w).2.1 R Q V F (v_X7_order M x n w).2 := by
  obtain ⟨hp, pw, hc⟩ := day_cases h x n (v_X6_within w 0 5)
  have bad : ∀ b : Int32, 1 ≤ b.toInt → b.toInt ≤ 7 → v_X6_dayRefusal N F x n (v_X6_within w 0 5) = b → p_X7_order_r 200 M x n w (-b) 0 0 ∧ p_X6_order P N R O F x n w ∧ (v_X6_order P N R O F x n w).1 = (v_X7_order_r 200 M x n w (-b) 0 0).1 ∧ RA P (v_X6_order P N R O F x n w).2.1 R Q V F (v_X7_order_r 200 M x n w (-b) 0 0).2 := fun b h1 h2 e => by
    have hb : ¬ b = 0 := by rw [n_eq, n_0]; omega
    obtain ⟨q1, q2⟩ := order_ref (P := P) (R := R) (O := O) e hb hp
    obtain ⟨r1, r2⟩ := ord_bad (n := 199) (M := M) (v1 := x) (v2 := n) (v3 := w) (v5 := 0) (v6 := 0) h1 h2
    rw [q2, r2]
    exact ⟨r1, q1, RA_refuse h h1 h2⟩
  unfold p_X7_order v_X7_order
  rw [kk_def, kk_def]
  rcases hc with ⟨b, h1, h2, e1, e2⟩ | ⟨s, e0, e1, hx, hs, hS, vx, hc⟩
  · have hb : ¬ -b = 0 := by rw [n_eq, n_neg (by omega), n_0]; omega
    rw [e2, if_neg hb, if_neg hb]
    obtain ⟨q1, q2, q3⟩ := bad b h1 (by omega) e1
    exact ⟨q2, ⟨pw, trivial, q1⟩, q3⟩
  have exs : x.toNatClampNeg = s := by rw [hx]; exact tn_of (by omega)
  rw [e0, if_pos n00, if_pos n00, exs]
  rcases hc with ⟨c1, e⟩ | ⟨c1, c2, e⟩ | ⟨c1, c2, c3, e⟩ | ⟨c1, c2, c3, c4, e⟩ | ⟨c1, c2, c3, c4, e⟩
  · rw [if_neg c1, if_neg c1]
    obtain ⟨q1, q2, q3⟩ := bad 4 (by decide) (by decide) e
    exact ⟨q2, ⟨pw, trivial, q1⟩, q3⟩
  · rw [if_pos c1, if_pos c1, if_pos c2]
    obtain ⟨q1, q2, q3⟩ := bad 5 (by decide) (by decide) e
    exact ⟨q2, ⟨pw, vx, q1⟩, q3⟩
  · rw [if_pos c1, if_pos c1, if_neg c2]
    obtain ⟨q1, q2, q3⟩ := bad 5 (by decide) (by decide) e
    rw [within_iff, n_0, n_5] at c3
    by_cases k : w < 0
    · rw [if_pos k]
      exact ⟨q2, ⟨pw, vx, q1⟩, q3⟩
    · have k2 : ¬ w ≤ 5 := by rw [n_lt, n_0] at k; rw [n_le, n_5]; omega
      rw [if_neg k, if_neg k2]
      exact ⟨q2, ⟨pw, vx, q1⟩, q3⟩
  · have c5 := wneg c3
    rw [n_0, n_5] at c5
    have k : ¬ w < 0 := by rw [n_lt, n_0]; omega
    have k2 : w ≤ 5 := by rw [n_le, n_5]; omega
    rw [if_pos c1, if_pos c1, if_neg c2, if_neg k, if_pos k2, if_neg c4]
    obtain ⟨q1, q2, q3⟩ := bad 6 (by decide) (by decide) e
    exact ⟨q2, ⟨pw, vx, q1⟩, q3⟩
  · have c5 := wneg c3
    rw [n_0, n_5] at c5
    have k : ¬ w < 0 := by rw [n_lt, n_0]; omega
    have k2 : w ≤ 5 := by rw [n_le, n_5]; omega
    rw [if_pos c1, if_pos c1, if_neg c2, if_neg k, if_pos k2, if_pos c4]
    clear bad
    rw [n_le, n_0] at c1
    rw [n_lt] at c2
    rw [n_le, n_7] at c4
    obtain ⟨m, hm, rfl⟩ : ∃ m : Nat, m ≤ 7 ∧ n = Int32.ofNat m := ⟨n.toNatClampNeg, by rw [n_tn]; omega, n_back c1⟩
    rw [n_of (by omega)] at c2
    unfold p_X6_order v_X6_order
    rw [e, e1, oc_some, oc_some, if_pos n00, if_pos n00, kk_def, kk_def]
    unfold p_X2_readFrom v_X2_readFrom
    rw [if_neg (show ¬ (7 : Int32) < Int32.ofNat m by rw [n_lt, n_of (by omega), n_7]; omega), hx]
    obtain ⟨j1, r, O', M', j2, j3, j4, j5⟩ := order_loop (P := P) (R := R) (S := F s) (w := w) hs hm 200 0 (fun _ => 0) (osf O 3 (Int32.ofNat m)) M (by omega) (by omega) h.2.2.1 hS (by omega) osf_at (fun j hj => absurd hj (by omega)) (fun j hj => absurd hj (by omega)) ⟨fun i hi => absurd hi (by omega), fun i j hi => absurd hi (by omega)⟩ (fun j hj => absurd hj (by omega))
    rw [show v_X2_readFrom_r R (F s) 200 (osf O 3 (Int32.ofNat m)) 0 0 = (r, O') from j2]
    have ps := p_shelfAt N x
    subst hx
    rcases j5 with ⟨r0, q1, q2⟩ | ⟨r1, ⟨f', hL⟩, q2, q3⟩
    · subst r0
      rw [if_pos n00, if_pos n00, kk_def]
      rw [show v_X7_order_r 200 M (Int32.ofNat s) (Int32.ofNat m) w 0 0 0 = v_X7_no M' (-6) from q2]
      exact ⟨⟨hp, ps, j1, p_refuse N 6⟩, ⟨pw, vx, q1⟩, RA_day h j4.q (by decide) (by decide)⟩
    · subst r1
      obtain ⟨g1, g2, O2, g3, g4, g5⟩ := ord_ok h j4.q (RR_cl j4 h.2.2.1) hL w
      rw [if_neg n10, if_neg n10, kk_def]
      rw [show v_X7_order_r 200 M (Int32.ofNat s) (Int32.ofNat m) w 0 0 0 = ORD M' (Int32.ofNat m) w from q3, g3]
      refine ⟨⟨hp, ps, j1, g1⟩, ⟨pw, vx, q2 g2⟩, ?_⟩
      by_cases w0 : w = 0
      · rw [if_pos w0]
        exact ⟨g5 _ (fun _ => rfl) (fun q => absurd (w0.symm.trans q) (by decide)) (fun q => absurd (w0.symm.trans q) (by decide)) (fun q => absurd (w0.symm.trans q) (by decide)) (fun q => absurd (w0.symm.trans q) (by decide)) (fun q => absurd (w0.symm.trans q) (by decide)) c5, g4⟩
      rw [if_neg w0]
      by_cases w1 : w = 1
      · rw [if_pos w1]
        exact ⟨g5 _ (fun q => absurd q w0) (fun _ => rfl) (fun q => absurd (w1.symm.trans q) (by decide)) (fun q => absurd (w1.symm.trans q) (by decide)) (fun q => absurd (w1.symm.trans q) (by decide)) (fun q => absurd (w1.symm.trans q) (by decide)) c5, g4⟩
      rw [if_neg w1]
      by_cases w2 : w = 2
      · rw [if_pos w2]
        exact ⟨g5 _ (fun q => absurd q w0) (fun q => absurd q w1) (fun _ => rfl) (fun q => absurd (w2.symm.trans q) (by decide)) (fun q => absurd (w2.symm.trans q) (by decide)) (fun q => absurd (w2.symm.trans q) (by decide)) c5, g4⟩
      rw [if_neg w2]
      by_cases w3 : w = 3
      · rw [if_pos w3]
        exact ⟨g5 _ (fun q => absurd q w0) (fun q => absurd q w1) (fun q => absurd q w2) (fun _ => rfl) (fun q => absurd (w3.symm.trans q) (by decide)) (fun q => absurd (w3.symm.trans q) (by decide)) c5, g4⟩
      rw [if_neg w3]
      by_cases w4 : w = 4
      · rw [if_pos w4]
        exact ⟨g5 _ (fun q => absurd q w0) (fun q => absurd q w1) (fun q => absurd q w2) (fun q => absurd q w3) (fun _ => rfl) (fun q => absurd (w4.symm.trans q) (by decide)) c5, g4⟩
      rw [if_neg w4]
      exact ⟨g5 _ (fun q => absurd q w0) (fun q => absurd q w1) (fun q => absurd q w2) (fun q => absurd q w3) (fun q => absurd q w4) (fun _ => rfl) c5, g4⟩
end
