/-! told days judged -/
section
variable {P : pT} {N : nT} {R Q : rT} {V : vT} {F : fT} {M : mT}
theorem wrong_ok {s m : Nat} {O : oT} (h : RA P N R Q V F M) (hs : s < 8) (hS : RS1 (F s) M s) (hm : m ≤ 7) (hl : (m : Int) ≤ (M.2.1 18 s).toInt) : p_X2_wrongIn P O R (F s) (Int32.ofNat m) ∧ p_X7_wrongIn M (Int32.ofNat s) (Int32.ofNat m) ∧ ∃ (r : Int32) (O' : oT) (M' : mT), v_X2_wrongIn P O R (F s) (Int32.ofNat m) = (r, O') ∧ v_X7_wrongIn M (Int32.ofNat s) (Int32.ofNat m) = (r, M') ∧ CW M M' ∧ (¬ r = -1 ∨ (r = -1 ∧ ∃ f', DS f' m O' M')) := by
  have cM : CM M (msf (msf (msf M 37 0) 38 0) 39 0) := ((CM.f 0 (by omega)).tr (CM.f 0 (by omega))).tr (CM.f 0 (by omega))
  have hD : DS (fun _ => 0) 0 (v_X2_begin O) (msf (msf (msf M 37 0) 38 0) 39 0) := ⟨⟨⟨rfl, rfl, rfl⟩, ⟨rfl, rfl, rfl⟩⟩, fun j hj => absurd hj (by omega), ⟨fun j hj => absurd hj (by omega), fun a b ha => absurd ha (by omega)⟩, fun j hj => absurd hj (by omega), fun j hj => absurd hj (by omega), fun j hj => absurd hj (by omega)⟩
  obtain ⟨j1, j2, r, O', M', j3, j4, j5, j6⟩ := wrong_loop (P := P) (R := R) (S := F s) hs hm 200 0 (fun _ => 0) (v_X2_begin O) (msf (msf (msf M 37 0) 38 0) 39 0) (by omega) (by omega) (RR_cm cM h.2.2.1) (RS1_w cM.w hS) (by rw [cM.2.1 18 (by decide)]; exact hl) ((cM.1 36 (by decide) (by decide) (by decide)).trans h.2.2.2.2.2.1) hD
  unfold p_X2_wrongIn p_X7_wrongIn v_X2_wrongIn v_X7_wrongIn
  rw [kk_def, kk_def]
  exact ⟨j1, j2, r, O', M', j3, j4, cM.w.tr j5, j6⟩
theorem day_1 (h : RA P N R Q V F M) (x n : Int32) : p_X6_dayRefusal N F x n 1 ∧ p_X7_barsOfDay M x n ∧ ((∃ b : Int32, 1 ≤ b.toInt ∧ b.toInt ≤ 7 ∧ v_X6_dayRefusal N F x n 1 = b ∧ v_X7_barsOfDay M x n = -b) ∨ ∃ s m : Nat, v_X6_dayRefusal N F x n 1 = 0 ∧ v_X7_barsOfDay M x n = 0 ∧ v_X6_shelfAt N x = some s ∧ x = Int32.ofNat s ∧ s < 8 ∧ RS1 (F s) M s ∧ n = Int32.ofNat m ∧ m ≤ 7 ∧ (m : Int) ≤ (M.2.1 18 s).toInt) := by
  obtain ⟨hp, pw, hc⟩ := day_cases h x n 1
  unfold p_X7_barsOfDay v_X7_barsOfDay
  rcases hc with ⟨b, h1, h2, e1, e2⟩ | ⟨s, e0, e1, hx, hs, hS, vx, hc⟩
  · have hb : ¬ -b = 0 := by rw [n_eq, n_neg (by omega), n_0]; omega
    rw [e2, if_neg hb, if_neg hb]
    exact ⟨hp, ⟨pw, trivial⟩, Or.inl ⟨b, h1, by omega, e1, rfl⟩⟩
  have exs : x.toNatClampNeg = s := by rw [hx]; exact tn_of (by omega)
  rw [e0, if_pos n00, if_pos n00, exs]
  rcases hc with ⟨c1, e⟩ | ⟨c1, c2, e⟩ | ⟨c1, c2, c3, e⟩ | ⟨c1, c2, c3, c4, e⟩ | ⟨c1, c2, c3, c4, e⟩
  · rw [if_neg c1, if_neg c1]
    exact ⟨hp, ⟨pw, trivial⟩, Or.inl ⟨4, by decide, by decide, e, rfl⟩⟩
  · have c5 : ¬ n ≤ M.2.1 18 s := by rw [n_le]; rw [n_lt] at c2; omega
    rw [if_pos c1, if_pos c1, if_neg c5]
    exact ⟨hp, ⟨pw, vx⟩, Or.inl ⟨5, by decide, by decide, e, rfl⟩⟩
  · exact absurd c3 n10
  · have c5 : n ≤ M.2.1 18 s := by rw [n_le]; rw [n_lt] at c2; omega
    rw [if_pos c1, if_pos c1, if_pos c5, if_neg c4]
    exact ⟨hp, ⟨pw, vx⟩, Or.inl ⟨6, by decide, by decide, e, rfl⟩⟩
  · have c5 : n ≤ M.2.1 18 s := by rw [n_le]; rw [n_lt] at c2; omega
    rw [if_pos c1, if_pos c1, if_pos c5, if_pos c4]
    rw [n_le, n_0] at c1
    rw [n_le, n_7] at c4
    rw [n_le] at c5
    obtain ⟨m, hm, rfl⟩ : ∃ m : Nat, m ≤ 7 ∧ n = Int32.ofNat m := ⟨n.toNatClampNeg, by rw [n_tn]; omega, n_back c1⟩
    rw [n_of (by omega)] at c5
    exact ⟨hp, ⟨pw, vx⟩, Or.inr ⟨s, m, e, rfl, e1, hx, hs, hS, rfl, hm, c5⟩⟩
theorem op_judge (h : RA P N R Q V F M) (O : oT) (x n : Int32) : p_X6_judge P N R O F x n ∧ p_X7_judge M x n ∧ (v_X6_judge P N R O F x n).1 = (v_X7_judge M x n).1 ∧ RA P (v_X6_judge P N R O F x n).2.1 R Q V F (v_X7_judge M x n).2 := by
  obtain ⟨p1, p2, hc⟩ := day_1 h x n
  have ps := p_shelfAt N x
  unfold p_X6_judge p_X7_judge v_X6_judge v_X7_judge
  rw [kk_def]
  rcases hc with ⟨b, h1, h2, e1, e2⟩ | ⟨s, m, e1, e2, e3, rfl, hs, hS, rfl, hm, hl⟩
  · have hb : ¬ b = 0 := by rw [n_eq, n_0]; omega
    have hb2 : ¬ -b = 0 := by rw [n_eq, n_neg (by omega), n_0]; omega
    rw [e1, e2, if_neg hb2, if_neg hb2, if_neg hb2]
    have r := RA_ten h h1 h2
    have pn := p_noTen (M := M) h1 h2
    rcases hq : v_X6_shelfAt N x with _ | s
    · rw [oc_none, oc_none, if_neg hb, if_neg hb, kk_def]
      exact ⟨⟨p1, ps, p_refuse N b⟩, ⟨p2, pn⟩, r⟩
    · rw [oc_some, oc_some, if_neg hb, if_neg hb, kk_def]
      exact ⟨⟨p1, ps, p_refuse N b⟩, ⟨p2, pn⟩, r⟩
  · rw [e1, e2, e3, oc_some, oc_some, if_pos n00, if_pos n00, if_pos n00, if_pos n00, if_pos n00]
    obtain ⟨j1, j2, r, O', M', j3, j4, j5, -⟩ := wrong_ok (O := O) h hs hS hm hl
    rw [j3, j4, kk_def]
    exact ⟨⟨p1, ps, j1⟩, ⟨p2, j2⟩, rfl, RA_congr j5.q h⟩
theorem op_behind (h : RA P N R Q V F M) (O : oT) (x n w : Int32) : p_X6_behind P N R O F x n w ∧ p_X7_behind M x n w ∧ (v_X6_behind P N R O F x n w).1 = (v_X7_behind M x n w).1 ∧ RA P (v_X6_behind P N R O F x n w).2.1 R Q V F (v_X7_behind M x n w).2 := by
  obtain ⟨hp, pw, hc⟩ := day_cases h x n (v_X6_within w 0 2)
  obtain ⟨-, p2, -⟩ := day_1 h x n
  have ps := p_shelfAt N x
  have bad : ∀ b : Int32, 1 ≤ b.toInt → b.toInt ≤ 7 → v_X6_dayRefusal N F x n (v_X6_within w 0 2) = b → (if v_X7_barsOfDay M x n = 0 then (if w < 0 then (-5) else (if w ≤ 2 then (v_X7_barsOfDay M x n) else (-5))) else (if v_X7_barsOfDay M x n = (-6) then (if w < 0 then (-5) else (if w ≤ 2 then (v_X7_barsOfDay M x n) else (-5))) else v_X7_barsOfDay M x n)) = -b → p_X6_behind P N R O F x n w ∧ p_X7_behind M x n w ∧ (v_X6_behind P N R O F x n w).1 = (v_X7_behind M x n w).1 ∧ RA P (v_X6_behind P N R O F x n w).2.1 R Q V F (v_X7_behind M x n w).2 := fun b h1 h2 e1 e2 => by
    have hb : ¬ b = 0 := by rw [n_eq, n_0]; omega
    have hb2 : ¬ -b = 0 := by rw [n_eq, n_neg (by omega), n_0]; omega
    unfold p_X6_behind p_X7_behind v_X6_behind v_X7_behind
    simp only [kk_def]
    rw [e1, e2, if_neg hb2, if_neg hb2, if_neg hb2, if_neg hb2, if_neg hb2]
    have r := RA_refuse h h1 h2
    have pn := p_no (M := M) h1 h2
    rcases hq : v_X6_shelfAt N x with _ | s
    · rw [oc_none, oc_none, if_neg hb, if_neg hb]
      exact ⟨⟨hp, ps, p_refuse N b⟩, ⟨p2, trivial, pn⟩, r⟩
    · rw [oc_some, oc_some, if_neg hb, if_neg hb]
      exact ⟨⟨hp, ps, p_refuse N b⟩, ⟨p2, trivial, pn⟩, r⟩
  have n2 : (2 : Int32).toInt = 2 := rfl
  rcases hc with ⟨b, h1, h2, e1, e2⟩ | ⟨s, e0, e1, hx, hs, hS, vx, hc⟩
  · have hb : ¬ -b = 0 := by rw [n_eq, n_neg (by omega), n_0]; omega
    have hb6 : ¬ -b = -6 := by rw [n_eq, n_neg (by omega), show (-6 : Int32).toInt = -6 from rfl]; omega
    have ed : v_X7_barsOfDay M x n = -b := by unfold v_X7_barsOfDay; rw [e2, if_neg hb]
    exact bad b h1 (by omega) e1 (by rw [ed, if_neg hb, if_neg hb6])
  have exs : x.toNatClampNeg = s := by rw [hx]; exact tn_of (by omega)
  rcases hc with ⟨c1, e⟩ | ⟨c1, c2, e⟩ | ⟨c1, c2, c3, e⟩ | ⟨c1, c2, c3, c4, e⟩ | ⟨c1, c2, c3, c4, e⟩
  · have ed : v_X7_barsOfDay M x n = -4 := by unfold v_X7_barsOfDay; rw [e0, if_pos n00, if_neg c1]
    exact bad 4 (by decide) (by decide) e (by rw [ed, if_neg (by decide), if_neg (by decide)])
  · have c5 : ¬ n ≤ M.2.1 18 s := by rw [n_le]; rw [n_lt] at c2; omega
    have ed : v_X7_barsOfDay M x n = -5 := by unfold v_X7_barsOfDay; rw [e0, if_pos n00, if_pos c1, exs, if_neg c5]
    exact bad 5 (by decide) (by decide) e (by rw [ed, if_neg (by decide), if_neg (by decide)])
  · have c5 : n ≤ M.2.1 18 s := by rw [n_le]; rw [n_lt] at c2; omega
    rw [within_iff, n_0, n_2] at c3
    have e5 : ∀ y : Int32, (if w < 0 then (-5) else (if w ≤ 2 then y else (-5))) = (-5 : Int32) := fun y => by
      by_cases k : w < 0
      · rw [if_pos k]
      · have k2 : ¬ w ≤ 2 := by rw [n_lt, n_0] at k; rw [n_le, n_2]; omega
        rw [if_neg k, if_neg k2]
    refine bad 5 (by decide) (by decide) e ?_
    rw [e5]
    by_cases c4 : n ≤ 7
    · have ed : v_X7_barsOfDay M x n = 0 := by unfold v_X7_barsOfDay; rw [e0, if_pos n00, if_pos c1, exs, if_pos c5, if_pos c4]
      rw [ed, if_pos n00]
    · have ed : v_X7_barsOfDay M x n = -6 := by unfold v_X7_barsOfDay; rw [e0, if_pos n00, if_pos c1, exs, if_pos c5, if_neg c4]
      rw [ed, if_neg (by decide), if_pos rfl]
  · have c5 : n ≤ M.2.1 18 s := by rw [n_le]; rw [n_lt] at c2; omega
    have hb := wneg c3
    rw [n_0, n_2] at hb
    have k : ¬ w < 0 := by rw [n_lt, n_0]; omega
    have k2 : w ≤ 2 := by rw [n_le, n_2]; omega
    have ed : v_X7_barsOfDay M x n = -6 := by unfold v_X7_barsOfDay; rw [e0, if_pos n00, if_pos c1, exs, if_pos c5, if_neg c4]
    exact bad 6 (by decide) (by decide) e (by rw [ed, if_neg (by decide), if_pos rfl, if_neg k, if_pos k2])
  · have c5 : n ≤ M.2.1 18 s := by rw [n_le]; rw [n_lt] at c2; omega
    have hb := wneg c3
    rw [n_0, n_2] at hb
    have k : ¬ w < 0 := by rw [n_lt, n_0]; omega
    have k2 : w ≤ 2 := by rw [n_le, n_2]; omega
    have ed : v_X7_barsOfDay M x n = 0 := by unfold v_X7_barsOfDay; rw [e0, if_pos n00, if_pos c1, exs, if_pos c5, if_pos c4]
    clear bad
    rw [n_le, n_0] at c1
    rw [n_le, n_7] at c4
    rw [n_le] at c5
    obtain ⟨m, hm, rfl⟩ : ∃ m : Nat, m ≤ 7 ∧ n = Int32.ofNat m := ⟨n.toNatClampNeg, by rw [n_tn]; omega, n_back c1⟩
    rw [n_of (by omega)] at c5
    subst hx
    obtain ⟨j1, j2, r, O', M', j3, j4, j5, j6⟩ := wrong_ok (O := O) h hs hS hm c5
    have hA := RA_congr j5.q h
    unfold p_X6_behind p_X7_behind v_X6_behind v_X7_behind
    simp only [kk_def]
    rw [e, e1, ed, oc_some, oc_some, if_pos n00, if_pos n00, if_pos n00, if_neg k, if_pos k2, if_pos n00, if_pos n00, if_pos n00, j3, j4]
    dsimp only
    rcases j6 with hr | ⟨hr, f', hD⟩
    · rw [if_neg hr, if_neg hr, if_neg hr, if_neg (show ¬ (-6 : Int32) = 0 by decide), if_neg (show ¬ (-6 : Int32) = 0 by decide)]
      have r6 := RA_refuse hA (b := 6) (by decide) (by decide)
      exact ⟨⟨hp, ps, j1, p_refuse N 6⟩, ⟨p2, j2, p_no (b := 6) (by decide) (by decide)⟩, r6⟩
    · subst hr
      simp only [if_true, eq_self]
      refine ⟨⟨hp, ps, j1, trivial⟩, ⟨p2, j2, trivial⟩, ?_⟩
      obtain ⟨⟨⟨a0, a1, a2⟩, ⟨b0, b1, b2⟩⟩, -, hd, -⟩ := hD
      have bc : ∀ hh, v_J6_bitCount_0f7a4 (Int32.ofNat (ksum f' (M'.2.1 34) hh m)) = Int32.ofNat (kcnt (M'.2.1 34) hh m) := fun hh => (ksum_ok m hm hd).2.1
      have e7 : R.1 7 = M'.1 3 := hA.2.2.1.1.2.2.2.1
      by_cases w0 : w = 0
      · rw [if_pos w0, if_pos w0]
        refine ⟨?_, hA⟩
        show v_X2_paid O' R = M'.1 38 * M'.1 3
        unfold v_X2_paid
        rw [a1, bc, b1, e7, Int32.mul_comm]
      · rw [if_neg w0, if_neg w0]
        by_cases w1 : w = 1
        · rw [if_pos w1, if_pos w1]
          refine ⟨?_, hA⟩
          rw [a0, bc]; exact b0.symm
        · rw [if_neg w1, if_neg w1]
          refine ⟨?_, hA⟩
          rw [a2, bc]; exact b2.symm
end
