/-! days by draws -/
theorem nb_int {x : Int32} (h : nb32 x < 2147483648) : x.toInt = (nb32 x : Int) := by
  have e : x = Int32.ofNat (nb32 x) := nb_inj (nb_of (by omega)).symm
  rw [e, n_of h, ← e]
theorem draw_b (s : Int32) : 0 ≤ ((s.toUInt32 >>> (((16) : Int32).toUInt32 &&& Int32.toUInt32 31)).toInt32 - (s.toUInt32 >>> (((16) : Int32).toUInt32 &&& Int32.toUInt32 31)).toInt32 / 10 * 10).toInt ∧ ((s.toUInt32 >>> (((16) : Int32).toUInt32 &&& Int32.toUInt32 31)).toInt32 - (s.toUInt32 >>> (((16) : Int32).toUInt32 &&& Int32.toUInt32 31)).toInt32 / 10 * 10).toInt ≤ 9 := by
  have h1 : nb32 ((s.toUInt32 >>> (((16) : Int32).toUInt32 &&& Int32.toUInt32 31)).toInt32) = nb32 s / 2 ^ 16 := nb_shr s 16 (by decide)
  have h2 : nb32 s < 4294967296 := s.toBitVec.isLt
  generalize (s.toUInt32 >>> (((16) : Int32).toUInt32 &&& Int32.toUInt32 31)).toInt32 = y at *
  have h3 : (2 : Nat) ^ 16 = 65536 := rfl
  rw [h3] at h1
  have h4 := nb_int (x := y) (by omega)
  have h5 : (y / 10).toInt = y.toInt / 10 := n_div (by omega) (by decide)
  have h6 : (y / 10 * 10).toInt = y.toInt / 10 * 10 := by rw [n_mul (by rw [h5, n_10]; omega) (by rw [h5, n_10]; omega), h5, n_10]
  rw [n_sub (by rw [h6]; omega) (by rw [h6]; omega), h6]
  omega
def CD (M M' : mT) : Prop := (∀ i, i ≠ 2 → i ≠ 5 → i ≠ 6 → i ≠ 37 → i ≠ 38 → i ≠ 39 → M'.1 i = M.1 i) ∧ (∀ j, j ≠ 11 → j ≠ 14 → j ≠ 15 → j ≠ 33 → j ≠ 34 → M'.2.1 j = M.2.1 j) ∧ M'.2.2 = M.2.2
theorem CD.rf (M : mT) : CD M M := ⟨fun _ _ _ _ _ _ _ => rfl, fun _ _ _ _ _ _ => rfl, rfl⟩
theorem CD.tr {M1 M2 M3 : mT} (h1 : CD M1 M2) (h2 : CD M2 M3) : CD M1 M3 := ⟨fun i a b c d e f => (h2.1 i a b c d e f).trans (h1.1 i a b c d e f), fun j a b c d e => (h2.2.1 j a b c d e).trans (h1.2.1 j a b c d e), h2.2.2.trans h1.2.2⟩
theorem CW.d {M M' : mT} (h : CW M M') : CD M M' := ⟨fun i _ _ _ a b c => h.1 i a b c, fun j _ _ _ a b => h.2.1 j a b, h.2.2⟩
theorem CD.f {M : mT} {k : Nat} (v : Int32) (hk : k = 2 ∨ k = 5 ∨ k = 6) : CD M (msf M k v) := ⟨fun i a b c _ _ _ => msf_ne (by omega), fun _ _ _ _ _ _ => rfl, rfl⟩
theorem days_inner {e g : Nat} (he : e ≤ 7) {v1 v2 v3 : Int32} : ∀ (d c : Nat) (M : mT), c + d = e → M.1 0 = Int32.ofNat e → (∀ j, j < c → M.2.1 33 j = Int32.ofNat j) → ∃ M', CLn M M' ∧ (∀ j, j < e → M'.2.1 33 j = Int32.ofNat j) ∧ v_X7_days_r (g + d) 1 M v1 v2 v3 (Int32.ofNat c) = v_X7_days_r g 1 M' v1 v2 v3 (Int32.ofNat e) ∧ (p_X7_days_r g 1 M' v1 v2 v3 (Int32.ofNat e) → p_X7_days_r (g + d) 1 M v1 v2 v3 (Int32.ofNat c)) := by
  intro d
  induction d with
  | zero =>
    intro c M hc _ hM
    have : c = e := by omega
    subst this
    exact ⟨M, CLn.rf M, hM, rfl, fun h => h⟩
  | succ d ih =>
    intro c M hc h0 hM
    have w : ¬ Int32.ofNat e ≤ Int32.ofNat c := by rw [nat_le (by omega) (by omega)]; omega
    rw [show g + (d + 1) = (g + d) + 1 from rfl, v_X7_days_r, p_X7_days_r, if_neg (show ¬ (1 : Nat) = 0 by decide), if_neg (show ¬ (1 : Nat) = 0 by decide), h0, if_neg w, if_neg w, tn_of (by omega), nat1 (by omega)]
    have cl : CLn M (msa M 33 (upd (M.2.1 33) c (Int32.ofNat c))) := CLn.a _
    obtain ⟨M', j1, j2, j3, j4⟩ := ih (c + 1) (msa M 33 (upd (M.2.1 33) c (Int32.ofNat c))) (by omega) h0 (fun j hj => by
      rw [msa_at]
      by_cases y : j = c
      · rw [y, upd_at]
      · rw [upd_ne y]; exact hM j (by omega))
    exact ⟨M', cl.tr j1, j2, j3, fun h => ⟨nat_in (by omega) (by omega), j4 h⟩⟩
section
variable {P : pT} {N : nT} {R Q : rT} {V : vT} {F : fT}
theorem days_loop {e m : Nat} (he : e ≤ 7) (hm : m ≤ 60) : ∀ (n k fx fm : Nat) (R : rT) (O : oT) (M : mT) (v2 : Int32), k + n = m → n < fx → 9 * n < fm → RR P R M → M.1 36 = 0 → R.1 4 = Int32.ofNat e → M.1 0 = Int32.ofNat e → O.1 3 = Int32.ofNat e → (∀ j, j < e → O.2 1 j = Int32.ofNat j) → p_X6_days_r P fx N R O (Int32.ofNat m) v2 (Int32.ofNat k) ∧ p_X7_days_r fm 0 M (Int32.ofNat m) v2 (Int32.ofNat k) 0 ∧ ∃ r R' O' M', v_X6_days_r P fx N R O (Int32.ofNat m) v2 (Int32.ofNat k) = (r, N, R', O') ∧ v_X7_days_r fm 0 M (Int32.ofNat m) v2 (Int32.ofNat k) 0 = (r, M') ∧ RR P R' M' ∧ CD M M' := by
  intro n
  induction n with
  | zero =>
    intro k fx fm R O M v2 hk hfx hfm hR h36 hRe hE h3 hO
    obtain ⟨fx, rfl⟩ : ∃ m, fx = m + 1 := ⟨fx - 1, by omega⟩
    obtain ⟨fm, rfl⟩ : ∃ m, fm = m + 1 := ⟨fm - 1, by omega⟩
    have w : Int32.ofNat m ≤ Int32.ofNat k := by rw [nat_le (by omega) (by omega)]; omega
    rw [p_X6_days_r, p_X7_days_r, v_X6_days_r, v_X7_days_r, if_pos rfl, if_pos rfl, if_pos w, if_pos w, if_pos w, if_pos w]
    exact ⟨trivial, trivial, v2, R, O, M, rfl, rfl, hR, CD.rf M⟩
  | succ n ih =>
    intro k fx fm R O M v2 hk hfx hfm hR h36 hRe hE h3 hO
    obtain ⟨fx, rfl⟩ : ∃ m, fx = m + 1 := ⟨fx - 1, by omega⟩
    obtain ⟨g, rfl⟩ : ∃ g, fm = ((g + 1) + e) + 1 := ⟨fm - e - 2, by omega⟩
    have w : ¬ Int32.ofNat m ≤ Int32.ofNat k := by rw [nat_le (by omega) (by omega)]; omega
    rw [p_X6_days_r, p_X7_days_r, v_X6_days_r, v_X7_days_r, if_pos rfl, if_pos rfl, if_neg w, if_neg w, if_neg w, if_neg w]
    -- the draw
    have e10 : R.1 10 = M.1 6 := hR.1.2.2.2.2.2.2
    obtain ⟨fg, hfg1, hfg2, hfg⟩ : ∃ fg : Int32, v_X4_draw R 10 = (fg, rsf R 10 (R.1 10 * 1103515245 + 12345)) ∧ v_X7_draw M 10 = (fg, msf M 6 (R.1 10 * 1103515245 + 12345)) ∧ 0 ≤ fg.toInt ∧ fg.toInt ≤ 9 := by
      refine ⟨_, ?_, ?_, draw_b (R.1 10 * 1103515245 + 12345)⟩
      · unfold v_X4_draw
        rw [if_pos (show (0 : Int32) < 10 by decide)]
      · unfold v_X7_draw
        rw [kk_def, e10]
    have pd1 : p_X4_draw R 10 := by unfold p_X4_draw; rw [if_pos (show (0 : Int32) < 10 by decide)]; decide
    have pd2 : p_X7_draw M 10 := by unfold p_X7_draw; rw [kk_def]; decide
    rw [hfg1, hfg2]
    simp only [kk_def]
    generalize hsd : R.1 10 * 1103515245 + 12345 = sd at *
    generalize hR1 : rsf (rsf R 10 sd) 6 fg = R1 at *
    generalize hM1 : msf (msf M 6 sd) 2 fg = M1 at *
    have cd1 : CD M M1 := by rw [← hM1]; exact (CD.f sd (by omega)).tr (CD.f fg (by omega))
    have hRR1 : RR P R1 M1 := by
      rw [← hR1, ← hM1]
      have q1 := RD_set 6 (by omega) sd (OKe_up hR.2.1 (Or.inr (Or.inr (Or.inr (Or.inr (Or.inr rfl)))))) hR
      have q2 := RD_set 2 (by omega) fg (OKe_up q1.2.1 (Or.inr (Or.inl ⟨rfl, hfg⟩))) q1
      exact q2
    have hE1 : M1.1 0 = Int32.ofNat e := (cd1.1 0 (by decide) (by decide) (by decide) (by decide) (by decide) (by decide)).trans hE
    obtain ⟨M2, i1, i2, i3, i4⟩ := days_inner (g := g + 1) (v1 := Int32.ofNat m) (v2 := v2) (v3 := Int32.ofNat k) he e 0 M1 (by omega) hE1 (fun j hj => absurd hj (by omega))
    rw [show v_X7_days_r (g + 1 + e) 1 M1 (Int32.ofNat m) v2 (Int32.ofNat k) 0 = _ from i3]
    have hE2 : M2.1 0 = Int32.ofNat e := by rw [i1.1]; exact hE1
    have weq : Int32.ofNat e ≤ Int32.ofNat e := by rw [nat_le (by omega) (by omega)]; omega
    rw [v_X7_days_r, if_neg (show ¬ (1 : Nat) = 0 by decide), hE2, if_pos weq]
    rw [p_X7_days_r, if_neg (show ¬ (1 : Nat) = 0 by decide), hE2, if_pos weq] at i4
    have hRR2 := RR_cl i1 hRR1
    have eI : (M2.1 0).toInt = (e : Int) := by rw [hE2, n_of (by omega)]
    have h362 : M2.1 36 = Int32.ofNat 0 := by
      rw [i1.1, cd1.1 36 (by decide) (by decide) (by decide) (by decide) (by decide) (by decide)]
      exact h36
    have hL : LN (fun j => j) e O M2 := ⟨he, h3, hO, i2, DL_id he, isC_id hRR2 eI⟩
    obtain ⟨j1, j2, O2, M3, j3, j4, j5, j6, ⟨⟨a0, a1, a2⟩, ⟨b0, b1, b2⟩, hW⟩⟩ := play_ok (P := P) (R := R1) (k := 0) (by decide) hL hRR2 h362
    rw [show v_X2_play P O R1 0 = O2 from j3, j4]
    rw [j4] at i4
    simp only [kk_def] at i4 ⊢
    have hRR3 := RR_cm j6 hRR2
    have h33 : ∀ j, j < e → M3.2.1 33 j = Int32.ofNat j := fun j hj => by rw [j6.2.1 33 (by decide)]; exact i2 j hj
    have hpay : ∀ j, j < e → M3.2.1 34 j = 1 → (M3.1 3).toInt ≤ (M3.2.1 14 j).toInt := fun j hj h1 => by
      have hw := hW j hj
      rw [if_neg (by rw [Nat.zero_testBit]; decide), h1] at hw
      have := comes_pay hRR2 (isC_id hRR2 eI j hj) hw.symm
      rw [tn_of (by omega)] at this
      rw [j6.1 3 (by decide) (by decide) (by decide), j6.2.1 14 (by decide)]
      exact this
    obtain ⟨k1, k2, R4, M4, k3, k4, k5, k6, k7, k8, k9⟩ := pass_ok (n := e) hRR3 he (DL_id he) h33 hpay
    have hE3 : M3.1 0 = Int32.ofNat e := (j6.1 0 (by decide) (by decide) (by decide)).trans hE2
    rw [hE3] at i4 ⊢
    rw [a0, a1, k3, k4]
    rw [k4] at i4
    have bc : v_J6_bitCount_0f7a4 (O2.1 5) = M3.1 38 := by rw [a1, b1]; exact (ksum_ok e he (DL_id he)).2.1
    have e7 : R1.1 7 = M3.1 3 := hRR3.1.2.2.2.1
    have ep : v_X2_paid O2 R1 = M3.1 38 * M3.1 3 := by
      unfold v_X2_paid
      rw [bc, e7, Int32.mul_comm]
    rw [ep]
    rw [nat1 (by omega)] at i4 ⊢
    have cd4 : CD M M4 := by
      refine cd1.tr (i1.w.d.tr (j6.w.d.tr ⟨fun i q1 q2 q3 q4 q5 q6 => k6 i q2, fun j q1 q2 q3 q4 q5 => k7 j q1 q2 q3, k8⟩))
    have hRe1 : R1.1 4 = Int32.ofNat e := by rw [← hR1]; exact hRe
    obtain ⟨l1, l2, r, R', O', M', l3, l4, l5, l6⟩ := ih (k + 1) fx g R4 O2 M4 (v2 + M3.1 38 * M3.1 3) (by omega) (by omega) (by omega) k5 (by rw [cd4.1 36 (by decide) (by decide) (by decide) (by decide) (by decide) (by decide)]; exact h36) ((k9 4 (by decide)).trans hRe1) (by rw [cd4.1 0 (by decide) (by decide) (by decide) (by decide) (by decide) (by decide)]; exact hE) ((j5.1 3 (by decide) (by decide) (by decide)).trans h3) (fun j hj => by rw [j5.2]; exact hO j hj)
    exact ⟨⟨pd1, j1, k1, l1⟩, ⟨pd2, i4 ⟨j2, k2, l2⟩⟩, r, R', O', M', l3, l4, l5, cd4.tr l6⟩
theorem op_days {M : mT} (h : RA P N R Q V F M) (O : oT) (x : Int32) : p_X6_days P N R O x ∧ p_X7_days M x ∧ (v_X6_days P N R O x).1 = (v_X7_days M x).1 ∧ RA P (v_X6_days P N R O x).2.1 (v_X6_days P N R O x).2.2.1 Q V F (v_X7_days M x).2 := by
  have n5 : p_X7_no M (-5) := p_no (b := 5) (by decide) (by decide)
  have n6 : p_X7_no M (-6) := p_no (b := 6) (by decide) (by decide)
  have r5 := RA_refuse h (b := 5) (by decide) (by decide)
  have r6 := RA_refuse h (b := 6) (by decide) (by decide)
  have n60 : (60 : Int32).toInt = 60 := rfl
  unfold p_X6_days p_X7_days v_X6_days v_X7_days
  rw [from_eq]
  have e4 : R.1 4 = M.1 0 := h.2.2.1.1.1
  rw [e4]
  by_cases z : M.1 0 = 0
  · rw [if_pos z, if_pos z, if_pos z, if_pos z, kk_def, kk_def]
    exact ⟨p_refuse N 5, n5, r5⟩
  · rw [if_neg z, if_neg z, if_neg z, if_neg z]
    by_cases c : v_X6_within x 1 60 = 0
    · rw [if_pos c, if_pos c, if_pos c, if_pos c, kk_def, kk_def]
      exact ⟨p_refuse N 6, n6, r6⟩
    · rw [if_neg c, if_neg c, if_neg c, if_neg c, kk_def, kk_def]
      have hb := wneg c
      rw [n_1, n60] at hb
      obtain ⟨m, hm, rfl⟩ : ∃ m : Nat, m ≤ 60 ∧ x = Int32.ofNat m := ⟨x.toNatClampNeg, by rw [n_tn]; omega, n_back (by omega)⟩
      obtain ⟨e, he, hE, hRe, hI⟩ := h.2.2.1.e0
      obtain ⟨j1, O1, j2, j3, j4, j5, j6⟩ := num_all he hRe O
      rw [j2]
      obtain ⟨l1, l2, r, R', O', M', l3, l4, l5, l6⟩ := days_loop (P := P) (N := N) he hm m 0 200 800 R O1 M 0 (by omega) (by omega) (by omega) h.2.2.1 h.2.2.2.2.2.1 hRe hE j3 j6
      rw [show v_X6_days_r P 200 N R O1 (Int32.ofNat m) 0 0 = (r, N, R', O') from l3, show v_X7_days_r 800 0 M (Int32.ofNat m) 0 0 0 = (r, M') from l4]
      refine ⟨⟨j1, l1⟩, l2, rfl, ?_⟩
      refine RA_road h (fun i hi => l6.1 i (by omega) (by omega) (by omega) (by omega) (by omega) (by omega)) (fun y hy => ?_) (fun j hj => l6.2.1 j (by omega) (by omega) (by omega) (by omega) (by omega)) (by rw [l6.2.2]) l5
      unfold isC at hy ⊢
      rw [l6.1 0 (by decide) (by decide) (by decide) (by decide) (by decide) (by decide)]
      exact hy
end
