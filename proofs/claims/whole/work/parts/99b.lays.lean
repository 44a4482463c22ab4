/-! the reference lays an order -/
def CR (M M' : mT) : Prop := (∀ i, i < 37 ∨ 41 < i → M'.1 i = M.1 i) ∧ (∀ j, j ≠ 33 → j ≠ 34 → j ≠ 35 → M'.2.1 j = M.2.1 j) ∧ M'.2.2 = M.2.2
theorem CR.rf (M : mT) : CR M M := ⟨fun _ _ => rfl, fun _ _ _ _ => rfl, rfl⟩
theorem CR.tr {M1 M2 M3 : mT} (h1 : CR M1 M2) (h2 : CR M2 M3) : CR M1 M3 := ⟨fun i a => (h2.1 i a).trans (h1.1 i a), fun j a b c => (h2.2.1 j a b c).trans (h1.2.1 j a b c), h2.2.2.trans h1.2.2⟩
theorem CM.r {M M' : mT} (h : CM M M') : CR M M' := ⟨fun i hi => h.1 i (by omega) (by omega) (by omega), fun j _ b _ => h.2.1 j b, h.2.2⟩
theorem CLn.r {M M' : mT} (h : CLn M M') : CR M M' := ⟨fun i _ => by rw [h.1], fun j a _ _ => h.2.1 j a, h.2.2⟩
theorem CR.q {M M' : mT} (h : CR M M') : MEQ M M' := ⟨fun i hi => h.1 i (by omega), fun j hj => h.2.1 j (by omega) (by omega) (by omega), by rw [h.2.2]⟩
theorem RR_r {P : pT} {R : rT} {M M' : mT} (f : CR M M') (h : RR P R M) : RR P R M' := RD_congr (fun j hj c _ => by show M'.2.1 (9 + j) c = _; rw [f.2.1 (9 + j) (by omega) (by omega) (by omega)]) (fun i hi => f.1 i (by omega)) h
/-- what is least so far -/
def BK (M : mT) (t K : Int) : Prop := (K = 8000 ∧ M.1 40 = 99 ∧ M.1 41 = 99) ∨ ∃ b p : Nat, b ≤ 7 ∧ p ≤ 7 ∧ M.1 40 = Int32.ofNat b ∧ M.1 41 = Int32.ofNat p ∧ K = t * (p : Int) + 1000 * (b : Int)
theorem line_copy {rv : mT → Int32 → Int32 → mT} {rp : mT → Int32 → Int32 → Prop} {n : Nat} (hn : n ≤ 7) : ∀ (fu k : Nat) (M : mT), k ≤ n → n - k < fu → M.1 0 = Int32.ofNat n → (∀ j, j < k → M.2.1 35 j = M.2.1 33 j) → p_X7_lays_r rv rp fu 1 M 0 0 (Int32.ofNat k) ∧ ∃ M', v_X7_lays_r rv fu 1 M 0 0 (Int32.ofNat k) = M' ∧ M'.1 = M.1 ∧ (∀ j, j ≠ 35 → M'.2.1 j = M.2.1 j) ∧ M'.2.2 = M.2.2 ∧ ∀ j, j < n → M'.2.1 35 j = M.2.1 33 j := by
  intro fu
  induction fu with
  | zero => intro k M _ h; omega
  | succ fu ih =>
    intro k M hk hfu h0 hM
    rw [p_X7_lays_r, v_X7_lays_r, h0]
    simp only [if_neg (show ¬ (1 : Nat) = 0 by decide)]
    by_cases c : k = n
    · have w : Int32.ofNat n ≤ Int32.ofNat k := by rw [nat_le (by omega) (by omega)]; omega
      rw [if_pos w, if_pos w]
      subst c
      exact ⟨trivial, M, rfl, rfl, fun _ _ => rfl, rfl, hM⟩
    · have w : ¬ Int32.ofNat n ≤ Int32.ofNat k := by rw [nat_le (by omega) (by omega)]; omega
      rw [if_neg w, if_neg w, tn_of (by omega), nat1 (by omega)]
      have v7 : vp_in (Int32.ofNat k) 7 := nat_in (by omega) (by omega)
      have e33 : (msa M 35 (upd (M.2.1 35) k (M.2.1 33 k))).2.1 33 = M.2.1 33 := msa_ne (by decide)
      obtain ⟨j1, M', j2, j3, j4, j5, j6⟩ := ih (k + 1) (msa M 35 (upd (M.2.1 35) k (M.2.1 33 k))) (by omega) (by omega) h0 (fun j hj => by
        rw [msa_at, e33]
        by_cases z : j = k
        · rw [z, upd_at]
        · rw [upd_ne z]; exact hM j (by omega))
      rw [e33] at j6
      exact ⟨⟨v7, v7, j1⟩, M', j2, j3, fun j hj => (j4 j hj).trans (msa_ne hj), j5, j6⟩
/-- an order laid: it is the least so far, or not -/
def LF (P : pT) (R : rT) (n : Nat) (f : Nat → Nat) (K : Int) (M M' : mT) : Prop := CR M M' ∧ M'.2.1 33 = M.2.1 33 ∧ (((st P R n f n).2.2 < K ∧ (BK M' (R.1 7).toInt (st P R n f n).2.2) ∧ (∃ b : Nat, b ≤ 7 ∧ M'.1 40 = Int32.ofNat b) ∧ ∀ j, j < n → M'.2.1 35 j = Int32.ofNat (f j)) ∨ (K ≤ (st P R n f n).2.2 ∧ M'.1 40 = M.1 40 ∧ M'.1 41 = M.1 41 ∧ M'.2.1 35 = M.2.1 35))
section
variable {P : pT} {R : rT} {n : Nat}
theorem leaf_ok (hn : n ≤ 7) {f : Nat → Nat} {fm : Nat} {M : mT} {x : Int32} {K : Int} (hR : RR P R M) (h36 : M.1 36 = 0) (h0 : M.1 0 = Int32.ofNat n) (hd : DL f n) (h33 : ∀ j, j < n → M.2.1 33 j = Int32.ofNat (f j)) (hg : ∀ i, i < n → f i < n) (hK : BK M (R.1 7).toInt K) : p_X7_lays (fm + 1) M (Int32.ofNat n) x ∧ ∃ M', v_X7_lays (fm + 1) M (Int32.ofNat n) x = M' ∧ LF P R n f K M M' := by
  have eI : (M.1 0).toInt = (n : Int) := by rw [h0, n_of (by omega)]
  have hC : ∀ j, j < n → isC M.1 (Int32.ofNat (f j)) := fun j hj => isC_id hR eI (f j) (hg j hj)
  have e7 : R.1 7 = M.1 3 := hR.1.2.2.2.1
  have ht : 1 ≤ (R.1 7).toInt ∧ (R.1 7).toInt ≤ 99 := by rw [e7]; exact hR.2.1.2.2.2.1
  have hL : LN f n ((fun _ => Int32.ofNat n, fun _ j => Int32.ofNat (f j)) : oT) M := ⟨hn, rfl, fun _ _ => rfl, h33, hd, hC⟩
  obtain ⟨-, j2, O2, M2, -, j4, -, j6, ⟨-, ⟨b0, b1, b2⟩, hW⟩⟩ := play_ok (P := P) (R := R) (k := 0) (by decide) hL hR h36
  obtain ⟨-, -, w3⟩ := st_WT hW n (Nat.le_refl n)
  have k1 := kcnt_le (w := M2.2.1 34) (h := 1) n
  have k2 := kcnt_le (w := M2.2.1 34) (h := 2) n
  have e40 : M2.1 40 = M.1 40 := j6.1 40 (by decide) (by decide) (by decide)
  have e41 : M2.1 41 = M.1 41 := j6.1 41 (by decide) (by decide) (by decide)
  have e33 : M2.2.1 33 = M.2.1 33 := j6.2.1 33 (by decide)
  have e35 : M2.2.1 35 = M.2.1 35 := j6.2.1 35 (by decide)
  have e20 : M2.1 0 = Int32.ofNat n := (j6.1 0 (by decide) (by decide) (by decide)).trans h0
  have weq : Int32.ofNat n ≤ Int32.ofNat n := by rw [nat_le (by omega) (by omega)]; omega
  rw [p_X7_lays, v_X7_lays, h0, if_pos weq, if_pos weq, j4, kk_def, kk_def, e40, e41, b1, b2]
  -- the two ways
  have upd_ : (st P R n f n).2.2 < K → p_X7_lays_r (v_X7_lays fm) (p_X7_lays fm) 200 1 (msf (msf M2 40 (Int32.ofNat (kcnt (M2.2.1 34) 2 n))) 41 (Int32.ofNat (kcnt (M2.2.1 34) 1 n))) 0 0 0 ∧ ∃ M', v_X7_lays_r (v_X7_lays fm) 200 1 (msf (msf M2 40 (Int32.ofNat (kcnt (M2.2.1 34) 2 n))) 41 (Int32.ofNat (kcnt (M2.2.1 34) 1 n))) 0 0 0 = M' ∧ LF P R n f K M M' := fun hlt => by
    obtain ⟨l1, M', l2, l3, l4, l5, l6⟩ := line_copy (rv := v_X7_lays fm) (rp := p_X7_lays fm) hn 200 0 (msf (msf M2 40 (Int32.ofNat (kcnt (M2.2.1 34) 2 n))) 41 (Int32.ofNat (kcnt (M2.2.1 34) 1 n))) (by omega) (by omega) e20 (fun j hj => absurd hj (by omega))
    have m40 : M'.1 40 = Int32.ofNat (kcnt (M2.2.1 34) 2 n) := by rw [l3, msf_ne (by decide)]; exact msf_at
    have m41 : M'.1 41 = Int32.ofNat (kcnt (M2.2.1 34) 1 n) := by rw [l3]; exact msf_at
    refine ⟨l1, M', l2, ⟨fun i hi => ?_, fun j a b c => ?_, ?_⟩, ?_, Or.inl ⟨hlt, Or.inr ⟨kcnt (M2.2.1 34) 2 n, kcnt (M2.2.1 34) 1 n, by omega, by omega, m40, m41, w3⟩, ⟨_, by omega, m40⟩, fun j hj => ?_⟩⟩
    · rw [l3, msf_ne (by omega), msf_ne (by omega)]; exact j6.1 i (by omega) (by omega) (by omega)
    · rw [l4 j c]; exact j6.2.1 j b
    · rw [l5]; exact j6.2.2
    · rw [l4 33 (by decide)]; exact e33
    · rw [l6 j hj]
      show M2.2.1 33 j = _
      rw [e33]; exact h33 j hj
  have keep_ : K ≤ (st P R n f n).2.2 → True ∧ ∃ M', M2 = M' ∧ LF P R n f K M M' := fun hle => ⟨trivial, M2, rfl, j6.r, e33, Or.inr ⟨hle, e40, e41, e35⟩⟩
  generalize hq : kcnt (M2.2.1 34) 2 n = q2 at *
  generalize hp : kcnt (M2.2.1 34) 1 n = q1 at *
  have tb : 0 ≤ (R.1 7).toInt * (q1 : Int) ∧ (R.1 7).toInt * (q1 : Int) ≤ 99 * 7 := ⟨Int.mul_nonneg (by omega) (by omega), Int.mul_le_mul ht.2 (by omega) (by omega) (by omega)⟩
  rcases hK with ⟨a1, a2, a3⟩ | ⟨b, p, a1, a2, a3, a4, a5⟩
  · -- nothing yet
    have n99 : (99 : Int32).toInt = 99 := rfl
    have c1 : ¬ (99 : Int32) < Int32.ofNat q2 := by rw [n_lt, n_of (by omega), n99]; omega
    have c2 : ¬ Int32.ofNat q2 = 99 := by rw [n_eq, n_of (by omega), n99]; omega
    rw [a2, if_neg c1, if_neg c1, if_neg c2, if_neg c2]
    obtain ⟨x1, x2⟩ := upd_ (by omega)
    exact ⟨⟨j2, x1⟩, x2⟩
  · rw [a3, a4]
    have tp : 0 ≤ (R.1 7).toInt * (p : Int) ∧ (R.1 7).toInt * (p : Int) ≤ 99 * 7 := ⟨Int.mul_nonneg (by omega) (by omega), Int.mul_le_mul ht.2 (by omega) (by omega) (by omega)⟩
    by_cases c1 : Int32.ofNat b < Int32.ofNat q2
    · rw [if_pos c1, if_pos c1]
      rw [n_lt, n_of (by omega), n_of (by omega)] at c1
      obtain ⟨x1, x2⟩ := keep_ (by rw [w3, a5]; omega)
      exact ⟨⟨j2, x1⟩, x2⟩
    · rw [if_neg c1, if_neg c1]
      rw [n_lt, n_of (by omega), n_of (by omega)] at c1
      by_cases c2 : Int32.ofNat q2 = Int32.ofNat b
      · rw [if_pos c2, if_pos c2]
        have c3 := ofN_inj (by omega) (by omega) c2
        by_cases c4 : Int32.ofNat q1 < Int32.ofNat p
        · rw [if_pos c4, if_pos c4]
          rw [n_lt, n_of (by omega), n_of (by omega)] at c4
          have m1 : (R.1 7).toInt * (q1 : Int) < (R.1 7).toInt * (p : Int) := Int.mul_lt_mul_of_pos_left c4 (by omega)
          obtain ⟨x1, x2⟩ := upd_ (by rw [w3, a5]; omega)
          exact ⟨⟨j2, x1⟩, x2⟩
        · rw [if_neg c4, if_neg c4]
          rw [n_lt, n_of (by omega), n_of (by omega)] at c4
          have m1 : (R.1 7).toInt * (p : Int) ≤ (R.1 7).toInt * (q1 : Int) := Int.mul_le_mul_of_nonneg_left (by omega) (by omega)
          obtain ⟨x1, x2⟩ := keep_ (by rw [w3, a5]; omega)
          exact ⟨⟨j2, x1⟩, x2⟩
      · rw [if_neg c2, if_neg c2]
        have c3 : ¬ q2 = b := fun e => c2 (by rw [e])
        obtain ⟨x1, x2⟩ := upd_ (by rw [w3, a5]; omega)
        exact ⟨⟨j2, x1⟩, x2⟩
end
