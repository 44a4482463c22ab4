/-! doubt C N -/
section
variable {P : pT} {f : Nat → Int64} {b len a n : Nat} {R : rT} {E : e2T} {M : mT}
theorem doubt_item (hT : RT f M b len) (hN : ∀ i, i < 6 → M.2.1 23 i = t_numbers i) (h4 : E.1 4 = Int32.ofNat len) (h5 : E.1 5 = Int32.ofNat a) (h27 : M.1 27 = Int32.ofNat (a + 1)) (hx : lt f len a = 32) (hal : a + 1 ≤ len) (hR : RR P R M) : ∃ (r : Int32) (E' : e2T) (R' : rT) (M' : mT), v_X3_doubtItem E f R = (r, E', R') ∧ p_X3_doubtItem E f R ∧ v_X7_item_r (n + 3) M (Int32.ofNat 1) 0 = (r, M') ∧ p_X7_item_r (n + 3) M (Int32.ofNat 1) 0 ∧ EF E E' ∧ MI M M' ∧ ((r = 0 ∧ E'.1 1 = M'.1 30) ∨ (r = 1 ∧ RR P R' M' ∧ ∃ a', a < a' ∧ a' ≤ len ∧ E'.1 5 = Int32.ofNat a' ∧ M'.1 27 = Int32.ofNat a')) := by
  obtain ⟨e, he, hE, hR4, hI⟩ := hR.e0
  have m1 : (R.1 4 - 1).toInt = (e : Int) - 1 := by rw [hR4, n_sub (by rw [n_of (by omega), n_1]; omega) (by rw [n_of (by omega), n_1]; omega), n_of (by omega), n_1]
  obtain ⟨E1, M1, f1, f2, hh⟩ := inum (n := n + 2) (w := 1) (i := 0) (lo := 0) (hi := R.1 4 - 1) hT hN (by omega) (by have : NW 1 = 2 := rfl; omega) h4 h5 (Or.inl ⟨rfl, h27, hx, hal⟩) (fun M' c0 _ g1 g2 => by
    unfold v_X7_isSo
    rw [if_neg (show ¬ Int32.ofNat 1 = 0 by decide), if_pos (show Int32.ofNat 1 = 1 from rfl), if_pos (show Int32.ofNat 0 = 0 from rfl), c0, within_iff, m1, n_0]
    by_cases k : M.1 0 ≤ M'.1 29
    · rw [if_pos k]
      rw [n_le, hI] at k
      exact ⟨fun _ h => by omega, fun _ => rfl⟩
    · rw [if_neg k]
      rw [n_le, hI] at k
      exact ⟨fun h => absurd h (by decide), fun h => absurd ⟨by omega, by omega⟩ h⟩)
  rcases hh with ⟨e1, e2, e3, e4⟩ | ⟨e1, e2, e3, e4, e5, a', a1, a2, a3, a4⟩
  · refine ⟨0, E1, R, M1, ?_, ?_, e2, e3, f1, f2.i, Or.inl ⟨rfl, e4⟩⟩
    · unfold v_X3_doubtItem
      rw [e1, kk_def, if_pos n00]
    · unfold p_X3_doubtItem
      rw [e1, kk_def, if_pos n00]
      exact ⟨p_numeral, trivial⟩
  · have hb1 := wneg e4
    rw [m1, n_0] at hb1
    have hc1 : isC M1.1 (E1.1 6) := by
      unfold isC
      rw [f2.1 0 (by decide) (by decide) (by decide), hI]
      omega
    have hR1 := RR_mf f2 hR
    obtain ⟨E2, M2, g1, g2, kk2⟩ := inum (n := n + 1) (w := 1) (i := 1) (lo := 0) (hi := 30) (hT.mf f2) (fun i hi => by rw [f2.2.1 23 (by decide)]; exact hN i hi) (by omega) (by have : NW 1 = 2 := rfl; omega) ((f1.2 4 (by decide) (by decide) (by decide)).trans h4) a3 (Or.inr ⟨by omega, a4, a2⟩) (fun M' _ _ q1 q2 => by
      unfold v_X7_isSo
      rw [if_neg (show ¬ Int32.ofNat 1 = 0 by decide), if_pos (show Int32.ofNat 1 = 1 from rfl), if_neg (show ¬ Int32.ofNat 1 = 0 by decide), within_iff, n_30, n_0]
      by_cases k : 30 < M'.1 29
      · rw [if_pos k]
        rw [n_lt, n_30] at k
        exact ⟨fun _ h => by omega, fun _ => rfl⟩
      · rw [if_neg k]
        rw [n_lt, n_30] at k
        exact ⟨fun h => absurd h (by decide), fun h => absurd ⟨by omega, by omega⟩ h⟩)
    have hw : ¬ v_X4_has R (E1.1 6) = 0 := by rw [has_iff hR1]; exact fun q => q hc1
    have v7 := hR1.vp hc1
    rcases kk2 with ⟨k1, k2, k3, k4⟩ | ⟨k1, k2, k3, k4, k5, a'', b1, b2, b3, b4⟩
    · refine ⟨0, E2, R, M2, ?_, ?_, e2.trans k2, e3 k3, f1.tr g1, (f2.tr g2).i, Or.inl ⟨rfl, k4⟩⟩
      · unfold v_X3_doubtItem
        rw [e1, kk_def, if_neg n10]
        dsimp only
        rw [k1, kk_def, if_pos n00]
      · unfold p_X3_doubtItem
        rw [e1, kk_def, if_neg n10]
        dsimp only
        rw [k1, kk_def, if_pos n00]
        exact ⟨p_numeral, p_numeral, trivial⟩
    · have hv : v_X3_doubtItem E f R = (1, E2, rsa R 3 (upd (R.2.1 3) (E1.1 6).toNatClampNeg (E2.1 6))) := by
        unfold v_X3_doubtItem
        rw [e1, kk_def, if_neg n10]
        dsimp only
        rw [k1, kk_def, if_neg n10]
        dsimp only
        rw [if_neg hw, kk_def]
      have hp : p_X3_doubtItem E f R := by
        unfold p_X3_doubtItem
        rw [e1, kk_def, if_neg n10]
        dsimp only
        rw [k1, kk_def, if_neg n10]
        rw [if_neg hw]
        exact ⟨p_numeral, p_numeral, p_has hR1 _, v7⟩
      have hb2 := wneg k4
      rw [n_30, n_0] at hb2
      have h23 : (M2.2.1 23) (Int32.ofNat 1).toNatClampNeg ≤ Int32.ofNat (1 + 1) := by rw [tn_of (by omega), g2.2.1 23 (by decide), f2.2.1 23 (by decide), hN 1 (by omega)]; decide
      have w0 : ¬ Int32.ofNat 1 = 0 := by decide
      have w1 : Int32.ofNat 1 = 1 := rfl
      have t0 : (M2.2.1 25) ((0 : Int32)).toNatClampNeg = E1.1 6 := by rw [show ((0 : Int32)).toNatClampNeg = 0 from rfl, k5 0, if_neg (by decide), e5 0, if_pos rfl]
      have t1 : (M2.2.1 25) ((1 : Int32)).toNatClampNeg = E2.1 6 := by rw [show ((1 : Int32)).toNatClampNeg = 1 from rfl, k5 1, if_pos rfl]
      have v2 : v_X7_item_r (n + 1) M2 (Int32.ofNat 1) (Int32.ofNat (1 + 1)) = (1, msa M2 15 (upd (M2.2.1 15) (E1.1 6).toNatClampNeg (E2.1 6))) := by
        rw [v_X7_item_r, if_pos h23, if_neg w0, if_pos w1, kk_def, t0, t1]
      have p2 : p_X7_item_r (n + 1) M2 (Int32.ofNat 1) (Int32.ofNat (1 + 1)) := by
        rw [p_X7_item_r, if_pos h23, if_neg w0, if_pos w1, t0]
        exact ⟨nat_in (by omega) (by omega), v7⟩
      refine ⟨1, E2, rsa R 3 (upd (R.2.1 3) (E1.1 6).toNatClampNeg (E2.1 6)), msa M2 15 (upd (M2.2.1 15) (E1.1 6).toNatClampNeg (E2.1 6)), hv, hp, (e2.trans k2).trans v2, e3 (k3 p2), f1.tr g1, (f2.tr g2).i.tr ⟨fun _ _ _ _ _ => rfl, fun j h1 h2 => msa_ne (by omega), rfl⟩, Or.inr ⟨rfl, ?_, a'', by omega, b2, b3, b4⟩⟩
      have hR2 := RR_mf g2 hR1
      refine RD_congr (fun j hj c _ => ?_) (fun _ _ => rfl) (RD_doubt (x := E1.1 6) hR2 hb2)
      show va_up M2.2.1 15 _ (9 + j) c = va_up (mD M2) 6 _ j c
      by_cases z : j = 6
      · subst z; rw [up_at, up_at]
      · rw [up_ne (by omega), up_ne z]
end
