/-! a comer's six numbers -/
def EG (E E' : e2T) : Prop := ∀ i, i ≠ 1 → i ≠ 5 → i ≠ 6 → E'.1 i = E.1 i
theorem EG.tr {E1 E2 E3 : e2T} (h1 : EG E1 E2) (h2 : EG E2 E3) : EG E1 E3 := fun i a b c => (h2 i a b c).trans (h1 i a b c)
theorem EF.g {E E' : e2T} (h : EF E E') : EG E E' := h.2
theorem least_ok : ∀ i, i < 6 → t_least i = (if Int32.ofNat i = 3 then 1 else 0) ∧ t_most i = t_mosts i := by decide
theorem so_comer {M M' : mT} (h24 : ∀ i, i < 6 → M.2.1 24 i = t_mosts i) {i : Nat} (hi : i < 6) (e : M'.2.1 24 = M.2.1 24) : (v_X7_isSo M' (Int32.ofNat 0) (Int32.ofNat i) = 0 ↔ v_X6_within (M'.1 29) (t_least i) (t_most i) = 0) := by
  obtain ⟨l1, l2⟩ := least_ok i hi
  unfold v_X7_isSo
  rw [if_pos (show Int32.ofNat 0 = 0 from rfl), tn_of (by omega), e, h24 i hi, from_eq, l1, l2]
section
variable {f : Nat → Int64} {b len : Nat} {R : rT}
theorem comer_loop : ∀ (k i n a : Nat) (E : e2T) (M : mT), i + k = 6 → RT f M b len → (∀ i, i < 6 → M.2.1 23 i = t_numbers i) → (∀ i, i < 6 → M.2.1 24 i = t_mosts i) → E.1 4 = Int32.ofNat len → E.1 5 = Int32.ofNat a → ((i = 0 ∧ M.1 27 = Int32.ofNat (a + 1) ∧ lt f len a = 32 ∧ a + 1 ≤ len) ∨ (1 ≤ i ∧ M.1 27 = Int32.ofNat a ∧ a ≤ len)) → (∀ j, j < i → E.2 j = M.2.1 25 j ∧ ¬ v_X6_within (M.2.1 25 j) (t_least j) (t_most j) = 0) → ∃ (E' : e2T) (M' : mT), EG E E' ∧ MF M M' ∧ p_X3_comerItem_r f (n + k + 1) E R (Int32.ofNat i) ∧ (((∀ res, g_X3_comerItem_r f (n + k + 1) E R (Int32.ofNat i) res → res = (0, E', R, [])) ∧ v_X7_item_r (n + k + 1) M (Int32.ofNat 0) (Int32.ofNat i) = (0, M') ∧ p_X7_item_r (n + k + 1) M (Int32.ofNat 0) (Int32.ofNat i) ∧ E'.1 1 = M'.1 30) ∨ ((∀ res, g_X3_comerItem_r f (n + k + 1) E R (Int32.ofNat i) res → ∃ q3 : rT × LL, g_X4_add R (E'.2 0) (E'.2 1) (E'.2 2) (E'.2 3) (E'.2 4) (E'.2 5) q3 ∧ res = (1, E', q3.1, [] ++ q3.2)) ∧ v_X7_item_r (n + k + 1) M (Int32.ofNat 0) (Int32.ofNat i) = (1, (v_X7_adds M' (E'.2 0) (E'.2 1) (E'.2 2) (E'.2 3) (E'.2 4) (E'.2 5)).2) ∧ (p_X7_adds M' (E'.2 0) (E'.2 1) (E'.2 2) (E'.2 3) (E'.2 4) (E'.2 5) → p_X7_item_r (n + k + 1) M (Int32.ofNat 0) (Int32.ofNat i)) ∧ (∀ j, j < 6 → ¬ v_X6_within (E'.2 j) (t_least j) (t_most j) = 0) ∧ ∃ a', a ≤ a' ∧ a' ≤ len ∧ E'.1 5 = Int32.ofNat a' ∧ M'.1 27 = Int32.ofNat a')) := by
  intro k
  induction k with
  | zero =>
    intro i n a E M hi hT hN h24 h4 h5 hp hE
    have e : i = 6 := by omega
    subst e
    have l6 : (6 : Int32) ≤ Int32.ofNat 6 := by decide
    obtain ⟨h27, hal⟩ : M.1 27 = Int32.ofNat a ∧ a ≤ len := by
      rcases hp with ⟨q, -⟩ | ⟨-, q1, q2⟩
      · omega
      · exact ⟨q1, q2⟩
    have vw : vp_in (Int32.ofNat 0) 6 := nat_in (by omega) (by omega)
    have h23 : (M.2.1 23) (Int32.ofNat 0).toNatClampNeg ≤ Int32.ofNat 6 := by rw [tn_of (by omega), hN 0 (by omega)]; decide
    have z0 : Int32.ofNat 0 = 0 := rfl
    have t : ∀ j, j < 6 → M.2.1 25 j = E.2 j := fun j hj => (hE j hj).1.symm
    refine ⟨E, M, fun _ _ _ _ => rfl, MF.rf M, ?_, Or.inr ⟨fun res h => ?_, ?_, fun h => ?_, fun j hj => ?_, a, Nat.le_refl a, hal, h5, h27⟩⟩
    · rw [p_X3_comerItem_r, if_pos l6]
      exact p_addx _ _ _ _ _ _
    · rw [g_X3_comerItem_r, if_pos l6] at h
      exact h
    · rw [v_X7_item_r, if_pos h23, if_pos z0, kk_def]
      rw [show (0 : Int32).toNatClampNeg = 0 from rfl, show (1 : Int32).toNatClampNeg = 1 from rfl, show (2 : Int32).toNatClampNeg = 2 from rfl, show (3 : Int32).toNatClampNeg = 3 from rfl, show (4 : Int32).toNatClampNeg = 4 from rfl, show (5 : Int32).toNatClampNeg = 5 from rfl, t 0 (by omega), t 1 (by omega), t 2 (by omega), t 3 (by omega), t 4 (by omega), t 5 (by omega)]
    · rw [p_X7_item_r, if_pos h23, if_pos z0]
      rw [show (0 : Int32).toNatClampNeg = 0 from rfl, show (1 : Int32).toNatClampNeg = 1 from rfl, show (2 : Int32).toNatClampNeg = 2 from rfl, show (3 : Int32).toNatClampNeg = 3 from rfl, show (4 : Int32).toNatClampNeg = 4 from rfl, show (5 : Int32).toNatClampNeg = 5 from rfl, t 0 (by omega), t 1 (by omega), t 2 (by omega), t 3 (by omega), t 4 (by omega), t 5 (by omega)]
      exact ⟨vw, h⟩
    · rw [← t j hj]; exact (hE j hj).2
  | succ k ih =>
    intro i n a E M hi hT hN h24 h4 h5 hp hE
    have hl := hT.2.2.2.1
    have l6 : ¬ (6 : Int32) ≤ Int32.ofNat i := by rw [show (6 : Int32) = Int32.ofNat 6 from rfl, nat_le (by omega) (by omega)]; omega
    have vi : vp_in (Int32.ofNat i) 6 := nat_in (by omega) (by omega)
    obtain ⟨E1, M1, f1, f2, hh⟩ := inum (n := n + k + 1) (lo := t_least i) (hi := t_most i) hT hN (w := 0) (by omega) (show i < NW 0 by have : NW 0 = 6 := rfl; omega) h4 h5 hp (fun M' _ e _ _ => so_comer h24 (by omega) e)
    rw [show n + (k + 1) + 1 = (n + k + 1) + 1 by omega]
    rcases hh with ⟨e1, e2, e3, e4⟩ | ⟨e1, e2, e3, e4, e5, a', a1, a2, a3, a4⟩
    · refine ⟨E1, M1, f1.g, f2, ?_, Or.inl ⟨fun res h => ?_, e2, e3, e4⟩⟩
      · rw [p_X3_comerItem_r, if_neg l6, tn_of (by omega), e1, kk_def, if_pos n00]
        exact ⟨vi, vi, p_numeral, trivial⟩
      · rw [g_X3_comerItem_r, if_neg l6, tn_of (by omega), e1, kk_def, if_pos n00] at h
        exact h
    · have g2 : (e2a E1 (upd E1.2 i (E1.1 6))).2 = upd E1.2 i (E1.1 6) := rfl
      obtain ⟨E2, M2, k1, k2, k3, k4⟩ := ih (i + 1) n a' (e2a E1 (upd E1.2 i (E1.1 6))) M1 (by omega) (hT.mf f2) (fun j hj => by rw [f2.2.1 23 (by decide)]; exact hN j hj) (fun j hj => by rw [f2.2.1 24 (by decide)]; exact h24 j hj) ((f1.2 4 (by decide) (by decide) (by decide)).trans h4) a3 (Or.inr ⟨by omega, a4, a2⟩) (fun j hj => by
        rw [g2, e5 j]
        by_cases z : j = i
        · rw [z, upd_at, if_pos rfl]; exact ⟨rfl, e4⟩
        · rw [upd_ne z, if_neg z, f1.1]; exact hE j (by omega))
      have gE : EG E (e2a E1 (upd E1.2 i (E1.1 6))) := f1.g
      refine ⟨E2, M2, gE.tr k1, f2.tr k2, ?_, ?_⟩
      · rw [p_X3_comerItem_r, if_neg l6, tn_of (by omega), e1, kk_def, if_neg n10, nat1 (by omega)]
        exact ⟨vi, vi, p_numeral, vi, k3⟩
      · have gs : ∀ res, g_X3_comerItem_r f (n + k + 1 + 1) E R (Int32.ofNat i) res → g_X3_comerItem_r f (n + k + 1) (e2a E1 (upd E1.2 i (E1.1 6))) R (Int32.ofNat (i + 1)) res := fun res h => by
          rw [g_X3_comerItem_r, if_neg l6, tn_of (by omega), e1, kk_def, if_neg n10, nat1 (by omega)] at h
          exact h
        rcases k4 with ⟨q1, q2, q3, q4⟩ | ⟨q1, q2, q3, q4, a'', q5, q6, q7⟩
        · exact Or.inl ⟨fun res h => q1 res (gs res h), e2.trans q2, e3 q3, q4⟩
        · exact Or.inr ⟨fun res h => q1 res (gs res h), e2.trans q2, fun h => e3 (q3 h), q4, a'', by omega, q6, q7⟩
end
