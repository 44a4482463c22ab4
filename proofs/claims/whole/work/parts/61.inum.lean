/-! one number of an item, to both -/
def MF (M M' : mT) : Prop := (∀ i, i ≠ 27 → i ≠ 29 → i ≠ 30 → M'.1 i = M.1 i) ∧ (∀ j, j ≠ 25 → M'.2.1 j = M.2.1 j) ∧ M'.2.2 = M.2.2
theorem MF.rf (M : mT) : MF M M := ⟨fun _ _ _ _ => rfl, fun _ _ => rfl, rfl⟩
theorem MF.tr {M1 M2 M3 : mT} (h1 : MF M1 M2) (h2 : MF M2 M3) : MF M1 M3 := ⟨fun i a b c => (h2.1 i a b c).trans (h1.1 i a b c), fun j a => (h2.2.1 j a).trans (h1.2.1 j a), h2.2.2.trans h1.2.2⟩
theorem MF.f {M : mT} {k : Nat} (v : Int32) (hk : k = 27 ∨ k = 29 ∨ k = 30) : MF M (msf M k v) := ⟨fun i a b c => msf_ne (by omega), fun _ _ => rfl, rfl⟩
theorem MF.a (M : mT) (g : Nat → Int32) : MF M (msa M 25 g) := ⟨fun _ _ _ _ => rfl, fun j a => msa_ne a, rfl⟩
theorem MF.of {M M' : mT} (h2 : M'.2 = M.2) (h1 : ∀ i, i ≠ 27 → i ≠ 29 → i ≠ 30 → M'.1 i = M.1 i) : MF M M' := ⟨h1, fun j _ => by rw [h2], by rw [h2]⟩
theorem RT.mf {M M' : mT} {f : Nat → Int64} {b len : Nat} (h : RT f M b len) (e : MF M M') : RT f M' b len := h.same (e.1 26 (by decide) (by decide) (by decide)) (e.1 28 (by decide) (by decide) (by decide)) (by rw [e.2.2])
def NW (w : Nat) : Nat := [6, 2, 1, 1, 1, 1].getD w 0
theorem NW_ok : ∀ w, w < 6 → t_numbers w = Int32.ofNat (NW w) ∧ 1 ≤ NW w ∧ NW w ≤ 6 := by decide
section
variable {M : mT} {E : e2T} {f : Nat → Int64} {b len a w i n : Nat} {lo hi : Int32}
theorem inum (hT : RT f M b len) (hN : ∀ i, i < 6 → M.2.1 23 i = t_numbers i) (hw : w < 6) (hi1 : i < NW w) (h4 : E.1 4 = Int32.ofNat len) (h5 : E.1 5 = Int32.ofNat a) (hp : (i = 0 ∧ M.1 27 = Int32.ofNat (a + 1) ∧ lt f len a = 32 ∧ a + 1 ≤ len) ∨ (1 ≤ i ∧ M.1 27 = Int32.ofNat a ∧ a ≤ len)) (hso : ∀ M' : mT, M'.1 0 = M.1 0 → M'.2.1 24 = M.2.1 24 → 0 ≤ (M'.1 29).toInt → (M'.1 29).toInt ≤ 99 → (v_X7_isSo M' (Int32.ofNat w) (Int32.ofNat i) = 0 ↔ v_X6_within (M'.1 29) lo hi = 0)) : ∃ (E' : e2T) (M' : mT), EF E E' ∧ MF M M' ∧ ((v_X3_numeral E f lo hi = (0, E') ∧ v_X7_item_r (n + 1) M (Int32.ofNat w) (Int32.ofNat i) = (0, M') ∧ p_X7_item_r (n + 1) M (Int32.ofNat w) (Int32.ofNat i) ∧ E'.1 1 = M'.1 30) ∨ (v_X3_numeral E f lo hi = (1, E') ∧ v_X7_item_r (n + 1) M (Int32.ofNat w) (Int32.ofNat i) = v_X7_item_r n M' (Int32.ofNat w) (Int32.ofNat (i + 1)) ∧ (p_X7_item_r n M' (Int32.ofNat w) (Int32.ofNat (i + 1)) → p_X7_item_r (n + 1) M (Int32.ofNat w) (Int32.ofNat i)) ∧ ¬ v_X6_within (E'.1 6) lo hi = 0 ∧ (∀ j, M'.2.1 25 j = if j = i then E'.1 6 else M.2.1 25 j) ∧ ∃ a', a < a' ∧ a' ≤ len ∧ E'.1 5 = Int32.ofNat a' ∧ M'.1 27 = Int32.ofNat a')) := by
  obtain ⟨g1, g2, g3⟩ := NW_ok w hw
  have hl := hT.2.2.2.1
  have vw : vp_in (Int32.ofNat w) 6 := nat_in (by omega) (by omega)
  have vi : vp_in (Int32.ofNat i) 6 := nat_in (by omega) (by omega)
  have pso : ∀ M' : mT, p_X7_isSo M' (Int32.ofNat w) (Int32.ofNat i) := fun M' => by
    unfold p_X7_isSo
    split
    · exact vi
    · trivial
  have nb : ¬ Int32.ofNat (NW w) ≤ Int32.ofNat i := by rw [nat_le (by omega) (by omega)]; omega
  have h23 : (M.2.1 23) (Int32.ofNat w).toNatClampNeg = Int32.ofNat (NW w) := by rw [tn_of (by omega), hN w hw, g1]
  -- what the number leads to
  have main : ∀ (M0 : mT), MF M M0 → lt f len a = 32 → a + 1 ≤ len → M0.1 27 = Int32.ofNat (a + 1) → M0.2.1 25 = M.2.1 25 → ∃ (E' : e2T) (M' : mT), EF E E' ∧ MF M M' ∧ p_X7_reads M0 ∧ ((v_X3_numeral E f lo hi = (0, E') ∧ E'.1 1 = M'.1 30 ∧ ((v_X7_reads M0 = (0, M')) ∨ ∃ Mr, v_X7_reads M0 = (1, Mr) ∧ v_X7_isSo Mr (Int32.ofNat w) (Int32.ofNat i) = 0 ∧ M' = msf Mr 30 (Int32.ofNat (a + 1)))) ∨ (v_X3_numeral E f lo hi = (1, E') ∧ ¬ v_X6_within (E'.1 6) lo hi = 0 ∧ (∀ j, M'.2.1 25 j = if j = i then E'.1 6 else M.2.1 25 j) ∧ (∃ a', a < a' ∧ a' ≤ len ∧ E'.1 5 = Int32.ofNat a' ∧ M'.1 27 = Int32.ofNat a') ∧ ∃ Mr, v_X7_reads M0 = (1, Mr) ∧ ¬ v_X7_isSo Mr (Int32.ofNat w) (Int32.ofNat i) = 0 ∧ M' = msa Mr 25 (upd (Mr.2.1 25) i (Mr.1 29)))) := fun M0 hf hx hal hm h25 => by
    obtain ⟨r, E', Mr, e1, m1, e2, e3, m2, m3, m4⟩ := num_ok (hT.mf hf) h4 h5 hx hal hm lo hi
    have fe : EF E E' := ⟨e2, e3⟩
    have fm : MF M Mr := hf.tr (MF.of m2 m3)
    rcases m4 with ⟨q1, q2, q3⟩ | ⟨⟨q0, q0'⟩, q1, q2⟩
    · exact ⟨E', Mr, fe, fm, m1, Or.inl ⟨by rw [e1, q2], q3, Or.inl q1⟩⟩
    · have so := hso Mr (fm.1 0 (by decide) (by decide) (by decide)) (fm.2.1 24 (by decide)) q0 q0'
      rcases q2 with ⟨w1, r1, r2⟩ | ⟨w1, r1, r2, r3⟩
      · exact ⟨E', msf Mr 30 (Int32.ofNat (a + 1)), fe, fm.tr (MF.f _ (by omega)), m1, Or.inl ⟨by rw [e1, r1], by rw [msf_at]; exact r2, Or.inr ⟨Mr, q1, so.mpr w1, rfl⟩⟩⟩
      · obtain ⟨a', a1, a2, a3, a4⟩ := r3
        refine ⟨E', msa Mr 25 (upd (Mr.2.1 25) i (Mr.1 29)), fe, fm.tr (MF.a _ _), m1, Or.inr ⟨by rw [e1, r1], by rw [r2]; exact w1, fun j => ?_, ⟨a', a1, a2, a3, a4⟩, Mr, q1, fun c => w1 (so.mp c), rfl⟩⟩
        rw [msa_at, m2, h25, r2]
        rfl
  rw [v_X7_item_r, p_X7_item_r, h23, if_neg nb, if_neg nb, tn_of (k := i) (by omega), nat1 (by omega)]
  rcases hp with ⟨i0, h27, hx, hal⟩ | ⟨i1, h27, hal⟩
  · have le0 : Int32.ofNat i ≤ 0 := by rw [i0]; decide
    rw [if_pos le0, if_pos le0, h27]
    obtain ⟨E', M', fe, fm, m1, m2⟩ := main M (MF.rf M) hx hal h27 rfl
    refine ⟨E', M', fe, fm, ?_⟩
    rcases m2 with ⟨e1, e2, e3⟩ | ⟨e1, e2, e3, e4, Mr, q1, q2, q3⟩
    · rcases e3 with q1 | ⟨Mr, q1, q2, q3⟩
      · refine Or.inl ⟨e1, ?_, ⟨vw, m1, ?_⟩, e2⟩
        · rw [q1, kk_def, if_pos n00]
        · rw [q1, kk_def, if_pos n00]; trivial
      · refine Or.inl ⟨e1, ?_, ⟨vw, m1, ?_⟩, e2⟩
        · rw [q1, kk_def, if_neg n10]
          dsimp only
          rw [if_pos q2, kk_def, q3]
          rfl
        · rw [q1, kk_def, if_neg n10]
          dsimp only
          rw [if_pos q2]
          exact ⟨pso _, trivial⟩
    · refine Or.inr ⟨e1, ?_, fun h => ⟨vw, m1, ?_⟩, e2, e3, e4⟩
      · rw [q1, kk_def, if_neg n10]
        dsimp only
        rw [if_neg q2, ← q3]
      · rw [q1, kk_def, if_neg n10]
        dsimp only
        rw [if_neg q2, ← q3]
        exact ⟨pso _, vi, h⟩
  · have le0 : ¬ Int32.ofNat i ≤ 0 := by rw [n_le, n_of (by omega), n_0]; omega
    rw [if_neg le0, if_neg le0, h27, hT.2.1]
    by_cases c : a < len
    · obtain ⟨c1, c2⟩ := cell_at hT c
      have wl : ¬ Int32.ofNat len ≤ Int32.ofNat a := by rw [nat_le (by omega) (by omega)]; omega
      rw [if_neg wl, if_neg wl, c2]
      by_cases hx : lt f len a = 32
      · rw [if_pos hx, if_pos hx, nat1 (by omega)]
        obtain ⟨E', M', fe, fm, m1, m2⟩ := main (msf M 27 (Int32.ofNat (a + 1))) (MF.f _ (by omega)) hx (by omega) msf_at rfl
        refine ⟨E', M', fe, fm, ?_⟩
        rcases m2 with ⟨e1, e2, e3⟩ | ⟨e1, e2, e3, e4, Mr, q1, q2, q3⟩
        · rcases e3 with q1 | ⟨Mr, q1, q2, q3⟩
          · refine Or.inl ⟨e1, ?_, ⟨vw, c1, m1, ?_⟩, e2⟩
            · rw [q1, kk_def, if_pos n00]
            · rw [q1, kk_def, if_pos n00]; trivial
          · refine Or.inl ⟨e1, ?_, ⟨vw, c1, m1, ?_⟩, e2⟩
            · rw [q1, kk_def, if_neg n10]
              dsimp only
              rw [if_pos q2, kk_def, q3]
              rfl
            · rw [q1, kk_def, if_neg n10]
              dsimp only
              rw [if_pos q2]
              exact ⟨pso _, trivial⟩
        · refine Or.inr ⟨e1, ?_, fun h => ⟨vw, c1, m1, ?_⟩, e2, e3, e4⟩
          · rw [q1, kk_def, if_neg n10]
            dsimp only
            rw [if_neg q2, ← q3]
          · rw [q1, kk_def, if_neg n10]
            dsimp only
            rw [if_neg q2, ← q3]
            exact ⟨pso _, vi, h⟩
      · rw [if_neg hx, if_neg hx, kk_def]
        exact ⟨e2f E 1 (Int32.ofNat a), msf M 30 (Int32.ofNat a), EF.e1 E _, MF.f _ (by omega), Or.inl ⟨numeral_no h4 h5 hl (by omega) hx lo hi, rfl, ⟨vw, c1, trivial⟩, by rw [e2f_at, msf_at]⟩⟩
    · have wl : Int32.ofNat len ≤ Int32.ofNat a := by rw [nat_le (by omega) (by omega)]; omega
      have hx : ¬ lt f len a = 32 := by
        unfold lt
        rw [if_neg c]
        decide
      rw [if_pos wl, if_pos wl, kk_def]
      exact ⟨e2f E 1 (Int32.ofNat a), msf M 30 (Int32.ofNat a), EF.e1 E _, MF.f _ (by omega), Or.inl ⟨numeral_no h4 h5 hl (by omega) hx lo hi, rfl, ⟨vw, trivial⟩, by rw [e2f_at, msf_at]⟩⟩
end
