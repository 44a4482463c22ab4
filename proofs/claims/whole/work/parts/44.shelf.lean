/-! shelves: row, set, copy, element, show, holds -/
theorem within_iff {x a b : Int32} : v_X6_within x a b = 0 ↔ ¬ (a.toInt ≤ x.toInt ∧ x.toInt ≤ b.toInt) := by
  unfold v_X6_within
  by_cases h1 : x < a
  · rw [if_pos h1]
    rw [n_lt] at h1
    exact ⟨fun _ h => by omega, fun _ => rfl⟩
  · rw [if_neg h1]
    rw [n_lt] at h1
    by_cases h2 : b < x
    · rw [if_pos h2]
      rw [n_lt] at h2
      exact ⟨fun _ h => by omega, fun _ => rfl⟩
    · rw [if_neg h2]
      rw [n_lt] at h2
      exact ⟨fun h => absurd h (by decide), fun h => absurd ⟨by omega, by omega⟩ h⟩
theorem from_iff {M : mT} {x a b : Int32} : v_X7_isFrom M x a b = 0 ↔ ¬ (a.toInt ≤ x.toInt ∧ x.toInt ≤ b.toInt) := within_iff
theorem from_eq {M : mT} {x a b : Int32} : v_X7_isFrom M x a b = v_X6_within x a b := rfl
theorem bit01 {c : Prop} [Decidable c] {r : Int32} (h : r = 0 ∨ r = 1) (h2 : r = 0 ↔ ¬ c) : r = if c then 1 else 0 := by
  by_cases hc : c
  · rw [if_pos hc]
    exact h.resolve_left (fun e => h2.mp e hc)
  · rw [if_neg hc]
    exact h2.mpr hc
theorem sOK_el {M : mT} {P : pT} {N : nT} {R Q : rT} {V : vT} {F : fT} (h : RA P N R Q V F M) {k : Nat} (hk : k < 8) : RS (F k) M k := h.2.1 k hk
/-- the places of a shelf's cells -/
theorem cell_ix {x y : Int32} (hx : vp_in x 8) (hy : 0 ≤ y.toInt ∧ y.toInt < 160) : vp_in ((160 * x) + y) 1280 ∧ ((160 * x) + y).toNatClampNeg = 160 * x.toNatClampNeg + y.toNatClampNeg := by
  rw [vp_iff] at hx
  have h1 : (160 * x : Int32).toInt = 160 * x.toInt := by rw [n_mul (by rw [n_160]; omega) (by rw [n_160]; omega), n_160]
  have h2 : (160 * x + y : Int32).toInt = 160 * x.toInt + y.toInt := by rw [n_add (by rw [h1]; omega) (by rw [h1]; omega), h1]
  refine ⟨?_, ?_⟩
  · rw [vp_iff, h2]; omega
  · rw [n_tn, n_tn, n_tn, h2]; omega
theorem startRow_loop : ∀ (n : Nat) (S : sT) (v : Int32), 0 ≤ v.toInt → v.toInt ≤ 160 → (S.1 2).toInt ≤ 160 → 160 - v.toInt < n → p_X5_startRow_r n S v ∧ (v_X5_startRow_r n S v).1 = S.1 ∧ ∀ i : Nat, ((v.toInt ≤ (i : Int) ∧ (i : Int) < (S.1 2).toInt) → (v_X5_startRow_r n S v).2 i = 0) ∧ (¬ (v.toInt ≤ (i : Int) ∧ (i : Int) < (S.1 2).toInt) → (v_X5_startRow_r n S v).2 i = S.2 i) := by
  intro n
  induction n with
  | zero =>
    intro S v h0 hv h1 h2; omega
  | succ n ih =>
    intro S v h0 hv0 h1 h2
    rw [p_X5_startRow_r, v_X5_startRow_r]
    by_cases hc : S.1 2 ≤ v
    · rw [if_pos hc, if_pos hc]
      rw [n_le] at hc
      exact ⟨trivial, rfl, fun i => ⟨fun hi => by omega, fun _ => rfl⟩⟩
    · rw [if_neg hc, if_neg hc]
      rw [n_le] at hc
      have hv : (v + 1).toInt = v.toInt + 1 := by rw [n_add (by rw [n_1]; omega) (by rw [n_1]; omega), n_1]
      obtain ⟨a, b, c⟩ := ih (ssa S (vp_updL S.2 v.toNatClampNeg 0)) (v + 1) (by omega) (by omega) h1 (by omega)
      refine ⟨⟨by rw [vp_iff]; omega, a⟩, b, fun i => ⟨fun hi => ?_, fun hi => ?_⟩⟩
      · by_cases e : (i : Int) = v.toInt
        · rw [(c i).2 (by show ¬ (_ ∧ _); omega)]
          show vp_updL S.2 v.toNatClampNeg 0 i = 0
          rw [show i = v.toNatClampNeg by rw [n_tn]; omega, updL_at]
        · exact (c i).1 ⟨by omega, hi.2⟩
      · rw [(c i).2 (fun q => hi ⟨by omega, q.2⟩)]
        show vp_updL S.2 v.toNatClampNeg 0 i = S.2 i
        exact updL_ne (fun e => hi ⟨by rw [e, n_tn]; omega, by rw [e, n_tn]; omega⟩)
theorem row_loop (x : Int32) (hx : vp_in x 8) : ∀ (n : Nat) (M : mT) (v : Int32), 0 ≤ v.toInt → v.toInt ≤ 160 → 160 - v.toInt < n → p_X7_row_r n M x v ∧ (v_X7_row_r n M x v).1 = 1 ∧ (v_X7_row_r n M x v).2.1 = M.1 ∧ (v_X7_row_r n M x v).2.2.1 = M.2.1 ∧ ∀ i : Nat, ((160 * x.toNatClampNeg + v.toNatClampNeg ≤ i ∧ i < 160 * x.toNatClampNeg + 160) → (v_X7_row_r n M x v).2.2.2 20 i = 0) ∧ (¬ (160 * x.toNatClampNeg + v.toNatClampNeg ≤ i ∧ i < 160 * x.toNatClampNeg + 160) → (v_X7_row_r n M x v).2.2.2 20 i = M.2.2 20 i) := by
  intro n
  induction n with
  | zero => intro M v h0 h1 h2; omega
  | succ n ih =>
    intro M v h0 h1 h2
    rw [p_X7_row_r, v_X7_row_r]
    by_cases hc : (160 : Int32) ≤ v
    · rw [if_pos hc, if_pos hc]
      rw [n_le, n_160] at hc
      exact ⟨trivial, rfl, rfl, rfl, fun i => ⟨fun hi => by rw [n_tn v] at hi; omega, fun _ => rfl⟩⟩
    · rw [if_neg hc, if_neg hc]
      rw [n_le, n_160] at hc
      have hv : (v + 1).toInt = v.toInt + 1 := by rw [n_add (by rw [n_1]; omega) (by rw [n_1]; omega), n_1]
      obtain ⟨i1, i2⟩ := cell_ix hx (y := v) ⟨h0, by omega⟩
      obtain ⟨a, b, c, d, e⟩ := ih (msl M 20 (vp_updL (M.2.2 20) ((160 * x) + v).toNatClampNeg 0)) (v + 1) (by omega) (by omega) (by omega)
      have hv2 : (v + 1).toNatClampNeg = v.toNatClampNeg + 1 := by rw [n_tn, n_tn, hv]; omega
      refine ⟨⟨i1, a⟩, b, c, d, fun i => ⟨fun hi => ?_, fun hi => ?_⟩⟩
      · by_cases q : i = 160 * x.toNatClampNeg + v.toNatClampNeg
        · rw [(e i).2 (by rw [hv2]; omega)]
          rw [msl_at, i2, q, updL_at]
        · exact (e i).1 (by rw [hv2]; omega)
      · rw [(e i).2 (by rw [hv2]; omega)]
        rw [msl_at, i2, updL_ne (by intro e; exact hi ⟨Nat.le_of_eq e.symm, by rw [e, n_tn v]; omega⟩)]
section
variable {P : pT} {N : nT} {R Q : rT} {V : vT} {F : fT} {M : mT}
/-- one shelf has changed, the reference in its shelves alone -/
theorem RA_shelf (h : RA P N R Q V F M) {M' : mT} {S : sT} {k : Nat} (hk : k < 8) (e1 : M'.1 = M.1) (e2 : ∀ j, ¬ (16 ≤ j ∧ j ≤ 19) → M'.2.1 j = M.2.1 j) (e3 : ∀ j s, 16 ≤ j → j ≤ 19 → s ≠ k → M'.2.1 j s = M.2.1 j s) (e4 : ∀ i, ¬ (160 * k ≤ i ∧ i < 160 * k + 160) → M'.2.2 20 i = M.2.2 20 i) (hS : RS S M' k) : RA P N R Q V (va_up F k S) M' := by
  obtain ⟨⟨n1, n2, n3, n4⟩, hF, hR, hQ, ⟨v1, v2, v3⟩, ⟨c1, c2, c3, c4⟩⟩ := h
  refine ⟨⟨fun j hj => by rw [e2 8 (by decide)]; exact n1 j hj, by rw [e1]; exact n2, by rw [e1]; exact n3, n4⟩, fun s hs => ?_, RD_congr (fun j hj c _ => by show M'.2.1 (9 + j) c = _; rw [e2 (9 + j) (by omega)]) (fun i hi => by rw [e1]) hR, fun hi => RD_congr (fun j _ c _ => by show M'.2.1 32 _ = _; rw [e2 32 (by decide)]) (fun i _ => by show M'.2.1 32 _ = _; rw [e2 32 (by decide)]) (hQ hi), ⟨by rw [e1]; exact v1, by rw [e1]; exact v2, fun i hi hl => by rw [e1] at hl; rw [e2 42 (by decide)]; exact v3 i hi hl⟩, ⟨by rw [e1]; exact c1, fun i hi => by rw [e2 22 (by decide)]; exact c2 i hi, fun i hi => by rw [e2 23 (by decide)]; exact c3 i hi, fun i hi => by rw [e2 24 (by decide)]; exact c4 i hi⟩⟩
  by_cases q : s = k
  · subst q
    rw [up_at]
    exact hS
  · rw [up_ne q]
    exact RS_congr (e3 16 s (by decide) (by decide) q) (e3 17 s (by decide) (by decide) q) (e3 18 s (by decide) (by decide) q) (e3 19 s (by decide) (by decide) q) (fun i hi => e4 _ (by omega)) (by rw [e1]) (hF s hs)
theorem op_row (h : RA P N R Q V F M) (x1 x2 x3 : Int32) : p_X6_row N F x1 x2 x3 ∧ p_X7_row M x1 x2 x3 ∧ (v_X6_row N F x1 x2 x3).1 = (v_X7_row M x1 x2 x3).1 ∧ RA P (v_X6_row N F x1 x2 x3).2.1 R Q V (v_X6_row N F x1 x2 x3).2.2 (v_X7_row M x1 x2 x3).2 := by
  unfold p_X6_row p_X7_row v_X6_row v_X7_row
  simp only [kk]
  rcases shelf_cases N M x1 with ⟨e1, e2⟩ | ⟨e1, e2, e3, e4⟩
  · simp only [e1, e2, oc_none, n10f, if_true, if_false]
    exact ⟨⟨p_shelfAt N x1, p_refuse N 1⟩, p_no (b := 1) (by decide) (by decide), RA_refuse h (b := 1) (by decide) (by decide)⟩
  · simp only [e1, e2, oc_some, n10f, if_true, if_false]
    by_cases c1 : (0 : Int32) ≤ x3
    · simp only [c1, n10f, if_true, if_false]
      by_cases c2 : x2 < 0
      · have w0 : v_X6_within x2 0 3 = 0 := by rw [within_iff, n_0, n_3]; rw [n_lt, n_0] at c2; omega
        simp only [c2, w0, n10f, if_true, if_false]
        exact ⟨⟨p_shelfAt N x1, p_refuse N 6⟩, p_no (b := 6) (by decide) (by decide), RA_refuse h (b := 6) (by decide) (by decide)⟩
      · by_cases c3 : x2 ≤ 3
        · have w0 : ¬ v_X6_within x2 0 3 = 0 := by rw [within_iff, n_0, n_3]; rw [n_lt, n_0] at c2; rw [n_le, n_3] at c3; omega
          simp only [c2, c3, w0, n10f, if_true, if_false]
          rw [n_le, n_0] at c1
          rw [n_lt, n_0] at c2
          rw [n_le, n_3] at c3
          by_cases c4 : x3 ≤ 160
          · simp only [c4, n10f, if_true, if_false]
            rw [n_le, n_160] at c4
            have hl : (if 0 < (if 160 < x3 then 160 else x3) then (if 160 < x3 then 160 else x3) else 0) = x3 := by
              rw [if_neg (show ¬ (160 : Int32) < x3 by rw [n_lt, n_160]; omega)]
              by_cases z : (0 : Int32) < x3
              · rw [if_pos z]
              · rw [if_neg z]
                rw [n_lt, n_0] at z
                rw [n_eq, n_0]; omega
            obtain ⟨sa, sb, sc⟩ := startRow_loop 200 (ssf (ssf (F x1.toNatClampNeg) 1 (100 + x2)) 2 x3) 0 (by decide) (by decide) (by show x3.toInt ≤ 160; exact c4) (by decide)
            obtain ⟨ra, rb, rc, rd, re⟩ := row_loop x1 e4 200 (msa (msa (msa M 16 (upd (M.2.1 16) x1.toNatClampNeg 1)) 17 (upd (M.2.1 17) x1.toNatClampNeg x2)) 18 (upd (M.2.1 18) x1.toNatClampNeg x3)) 0 (by decide) (by decide) (by decide)
            refine ⟨⟨p_shelfAt N x1, ?_⟩, ⟨e4, e4, e4, ra⟩, rb.symm, ?_⟩
            · unfold p_X5_startRow kk
              rw [hl]
              exact sa
            · unfold v_X5_startRow kk
              rw [hl]
              refine RA_shelf h e3 rc (fun j hj => ?_) (fun j s hj hj2 hs => ?_) (fun i hi => ?_) (Or.inr (Or.inl ⟨?_, ?_, ?_, ?_, ?_, fun i hi => ?_⟩))
              · rw [rd]
                show va_up (va_up (va_up M.2.1 16 _) 17 _) 18 _ j = _
                rw [up_ne (by omega), up_ne (by omega), up_ne (by omega)]
              · rw [rd]
                show va_up (va_up (va_up M.2.1 16 _) 17 _) 18 _ j s = _
                rcases (show j = 16 ∨ j = 17 ∨ j = 18 ∨ j = 19 by omega) with rfl | rfl | rfl | rfl
                · exact upd_ne hs
                · exact upd_ne hs
                · exact upd_ne hs
                · rfl
              · rw [(re i).2 (by rw [show (0 : Int32).toNatClampNeg = 0 from rfl]; omega)]
                rfl
              · rw [rd]; exact upd_at
              · rw [rd, sb]
                show 100 + x2 = 100 + upd (M.2.1 17) x1.toNatClampNeg x2 x1.toNatClampNeg
                rw [upd_at]
              · rw [rd]
                show 0 ≤ (upd (M.2.1 17) x1.toNatClampNeg x2 x1.toNatClampNeg).toInt ∧ (upd (M.2.1 17) x1.toNatClampNeg x2 x1.toNatClampNeg).toInt ≤ 3
                rw [upd_at]; omega
              · rw [rd, sb]
                show x3 = upd (M.2.1 18) x1.toNatClampNeg x3 x1.toNatClampNeg
                rw [upd_at]
              · rw [rd]
                show 0 ≤ (upd (M.2.1 18) x1.toNatClampNeg x3 x1.toNatClampNeg).toInt ∧ (upd (M.2.1 18) x1.toNatClampNeg x3 x1.toNatClampNeg).toInt ≤ 160
                rw [upd_at]; omega
              · rw [rd] at hi
                have hi : (i : Int) < (upd (M.2.1 18) x1.toNatClampNeg x3 x1.toNatClampNeg).toInt := hi
                rw [upd_at] at hi
                rw [(sc i).1 ⟨by rw [n_0]; omega, hi⟩, (re _).1 (by rw [show (0 : Int32).toNatClampNeg = 0 from rfl]; omega)]
          · simp only [c4, n10f, if_true, if_false]
            exact ⟨⟨p_shelfAt N x1, p_refuse N 7⟩, p_no (b := 7) (by decide) (by decide), RA_refuse h (b := 7) (by decide) (by decide)⟩
        · have w0 : v_X6_within x2 0 3 = 0 := by rw [within_iff, n_0, n_3]; rw [n_le, n_3] at c3; omega
          simp only [c2, c3, w0, n10f, if_true, if_false]
          exact ⟨⟨p_shelfAt N x1, p_refuse N 6⟩, p_no (b := 6) (by decide) (by decide), RA_refuse h (b := 6) (by decide) (by decide)⟩
    · simp only [c1, n10f, if_true, if_false]
      exact ⟨⟨p_shelfAt N x1, p_refuse N 4⟩, p_no (b := 4) (by decide) (by decide), RA_refuse h (b := 4) (by decide) (by decide)⟩
end
