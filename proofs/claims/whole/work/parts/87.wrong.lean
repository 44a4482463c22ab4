/-! told days -/
def CW (M M' : mT) : Prop := (∀ i, i ≠ 37 → i ≠ 38 → i ≠ 39 → M'.1 i = M.1 i) ∧ (∀ j, j ≠ 33 → j ≠ 34 → M'.2.1 j = M.2.1 j) ∧ M'.2.2 = M.2.2
theorem CW.rf (M : mT) : CW M M := ⟨fun _ _ _ _ => rfl, fun _ _ _ => rfl, rfl⟩
theorem CW.tr {M1 M2 M3 : mT} (h1 : CW M1 M2) (h2 : CW M2 M3) : CW M1 M3 := ⟨fun i a b c => (h2.1 i a b c).trans (h1.1 i a b c), fun j a b => (h2.2.1 j a b).trans (h1.2.1 j a b), h2.2.2.trans h1.2.2⟩
theorem CM.w {M M' : mT} (h : CM M M') : CW M M' := ⟨h.1, fun j _ b => h.2.1 j b, h.2.2⟩
theorem CLn.w {M M' : mT} (h : CLn M M') : CW M M' := ⟨fun i _ _ _ => by rw [h.1], fun j a _ => h.2.1 j a, h.2.2⟩
theorem CW.q {M M' : mT} (h : CW M M') : MEQ M M' := ⟨fun i hi => h.1 i (by omega) (by omega) (by omega), fun j hj => h.2.1 j (by omega) (by omega), by rw [h.2.2]⟩
theorem RR_w {P : pT} {R : rT} {M M' : mT} (f : CW M M') (h : RR P R M) : RR P R M' := RD_congr (fun j hj c _ => by show M'.2.1 (9 + j) c = _; rw [f.2.1 (9 + j) (by omega) (by omega)]) (fun i hi => f.1 i (by omega) (by omega) (by omega)) h
theorem RS1_w {S : sT} {M M' : mT} {s : Nat} (f : CW M M') (h : RS1 S M s) : RS1 S M' s := by
  obtain ⟨a, b, c, d, e, g⟩ := h
  refine ⟨by rw [f.2.1 16 (by decide) (by decide)]; exact a, by rw [f.2.1 17 (by decide) (by decide)]; exact b, by rw [f.2.1 17 (by decide) (by decide)]; exact c, by rw [f.2.1 18 (by decide) (by decide)]; exact d, by rw [f.2.1 18 (by decide) (by decide)]; exact e, fun i hi => ?_⟩
  rw [f.2.1 18 (by decide) (by decide)] at hi
  rw [f.2.2]
  exact g i hi
theorem int_w {M M' : mT} (f : CW M M') (x y : Int32) : v_X7_intAt M' x y = v_X7_intAt M x y := by
  unfold v_X7_intAt
  rw [f.2.2]
theorem told_w {M M' : mT} (f : CW M M') (v : Int32) : v_X7_toldOf M' v = v_X7_toldOf M v := by
  unfold v_X7_toldOf
  rw [f.1 0 (by decide) (by decide) (by decide)]
section
variable {P : pT} {R : rT} {M : mT} {O : oT} {S : sT}
theorem told_c (hR : RR P R M) (v : Int32) : v_X7_toldOf M v = -1 ∨ (isC M.1 (v_X7_toldOf M v) ∧ v_X7_toldOf M v = v / 10 ∧ ¬ v < 0 ∧ ¬ 2 < v - v / 10 * 10) := by
  unfold v_X7_toldOf
  by_cases h1 : v < 0
  · rw [if_pos h1]; exact Or.inl rfl
  · rw [if_neg h1]
    by_cases h2 : 2 < v - v / 10 * 10
    · rw [if_pos h2]; exact Or.inl rfl
    · rw [if_neg h2]
      by_cases h3 : M.1 0 ≤ v / 10
      · rw [if_pos h3]; exact Or.inl rfl
      · rw [if_neg h3]
        have hd : (v / 10).toInt = v.toInt / 10 := n_div (by rw [n_lt, n_0] at h1; omega) (by decide)
        rw [n_lt, n_0] at h1
        rw [n_le, hd] at h3
        exact Or.inr ⟨⟨by rw [hd]; omega, by rw [hd]; omega⟩, rfl, by rw [n_lt, n_0]; exact h1, h2⟩
/-- of whom an element tells, if he isn't there yet -/
def TD (M : mT) (v m : Int32) : Int32 := if v_X7_toldOf M v = -1 then -1 else if ((m >>> (v_X7_toldOf M v &&& 31)) &&& 1) = 1 then -1 else v_X7_toldOf M v
theorem told_eq (hR : RR P R M) {i m : Int32} {n k : Nat} (hk : k < 128) (hm : m = Int32.ofNat k) (hi : ¬ Int32.ofNat n ≤ i) : v_X2_toldAt O R S i (Int32.ofNat n) m = TD M (v_X5_intAt S i) m := by
  unfold v_X2_toldAt TD
  rw [if_neg hi]
  generalize v_X5_intAt S i = v
  have ht := told_c hR v
  unfold v_X7_toldOf at ht ⊢
  by_cases h1 : v < 0
  · rw [if_pos h1, if_pos h1, if_pos rfl]
  · rw [if_neg h1] at ht ⊢
    rw [if_neg h1]
    by_cases h2 : 2 < v - v / 10 * 10
    · rw [if_pos h2, if_pos rfl, if_neg (by rw [n_le]; rw [n_lt] at h2; omega)]
    · rw [if_neg h2] at ht ⊢
      rw [if_pos (by rw [n_le]; rw [n_lt] at h2; omega)]
      by_cases h3 : M.1 0 ≤ v / 10
      · have hx : v_X4_has R (v / 10) = 0 := by
          rw [has_iff hR]
          intro q
          have := q.2
          rw [n_le] at h3
          omega
        rw [if_pos h3, if_pos rfl, if_pos hx]
      · rw [if_neg h3] at ht ⊢
        rcases ht with q | ⟨q, -⟩
        · have hd : (v / 10).toInt = v.toInt / 10 := n_div (by rw [n_lt, n_0] at h1; omega) (by decide)
          have q2 : (v / 10).toInt = -1 := by rw [q]; rfl
          rw [n_lt, n_0] at h1
          omega
        · have hx : ¬ v_X4_has R (v / 10) = 0 := by rw [has_iff hR]; exact fun z => z q
          have hn : ¬ v / 10 = -1 := fun z => by
            have := q.1
            rw [z, n_m1] at this
            omega
          rw [if_neg hx, if_neg hn]
          obtain ⟨c, hc, ec⟩ : ∃ c : Nat, c < 7 ∧ v / 10 = Int32.ofNat c := ⟨(v / 10).toNatClampNeg, by rw [n_tn]; have := q.1; have := q.2; have := hR.2.1.1; omega, n_back q.1⟩
          rw [hm, ec]
          obtain ⟨b1, b0, -⟩ := bits_all c hc k hk
          by_cases t : k.testBit c = true
          · have g1 := b1.mpr t
            rw [if_pos g1, if_neg (by rw [g1]; decide)]
          · have t0 : k.testBit c = false := by
              rcases hq : k.testBit c with _ | _
              · rfl
              · exact absurd hq t
            have g0 := b0.mpr t0
            rw [if_pos g0, if_neg (by rw [g0]; decide)]
theorem TD_c (hR : RR P R M) (v m : Int32) : TD M v m = -1 ∨ (isC M.1 (TD M v m) ∧ TD M v m = v_X7_toldOf M v ∧ ¬ v_X7_toldOf M v = -1 ∧ ¬ ((m >>> (v_X7_toldOf M v &&& 31)) &&& 1) = 1) := by
  unfold TD
  by_cases h1 : v_X7_toldOf M v = -1
  · rw [if_pos h1]; exact Or.inl rfl
  · rw [if_neg h1]
    by_cases h2 : ((m >>> (v_X7_toldOf M v &&& 31)) &&& 1) = 1
    · rw [if_pos h2]; exact Or.inl rfl
    · rw [if_neg h2]
      rcases told_c hR v with q | ⟨q, -⟩
      · exact absurd q h1
      · exact Or.inr ⟨q, rfl, h1, h2⟩
theorem p_toldx (hR : RR P R M) {i n m : Int32} : p_X2_toldAt O R S i n m := by
  unfold p_X2_toldAt
  refine ⟨p_intx, ?_⟩
  split
  · trivial
  · split
    · trivial
    · split
      · exact p_has hR _
      · trivial
theorem comes_pay {x a b c : Int32} (hR : RR P R M) (hx : isC M.1 x) (h : v_X4_comesTo P R x a b c = 1) : (M.1 3).toInt ≤ (M.2.1 14 x.toNatClampNeg).toInt := by
  have n2 : R.2.1 2 x.toNatClampNeg = M.2.1 14 x.toNatClampNeg := (hR.cm hx).2.1.2.1
  have e7 : R.1 7 = M.1 3 := hR.1.2.2.2.1
  unfold v_X4_comesTo at h
  rw [has_in hR hx, if_neg n10] at h
  generalize v_X4_slowAt P R x (R.1 6) ((R.2.1 1) x.toNatClampNeg) a b c = s at h
  by_cases d : s = -1
  · rw [if_pos d] at h
    exact absurd h (by decide)
  · rw [if_neg d] at h
    by_cases e : (R.2.1 2) x.toNatClampNeg < R.1 7
    · rw [if_pos e] at h
      exact absurd h (by decide)
    · rw [n2, e7, n_lt] at e
      omega
end
