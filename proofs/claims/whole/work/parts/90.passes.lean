/-! a day passes -/
def up30 (d : Int32) : Int32 := d + (if 30 ≤ d then 0 else 1)
def dn0 (d : Int32) : Int32 := d - (if d ≤ 0 then 0 else 1)
theorem up30_eq {d : Int32} (h : 0 ≤ d.toInt ∧ d.toInt ≤ 30) : (if d + 1 < 30 then d + 1 else 30) = up30 d ∧ 0 ≤ (up30 d).toInt ∧ (up30 d).toInt ≤ 30 := by
  have e1 : (d + 1).toInt = d.toInt + 1 := by rw [n_add (by rw [n_1]; omega) (by rw [n_1]; omega), n_1]
  have e0 : d + 0 = d := Int32.add_zero d
  unfold up30
  by_cases c : 30 ≤ d
  · rw [if_pos c, e0]
    rw [n_le, n_30] at c
    have w : ¬ d + 1 < 30 := by rw [n_lt, e1, n_30]; omega
    rw [if_neg w]
    exact ⟨by rw [n_eq, n_30]; omega, h⟩
  · rw [if_neg c]
    rw [n_le, n_30] at c
    by_cases w : d + 1 < 30
    · rw [if_pos w]; exact ⟨rfl, by omega⟩
    · rw [if_neg w]
      rw [n_lt, e1, n_30] at w
      exact ⟨by rw [n_eq, n_30, e1]; omega, by omega⟩
theorem dn0_eq {d : Int32} (h : 0 ≤ d.toInt ∧ d.toInt ≤ 30) : (if 0 < d - 1 then d - 1 else 0) = dn0 d ∧ 0 ≤ (dn0 d).toInt ∧ (dn0 d).toInt ≤ 30 := by
  have e1 : (d - 1).toInt = d.toInt - 1 := by rw [n_sub (by rw [n_1]; omega) (by rw [n_1]; omega), n_1]
  have e0 : d - 0 = d := Int32.sub_zero d
  unfold dn0
  by_cases c : d ≤ 0
  · rw [if_pos c, e0]
    rw [n_le, n_0] at c
    have w : ¬ 0 < d - 1 := by rw [n_lt, e1, n_0]; omega
    rw [if_neg w]
    exact ⟨by rw [n_eq, n_0]; omega, h⟩
  · rw [if_neg c]
    rw [n_le, n_0] at c
    by_cases w : 0 < d - 1
    · rw [if_pos w]; exact ⟨rfl, by omega⟩
    · rw [if_neg w]
      rw [n_lt, e1, n_0] at w
      exact ⟨by rw [n_eq, n_0, e1]; omega, by omega⟩
def PI (f : Nat → Nat) (M0 M : mT) (j : Nat) : Prop := M.1 = M0.1 ∧ (∀ i, i ≠ 11 → i ≠ 14 → i ≠ 15 → M.2.1 i = M0.2.1 i) ∧ M.2.2 = M0.2.2 ∧ (∀ c, c < 7 → M.2.1 14 c = if (ksum f (M0.2.1 34) 1 j).testBit c = true then M0.2.1 14 c - M0.1 3 else M0.2.1 14 c) ∧ (∀ c, c < 7 → M.2.1 15 c = if (ksum f (M0.2.1 34) 1 j).testBit c = true then up30 (M0.2.1 15 c) else if (ksum f (M0.2.1 34) 0 j).testBit c = true then dn0 (M0.2.1 15 c) else M0.2.1 15 c) ∧ ∀ c, c < 7 → M.2.1 11 c = if (ksum f (M0.2.1 34) 0 j).testBit c = true then up30 (M0.2.1 11 c) else M0.2.1 11 c
section
variable {P : pT} {R : rT} {M0 : mT} {f : Nat → Nat} {n : Nat}
/-- the bits behind one more -/
theorem bits_more {w : Nat → Int32} {h : Int32} {j : Nat} (hj : j + 1 ≤ 7) (hd : DL f (j + 1)) (e : w j = h) : ∀ d, d < 7 → ((ksum f w h (j + 1)).testBit d = true ↔ ((ksum f w h j).testBit d = true ∨ d = f j)) := fun d hd7 => by
  obtain ⟨a1, -, a3⟩ := ksum_ok (f := f) (w := w) (h := h) j (by omega) (hd.le (by omega))
  have f7 := hd.1 j (by omega)
  have hb : (ksum f w h j).testBit (f j) = false := by
    rcases hq : (ksum f w h j).testBit (f j) with _ | _
    · rfl
    · obtain ⟨i, h1, h2, -⟩ := (a3 (f j) f7).mp hq
      have := hd.2 i j (by omega) (by omega) h2
      omega
  rw [ksum, if_pos e, bits_set (f j) f7 d hd7 _ a1 hb, Bool.or_eq_true, beq_iff_eq]
theorem bit_new {w : Nat → Int32} {h : Int32} {j : Nat} (hj : j + 1 ≤ 7) (hd : DL f (j + 1)) : ¬ (ksum f w h j).testBit (f j) = true := fun hq => by
  obtain ⟨a1, -, a3⟩ := ksum_ok (f := f) (w := w) (h := h) j (by omega) (hd.le (by omega))
  obtain ⟨i, h1, h2, -⟩ := (a3 (f j) (hd.1 j (by omega))).mp hq
  have := hd.2 i j (by omega) (by omega) h2
  omega
theorem if_congr2 {a b : Prop} [Decidable a] [Decidable b] {α : Sort _} {x y : α} (h : a ↔ b) : (if a then x else y) = (if b then x else y) := by
  by_cases c : a
  · rw [if_pos c, if_pos (h.mp c)]
  · rw [if_neg c, if_neg (fun q => c (h.mpr q))]
theorem pass_loop (hn : n ≤ 7) (hd : DL f n) (h33 : ∀ j, j < n → M0.2.1 33 j = Int32.ofNat (f j)) : ∀ (fu j : Nat) (M : mT), j ≤ n → n - j < fu → PI f M0 M j → p_X7_passes_r fu M (Int32.ofNat n) (Int32.ofNat j) ∧ ∃ M', v_X7_passes_r fu M (Int32.ofNat n) (Int32.ofNat j) = msf M' 5 (M'.1 5 + 1) ∧ PI f M0 M' n := by
  intro fu
  induction fu with
  | zero => intro j M _ h; omega
  | succ fu ih =>
    intro j M hj hfu hP
    rw [p_X7_passes_r, v_X7_passes_r]
    by_cases c : j = n
    · have w : Int32.ofNat n ≤ Int32.ofNat j := by rw [nat_le (by omega) (by omega)]; omega
      rw [if_pos w, if_pos w]
      subst c
      exact ⟨trivial, M, rfl, hP⟩
    · have w : ¬ Int32.ofNat n ≤ Int32.ofNat j := by rw [nat_le (by omega) (by omega)]; omega
      obtain ⟨i1, i2, i3, i4, i5, i6⟩ := hP
      have f7 := hd.1 j (by omega)
      have hd1 := hd.le (show j + 1 ≤ n by omega)
      have e33 : (M.2.1 33) j = Int32.ofNat (f j) := by rw [i2 33 (by decide) (by decide) (by decide)]; exact h33 j (by omega)
      have e34 : (M.2.1 34) j = M0.2.1 34 j := by rw [i2 34 (by decide) (by decide) (by decide)]
      have v7 : vp_in (Int32.ofNat j) 7 := nat_in (by omega) (by omega)
      have x7 : vp_in (Int32.ofNat (f j)) 7 := nat_in f7 (by omega)
      rw [if_neg w, if_neg w, tn_of (by omega), e33, e34, tn_of (by omega), kk_def, kk_def, nat1 (by omega), i1]
      have h0 := bit_new (w := M0.2.1 34) (h := 0) (show j + 1 ≤ 7 by omega) hd1
      have h1 := bit_new (w := M0.2.1 34) (h := 1) (show j + 1 ≤ 7 by omega) hd1
      by_cases c1 : M0.2.1 34 j = 1
      · have m1 := bits_more (h := 1) (show j + 1 ≤ 7 by omega) hd1 c1
        have m0 : ksum f (M0.2.1 34) 0 (j + 1) = ksum f (M0.2.1 34) 0 j := ksum_no (by rw [c1]; decide)
        rw [if_pos c1, if_pos c1]
        obtain ⟨j1, M', j2, j3⟩ := ih (j + 1) (msa (msa M 14 (upd (M.2.1 14) (f j) (M.2.1 14 (f j) - M0.1 3))) 15 (upd (M.2.1 15) (f j) (M.2.1 15 (f j) + (if 30 ≤ M.2.1 15 (f j) then 0 else 1)))) (by omega) (by omega) ⟨i1, fun i q1 q2 q3 => by rw [msa_ne q3, msa_ne q2]; exact i2 i q1 q2 q3, i3, fun d hd7 => by
            rw [msa_ne (by decide), msa_at, if_congr2 (m1 d hd7)]
            by_cases z : d = f j
            · rw [z, upd_at, if_pos (Or.inr rfl), i4 _ f7, if_neg h1]
            · rw [upd_ne z, i4 d hd7]
              exact if_congr2 ⟨Or.inl, fun q => by rcases q with q | q; exact q; exact absurd q z⟩, fun d hd7 => by
            rw [msa_at, if_congr2 (m1 d hd7), m0]
            by_cases z : d = f j
            · rw [z, upd_at, if_pos (Or.inr rfl)]
              have e5 := i5 _ f7
              rw [if_neg h1, if_neg h0] at e5
              rw [e5]; rfl
            · rw [upd_ne z, i5 d hd7]
              exact if_congr2 ⟨Or.inl, fun q => by rcases q with q | q; exact q; exact absurd q z⟩, fun d hd7 => by
            rw [msa_ne (by decide), msa_ne (by decide), m0]; exact i6 d hd7⟩
        exact ⟨⟨v7, v7, ⟨x7, x7, x7, x7, x7⟩, j1⟩, M', j2, j3⟩
      · rw [if_neg c1, if_neg c1]
        have m1 : ksum f (M0.2.1 34) 1 (j + 1) = ksum f (M0.2.1 34) 1 j := ksum_no c1
        by_cases c0 : M0.2.1 34 j = 0
        · have m0 := bits_more (h := 0) (show j + 1 ≤ 7 by omega) hd1 c0
          rw [if_pos c0, if_pos c0]
          obtain ⟨j1, M', j2, j3⟩ := ih (j + 1) (msa (msa M 11 (upd (M.2.1 11) (f j) (M.2.1 11 (f j) + (if 30 ≤ M.2.1 11 (f j) then 0 else 1)))) 15 (upd (M.2.1 15) (f j) (M.2.1 15 (f j) - (if M.2.1 15 (f j) ≤ 0 then 0 else 1)))) (by omega) (by omega) ⟨i1, fun i q1 q2 q3 => by rw [msa_ne q3, msa_ne q1]; exact i2 i q1 q2 q3, i3, fun d hd7 => by
              rw [msa_ne (by decide), msa_ne (by decide), m1]; exact i4 d hd7, fun d hd7 => by
              rw [msa_at, if_congr2 (m0 d hd7), m1]
              by_cases z : d = f j
              · rw [z, upd_at, if_neg h1, if_pos (Or.inr rfl)]
                have e5 := i5 _ f7
                rw [if_neg h1, if_neg h0] at e5
                rw [e5]; rfl
              · rw [upd_ne z, i5 d hd7]
                by_cases y : (ksum f (M0.2.1 34) 1 j).testBit d = true
                · rw [if_pos y, if_pos y]
                · rw [if_neg y, if_neg y]
                  exact if_congr2 ⟨Or.inl, fun q => by rcases q with q | q; exact q; exact absurd q z⟩, fun d hd7 => by
              rw [msa_ne (by decide), msa_at, if_congr2 (m0 d hd7)]
              by_cases z : d = f j
              · rw [z, upd_at, if_pos (Or.inr rfl)]
                have e6 := i6 _ f7
                rw [if_neg h0] at e6
                rw [e6]; rfl
              · rw [upd_ne z, i6 d hd7]
                exact if_congr2 ⟨Or.inl, fun q => by rcases q with q | q; exact q; exact absurd q z⟩⟩
          exact ⟨⟨v7, v7, ⟨v7, x7, x7, x7, x7, x7, x7⟩, j1⟩, M', j2, j3⟩
        · rw [if_neg c0, if_neg c0]
          have m0 : ksum f (M0.2.1 34) 0 (j + 1) = ksum f (M0.2.1 34) 0 j := ksum_no c0
          obtain ⟨j1, M', j2, j3⟩ := ih (j + 1) M (by omega) (by omega) ⟨i1, i2, i3, by rw [m1]; exact i4, by rw [m1, m0]; exact i5, by rw [m0]; exact i6⟩
          exact ⟨⟨v7, v7, ⟨v7, trivial⟩, j1⟩, M', j2, j3⟩
/-- the class's day -/
def CI (fr pa : Nat) (R0 R : rT) (v : Nat) : Prop := R.1 = R0.1 ∧ R.2.2 = R0.2.2 ∧ (∀ c, c < 7 → R.2.1 1 c = if c < v then (if pa.testBit c = true then R0.2.1 1 c else if fr.testBit c = true then (if R0.2.1 1 c + 1 < 30 then R0.2.1 1 c + 1 else 30) else R0.2.1 1 c) else R0.2.1 1 c) ∧ (∀ c, c < 7 → R.2.1 2 c = if c < v then (if pa.testBit c = true then R0.2.1 2 c - R0.1 7 else R0.2.1 2 c) else R0.2.1 2 c) ∧ ∀ c, c < 7 → R.2.1 3 c = if c < v then (if pa.testBit c = true then (if R0.2.1 3 c + 1 < 30 then R0.2.1 3 c + 1 else 30) else if fr.testBit c = true then (if 0 < R0.2.1 3 c - 1 then R0.2.1 3 c - 1 else 0) else R0.2.1 3 c) else R0.2.1 3 c
theorem lt_more {c v : Nat} {α : Sort _} {x y z : α} (h : (if c < v then x else y) = z) (hc : ¬ c = v) : (if c < v + 1 then x else y) = z := by
  rw [← h]
  by_cases q : c < v
  · rw [if_pos q, if_pos (by omega)]
  · rw [if_neg q, if_neg (by omega)]
theorem dayx_loop {fr pa e : Nat} (he : e ≤ 7) (hf : fr < 128) (hp : pa < 128) {R0 : rT} (hE : R0.1 4 = Int32.ofNat e) : ∀ (fu v : Nat) (R : rT), v ≤ e → e - v < fu → CI fr pa R0 R v → p_X4_passDay_r fu R (Int32.ofNat fr) (Int32.ofNat pa) (Int32.ofNat v) ∧ ∃ R', v_X4_passDay_r fu R (Int32.ofNat fr) (Int32.ofNat pa) (Int32.ofNat v) = rsf R' 9 (R'.1 9 + 1) ∧ CI fr pa R0 R' e := by
  intro fu
  induction fu with
  | zero => intro v R _ h; omega
  | succ fu ih =>
    intro v R hv hfu hC
    have i1 := hC.1
    rw [p_X4_passDay_r, v_X4_passDay_r, i1, hE]
    by_cases c : v = e
    · have w : Int32.ofNat e ≤ Int32.ofNat v := by rw [nat_le (by omega) (by omega)]; omega
      rw [if_pos w, if_pos w]
      subst c
      exact ⟨trivial, R, by rw [i1], hC⟩
    · have w : ¬ Int32.ofNat e ≤ Int32.ofNat v := by rw [nat_le (by omega) (by omega)]; omega
      have w7 : ¬ (7 : Int32) ≤ Int32.ofNat v := by rw [n_le, n_of (by omega), n_7]; omega
      obtain ⟨-, i2, i3, i4, i5⟩ := hC
      have v7 : vp_in (Int32.ofNat v) 7 := nat_in (by omega) (by omega)
      have hv7 : v < 7 := by omega
      have e1 := i3 v hv7
      have e2 := i4 v hv7
      have e3 := i5 v hv7
      rw [if_neg (Nat.lt_irrefl v)] at e1 e2 e3
      rw [if_neg w, if_neg w, if_neg w7, if_neg w7, tn_of (by omega), kk_def, kk_def, nat1 (by omega), e1, e2, e3]
      obtain ⟨b1, b0, -⟩ := bits_all v hv7 fr hf
      obtain ⟨a1, a0, -⟩ := bits_all v hv7 pa hp
      by_cases tp : pa.testBit v = true
      · have g : ¬ ((Int32.ofNat pa >>> (Int32.ofNat v &&& 31)) &&& 1) = 0 := by rw [a1.mpr tp]; decide
        rw [if_neg g, if_neg g]
        obtain ⟨j1, R', j2, j3⟩ := ih (v + 1) (rsa (rsa R 2 (upd (R.2.1 2) v (R0.2.1 2 v - R0.1 7))) 3 (upd (R.2.1 3) v (if R0.2.1 3 v + 1 < 30 then R0.2.1 3 v + 1 else 30))) (by omega) (by omega) ⟨i1, i2, fun d hd7 => by
            rw [rsa_ne (by decide), rsa_ne (by decide)]
            by_cases z : d = v
            · rw [z, if_pos (Nat.lt_succ_self v), if_pos tp]; exact e1
            · exact (lt_more (i3 d hd7).symm z).symm, fun d hd7 => by
            rw [rsa_ne (by decide), rsa_at]
            by_cases z : d = v
            · rw [z, upd_at, if_pos (Nat.lt_succ_self v), if_pos tp]
            · rw [upd_ne z]; exact (lt_more (i4 d hd7).symm z).symm, fun d hd7 => by
            rw [rsa_at]
            by_cases z : d = v
            · rw [z, upd_at, if_pos (Nat.lt_succ_self v), if_pos tp]
            · rw [upd_ne z]; exact (lt_more (i5 d hd7).symm z).symm⟩
        exact ⟨⟨⟨v7, v7, v7, v7⟩, j1⟩, R', j2, j3⟩
      · have t0 : pa.testBit v = false := by
          rcases hq : pa.testBit v with _ | _
          · rfl
          · exact absurd hq tp
        have g := a0.mpr t0
        rw [if_pos g, if_pos g]
        by_cases tf : fr.testBit v = true
        · have g2 : ¬ ((Int32.ofNat fr >>> (Int32.ofNat v &&& 31)) &&& 1) = 0 := by rw [b1.mpr tf]; decide
          rw [if_neg g2, if_neg g2]
          obtain ⟨j1, R', j2, j3⟩ := ih (v + 1) (rsa (rsa R 1 (upd (R.2.1 1) v (if R0.2.1 1 v + 1 < 30 then R0.2.1 1 v + 1 else 30))) 3 (upd (R.2.1 3) v (if 0 < R0.2.1 3 v - 1 then R0.2.1 3 v - 1 else 0))) (by omega) (by omega) ⟨i1, i2, fun d hd7 => by
              rw [rsa_ne (by decide), rsa_at]
              by_cases z : d = v
              · rw [z, upd_at, if_pos (Nat.lt_succ_self v), if_neg tp, if_pos tf]
              · rw [upd_ne z]; exact (lt_more (i3 d hd7).symm z).symm, fun d hd7 => by
              rw [rsa_ne (by decide), rsa_ne (by decide)]
              by_cases z : d = v
              · rw [z, if_pos (Nat.lt_succ_self v), if_neg tp]; exact e2
              · exact (lt_more (i4 d hd7).symm z).symm, fun d hd7 => by
              rw [rsa_at]
              by_cases z : d = v
              · rw [z, upd_at, if_pos (Nat.lt_succ_self v), if_neg tp, if_pos tf]
              · rw [upd_ne z]; exact (lt_more (i5 d hd7).symm z).symm⟩
          exact ⟨⟨⟨v7, v7, v7, v7⟩, j1⟩, R', j2, j3⟩
        · have t1 : fr.testBit v = false := by
            rcases hq : fr.testBit v with _ | _
            · rfl
            · exact absurd hq tf
          have g2 := b0.mpr t1
          rw [if_pos g2, if_pos g2]
          obtain ⟨j1, R', j2, j3⟩ := ih (v + 1) R (by omega) (by omega) ⟨i1, i2, fun d hd7 => by
              by_cases z : d = v
              · rw [z, if_pos (Nat.lt_succ_self v), if_neg tp, if_neg tf]; exact e1
              · exact (lt_more (i3 d hd7).symm z).symm, fun d hd7 => by
              by_cases z : d = v
              · rw [z, if_pos (Nat.lt_succ_self v), if_neg tp]; exact e2
              · exact (lt_more (i4 d hd7).symm z).symm, fun d hd7 => by
              by_cases z : d = v
              · rw [z, if_pos (Nat.lt_succ_self v), if_neg tp, if_neg tf]; exact e3
              · exact (lt_more (i5 d hd7).symm z).symm⟩
          exact ⟨⟨trivial, j1⟩, R', j2, j3⟩
end
