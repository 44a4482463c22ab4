/-! sets of 31 -/
theorem shl_ok : ∀ v, v < 31 → ((1 : Int32) <<< (Int32.ofNat v &&& 31)) = Int32.ofNat (2 ^ v) := by decide +kernel
theorem nb_or (x y : Int32) : nb32 (x ||| y) = nb32 x ||| nb32 y := by
  unfold nb32
  rw [Int32.toBitVec_or, BitVec.toNat_or]
theorem mask_more {k v : Nat} (hv : v < 31) (hk : k < 2 ^ v) : (Int32.ofNat k ||| ((1 : Int32) <<< (Int32.ofNat v &&& 31))) = Int32.ofNat (k + 2 ^ v) ∧ (Int32.ofNat k + ((1 : Int32) <<< (Int32.ofNat v &&& 31))) = Int32.ofNat (k + 2 ^ v) ∧ k + 2 ^ v < 2 ^ (v + 1) ∧ 2 ^ (v + 1) ≤ 2147483648 := by
  have p1 : 2 ^ (v + 1) = 2 * 2 ^ v := by rw [Nat.pow_succ]; omega
  have p2 : 2 ^ v ≤ 2 ^ 30 := Nat.pow_le_pow_right (by decide) (by omega)
  have p3 : (2 : Nat) ^ 30 = 1073741824 := rfl
  rw [shl_ok v hv]
  refine ⟨?_, ?_, by omega, by omega⟩
  · apply nb_inj
    rw [nb_or, nb_of (by omega), nb_of (by omega), nb_of (by omega), Nat.or_comm]
    have := Nat.two_pow_add_eq_or_of_lt hk 1
    rw [Nat.mul_one] at this
    rw [← this, Nat.add_comm]
  · apply nb_inj
    rw [nb_add (by rw [nb_of (by omega), nb_of (by omega)]; omega), nb_of (by omega), nb_of (by omega), nb_of (by omega)]
theorem mask_bit {k v : Nat} (hv : v < 31) (hk : k < 2147483648) : ((Int32.ofNat k >>> (Int32.ofNat v &&& 31)) &&& 1) = Int32.ofNat (if k.testBit v = true then 1 else 0) := by
  have hs : ∀ v, v < 31 → ((Int32.ofNat v &&& 31).toBitVec.smod 32).toNat = v := by decide +kernel
  have e : nb32 (Int32.ofNat k >>> (Int32.ofNat v &&& 31)) = k / 2 ^ v := by
    unfold nb32
    rw [Int32.toBitVec_shiftRight]
    unfold BitVec.sshiftRight'
    rw [hs v hv, BitVec.sshiftRight_eq_of_msb_false, BitVec.toNat_ushiftRight, Nat.shiftRight_eq_div_pow]
    · have := nb_of (k := k) (by omega)
      unfold nb32 at this
      rw [this]
    · rw [BitVec.msb_eq_false_iff_two_mul_lt]
      have := nb_of (k := k) (by omega)
      unfold nb32 at this
      rw [this]
      omega
  apply nb_inj
  rw [nb_and, e, show nb32 1 = 1 from rfl, Nat.and_one_is_mod]
  rw [nb_of (by split <;> omega)]
  rw [Nat.testBit_eq_decide_div_mod_eq]
  by_cases c : k / 2 ^ v % 2 = 1
  · rw [if_pos (decide_eq_true c)]; exact c
  · rw [if_neg (by rw [decide_eq_true_iff]; exact c)]
    omega
theorem bit_one {k v : Nat} (hv : v < 31) (hk : k < 2147483648) : (((Int32.ofNat k >>> (Int32.ofNat v &&& 31)) &&& 1) = 1 ↔ k.testBit v = true) ∧ (((Int32.ofNat k >>> (Int32.ofNat v &&& 31)) &&& 1) = 0 ↔ ¬ k.testBit v = true) := by
  rw [mask_bit hv hk]
  by_cases c : k.testBit v = true
  · rw [if_pos c]
    exact ⟨⟨fun _ => c, fun _ => rfl⟩, ⟨fun h => absurd h (by decide), fun h => absurd c h⟩⟩
  · rw [if_neg c]
    exact ⟨⟨fun h => absurd h (by decide), fun h => absurd h c⟩, ⟨fun _ => c, fun _ => rfl⟩⟩
/-! twos told -/
theorem nat_2 {i : Nat} (h : i < 400) : (2 : Int32) * Int32.ofNat i = Int32.ofNat (2 * i) := by
  rw [n_eq, n_mul (by rw [n_2, n_of (by omega)]; omega) (by rw [n_2, n_of (by omega)]; omega), n_2, n_of (by omega), n_of (by omega)]
  omega
theorem spans2 {S : sT} {y : Int32} (h0 : 0 ≤ y.toInt) : v_X5_spans S 0 (2 * y.toInt64) = 0 ↔ (S.1 2).toInt < 2 * y.toInt := by
  have hy := Int32.toInt_lt y
  have e1 : (2 * y.toInt64 : Int64).toInt = 2 * y.toInt := by
    rw [l_mul (by rw [l_64]; show _ ≤ 2 * y.toInt; omega) (by rw [l_64]; show 2 * y.toInt < _; omega), l_64]
    rfl
  have e2 : ((0 : Int32).toInt64 + 2 * y.toInt64 : Int64).toInt = 2 * y.toInt := by
    rw [l_add (by rw [e1, l_64]; show _ ≤ 0 + _; omega) (by rw [e1, l_64]; show 0 + _ < _; omega), e1, l_64]
    show 0 + _ = _
    omega
  unfold v_X5_spans
  rw [if_neg (show ¬ (0 : Int32) < 0 by decide)]
  have w : ¬ lg_cmp (2 * y.toInt64) 0 < 0 := by
    rw [lg_cmp_lt, l_lt, e1]
    show ¬ _ < 0
    omega
  rw [if_neg w]
  by_cases h3 : 0 < lg_cmp ((0 : Int32).toInt64 + 2 * y.toInt64) (S.1 2).toInt64
  · rw [if_pos h3]
    rw [lg_cmp_gt, l_lt, e2, l_64] at h3
    exact ⟨fun _ => h3, fun _ => rfl⟩
  · rw [if_neg h3]
    rw [lg_cmp_gt, l_lt, e2, l_64] at h3
    exact ⟨fun h => absurd h (by decide), fun h => absurd h h3⟩
section
variable {P : pT} {N : nT} {R Q : rT} {V : vT} {F : fT} {M : mT}
/-- what the two elements i may be -/
def TW (M : mT) (s i : Nat) : Prop := (0 ≤ (v_X7_intAt M (Int32.ofNat s) (Int32.ofNat (2 * i))).toInt ∧ (v_X7_intAt M (Int32.ofNat s) (Int32.ofNat (2 * i))).toInt ≤ 9) ∧ (0 ≤ (v_X7_intAt M (Int32.ofNat s) (Int32.ofNat (2 * i + 1))).toInt ∧ (v_X7_intAt M (Int32.ofNat s) (Int32.ofNat (2 * i + 1))).toInt ≤ 1)
theorem twos_loop {s m : Nat} (hs : s < 8) (hS : RS1 (F s) M s) (hm : m ≤ 40) (hl : 2 * (m : Int) ≤ (M.2.1 18 s).toInt) : ∀ (fu i : Nat), i ≤ m → m - i + 1 < fu → (∀ j, j < i → TW M s j) → p_X6_twosRefusal_r N R F fu (Int32.ofNat m) s (Int32.ofNat i) ∧ p_X7_barsOfTwos_r M fu (Int32.ofNat s) (Int32.ofNat m) 0 (Int32.ofNat i) ∧ ((v_X6_twosRefusal_r N R F fu (Int32.ofNat m) s (Int32.ofNat i) = 6 ∧ v_X7_barsOfTwos_r M fu (Int32.ofNat s) (Int32.ofNat m) 0 (Int32.ofNat i) = -6) ∨ (v_X6_twosRefusal_r N R F fu (Int32.ofNat m) s (Int32.ofNat i) = 0 ∧ v_X7_barsOfTwos_r M fu (Int32.ofNat s) (Int32.ofNat m) 0 (Int32.ofNat i) = 0 ∧ ∀ j, j < m → TW M s j)) := by
  intro fu
  induction fu with
  | zero => intro i _ h; omega
  | succ fu ih =>
    intro i hi hfu hT
    rw [p_X6_twosRefusal_r, p_X7_barsOfTwos_r, v_X6_twosRefusal_r, v_X7_barsOfTwos_r]
    by_cases c : i = m
    · have w : Int32.ofNat m ≤ Int32.ofNat i := by rw [nat_le (by omega) (by omega)]; omega
      rw [if_pos w, if_pos w, if_pos w, if_pos w]
      subst c
      exact ⟨trivial, trivial, Or.inr ⟨rfl, rfl, hT⟩⟩
    · have w : ¬ Int32.ofNat m ≤ Int32.ofNat i := by rw [nat_le (by omega) (by omega)]; omega
      rw [if_neg w, if_neg w, if_neg w, if_neg w, if_pos n00, if_pos n00, nat_2 (by omega), nat1 (by omega), nat1 (by omega)]
      obtain ⟨e1, e2⟩ := int_eq (i := 2 * i) hS hs (by omega)
      obtain ⟨e3, e4⟩ := int_eq (i := 2 * i + 1) hS hs (by omega)
      rw [e1, e3, from_eq, from_eq]
      simp only [kk_def]
      obtain ⟨fu', rfl⟩ : ∃ m, fu = m + 1 := ⟨fu - 1, by omega⟩
      have bad : p_X7_barsOfTwos_r M (fu' + 1) (Int32.ofNat s) (Int32.ofNat m) (-6) (Int32.ofNat (i + 1)) ∧ v_X7_barsOfTwos_r M (fu' + 1) (Int32.ofNat s) (Int32.ofNat m) (-6) (Int32.ofNat (i + 1)) = -6 := by
        rw [p_X7_barsOfTwos_r, v_X7_barsOfTwos_r]
        by_cases q : Int32.ofNat m ≤ Int32.ofNat (i + 1)
        · rw [if_pos q, if_pos q]; exact ⟨trivial, rfl⟩
        · rw [if_neg q, if_neg q, if_neg (show ¬ (-6 : Int32) = 0 by decide), if_neg (show ¬ (-6 : Int32) = 0 by decide)]; exact ⟨trivial, rfl⟩
      by_cases d1 : v_X6_within (v_X7_intAt M (Int32.ofNat s) (Int32.ofNat (2 * i))) 0 9 = 0
      · simp only [if_pos d1]
        exact ⟨⟨p_intx, trivial⟩, ⟨e2, trivial, bad.1⟩, Or.inl ⟨trivial, bad.2⟩⟩
      · simp only [if_neg d1]
        by_cases d2 : v_X6_within (v_X7_intAt M (Int32.ofNat s) (Int32.ofNat (2 * i + 1))) 0 1 = 0
        · simp only [if_pos d2]
          exact ⟨⟨p_intx, p_intx, trivial⟩, ⟨e2, e4, bad.1⟩, Or.inl ⟨trivial, bad.2⟩⟩
        · simp only [if_neg d2]
          have w1 := wneg d1
          have w2 := wneg d2
          obtain ⟨j1, j2, j3⟩ := ih (i + 1) (by omega) (by omega) (fun j hj => by
            by_cases z : j = i
            · subst z; exact ⟨w1, w2⟩
            · exact hT j (by omega))
          exact ⟨⟨p_intx, p_intx, j1⟩, ⟨e2, e4, j2⟩, j3⟩
end
