/-! a text, letter by letter -/
theorem e2f_at {E : e2T} {j : Nat} {v : Int32} : (e2f E j v).1 j = v := up_at
theorem e2f_ne {E : e2T} {j k : Nat} {v : Int32} (h : k ≠ j) : (e2f E j v).1 k = E.1 k := up_ne h
theorem msf_at {M : mT} {j : Nat} {v : Int32} : (msf M j v).1 j = v := up_at
theorem msf_ne {M : mT} {j k : Nat} {v : Int32} (h : k ≠ j) : (msf M j v).1 k = M.1 k := up_ne h
/-- the element at i, 0 behind the last -/
def lt (f : Nat → Int64) (len i : Nat) : Int32 := if i < len then (f i).toInt32 else 0
def RT (f : Nat → Int64) (M : mT) (b len : Nat) : Prop := M.1 26 = Int32.ofNat b ∧ M.1 28 = Int32.ofNat len ∧ b + 160 ≤ 1280 ∧ len ≤ 160 ∧ ∀ i, i < len → f i = M.2.2 20 (b + i)
theorem letter_eq {E : e2T} {f : Nat → Int64} {len i : Nat} (h : E.1 4 = Int32.ofNat len) (hl : len ≤ 160) (hi : i < 1000) : v_X3_letter E f (Int32.ofNat i) = lt f len i := by
  unfold v_X3_letter lt
  rw [h, if_neg (show ¬ Int32.ofNat i < 0 by rw [n_lt, n_of (by omega), n_0]; omega)]
  by_cases c : i < len
  · rw [if_neg (show ¬ Int32.ofNat len ≤ Int32.ofNat i by rw [nat_le (by omega) (by omega)]; omega), if_pos c, if_pos (show Int32.ofNat i < 160 by rw [n_lt, n_of (by omega), n_160]; omega), tn_of (by omega)]
  · rw [if_pos (show Int32.ofNat len ≤ Int32.ofNat i by rw [nat_le (by omega) (by omega)]; omega), if_neg c]
theorem p_letter {E : e2T} {f : Nat → Int64} {x : Int32} : p_X3_letter E f x := by
  unfold p_X3_letter
  split
  · trivial
  · split
    · trivial
    · split
      · rename_i h1 h2 h3
        rw [n_lt, n_0] at h1
        rw [n_lt, n_160] at h3
        rw [vp_iff]; omega
      · trivial
theorem dig0 : v_X3_isDigit 0 = 0 := by decide
theorem dig_iff {x : Int32} : v_X3_isDigit x = 0 ↔ ¬ (48 ≤ x.toInt ∧ x.toInt ≤ 57) := by
  unfold v_X3_isDigit
  by_cases h1 : x < 48
  · rw [if_pos h1]
    rw [n_lt, show (48 : Int32).toInt = 48 from rfl] at h1
    exact ⟨fun _ h => by omega, fun _ => rfl⟩
  · rw [if_neg h1]
    rw [n_lt, show (48 : Int32).toInt = 48 from rfl] at h1
    by_cases h2 : 57 < x
    · rw [if_pos h2]
      rw [n_lt, show (57 : Int32).toInt = 57 from rfl] at h2
      exact ⟨fun _ h => by omega, fun _ => rfl⟩
    · rw [if_neg h2]
      rw [n_lt, show (57 : Int32).toInt = 57 from rfl] at h2
      exact ⟨fun h => absurd h (by decide), fun h => absurd ⟨by omega, by omega⟩ h⟩
section
variable {M : mT} {f : Nat → Int64} {b len : Nat}
theorem cell_at (h : RT f M b len) {i : Nat} (hi : i < len) : vp_in (M.1 26 + Int32.ofNat i) 1280 ∧ ((M.2.2 20) (M.1 26 + Int32.ofNat i).toNatClampNeg).toInt32 = lt f len i := by
  obtain ⟨h1, h2, h3, h4, h5⟩ := h
  have e : (M.1 26 + Int32.ofNat i).toInt = (b : Int) + i := by rw [h1, n_add (by rw [n_of (by omega), n_of (by omega)]; omega) (by rw [n_of (by omega), n_of (by omega)]; omega), n_of (by omega), n_of (by omega)]
  refine ⟨by rw [vp_iff, e]; omega, ?_⟩
  have e2 : (M.1 26 + Int32.ofNat i).toNatClampNeg = b + i := by rw [n_tn, e]; omega
  unfold lt
  rw [e2, if_pos hi, h5 i hi]
theorem RT.same (h : RT f M b len) {M' : mT} (h1 : M'.1 26 = M.1 26) (h2 : M'.1 28 = M.1 28) (h3 : M'.2.2 20 = M.2.2 20) : RT f M' b len := by
  obtain ⟨a1, a2, a3, a4, a5⟩ := h
  exact ⟨h1.trans a1, h2.trans a2, a3, a4, fun i hi => by rw [h3]; exact a5 i hi⟩
theorem mdig (h : RT f M b len) {a : Nat} (ha : M.1 27 = Int32.ofNat a) (hb : a < 1000) : v_X7_isDigit M = v_X3_isDigit (lt f len a) ∧ p_X7_isDigit M ∧ (¬ v_X3_isDigit (lt f len a) = 0 → a < len) := by
  have h2 := h.2.1
  have h4 := h.2.2.2.1
  unfold v_X7_isDigit p_X7_isDigit
  rw [ha, h2]
  by_cases c : a < len
  · obtain ⟨c1, c2⟩ := cell_at h c
    have w : ¬ Int32.ofNat len ≤ Int32.ofNat a := by rw [nat_le (by omega) (by omega)]; omega
    rw [if_neg w, if_neg w, c2]
    refine ⟨rfl, ⟨c1, ?_⟩, fun _ => c⟩
    split
    · trivial
    · exact c1
  · have w : Int32.ofNat len ≤ Int32.ofNat a := by rw [nat_le (by omega) (by omega)]; omega
    rw [if_pos w, if_pos w]
    have e : lt f len a = 0 := if_neg c
    rw [e]
    exact ⟨rfl, trivial, fun h => absurd dig0 h⟩
/-- a number of one or two digits, as the reference reads it -/
theorem reads_ok (h : RT f M b len) {a : Nat} (ha : M.1 27 = Int32.ofNat a) (hb : a ≤ len) : ∃ M' : mT, p_X7_reads M ∧ M'.2 = M.2 ∧ (∀ i, i ≠ 27 → i ≠ 29 → i ≠ 30 → M'.1 i = M.1 i) ∧ ((v_X3_isDigit (lt f len a) = 0 ∧ v_X7_reads M = (0, M') ∧ M'.1 30 = Int32.ofNat a) ∨ (¬ v_X3_isDigit (lt f len a) = 0 ∧ a + 1 ≤ len ∧ v_X3_isDigit (lt f len (a + 1)) = 0 ∧ v_X7_reads M = (1, M') ∧ M'.1 27 = Int32.ofNat (a + 1) ∧ M'.1 29 = lt f len a - 48) ∨ (¬ v_X3_isDigit (lt f len a) = 0 ∧ a + 2 ≤ len ∧ ¬ v_X3_isDigit (lt f len (a + 1)) = 0 ∧ v_X7_reads M = (1, M') ∧ M'.1 27 = Int32.ofNat (a + 2) ∧ M'.1 29 = 10 * (lt f len a - 48) + lt f len (a + 1) - 48)) := by
  have h4 := h.2.2.2.1
  have hT0 : RT f (msf M 29 0) b len := h.same (msf_ne (by decide)) (msf_ne (by decide)) rfl
  have ha0 : (msf M 29 0).1 27 = Int32.ofNat a := (msf_ne (by decide)).trans ha
  obtain ⟨d1, d2, d3⟩ := mdig hT0 ha0 (by omega)
  unfold p_X7_reads v_X7_reads
  rw [d1]
  by_cases c : v_X3_isDigit (lt f len a) = 0
  · refine ⟨msf (msf M 29 0) 30 (M.1 27), ⟨d2, ?_⟩, rfl, fun i h1 h2 h3 => by rw [msf_ne h3, msf_ne h2], Or.inl ⟨c, ?_, ?_⟩⟩
    · rw [if_pos c]; trivial
    · rw [if_pos c, kk_def]; rfl
    · rw [msf_at]; exact ha
  · have al := d3 c
    obtain ⟨c1, c2⟩ := cell_at hT0 al
    rw [if_neg c, if_neg c, p_X7_reads_r, v_X7_reads_r, if_neg (show ¬ (2 : Int32) ≤ 0 by decide), if_neg (show ¬ (2 : Int32) ≤ 0 by decide), d1, if_neg c, if_neg c, kk_def, kk_def]
    rw [ha0, c2]
    have e0 : (10 * (msf M 29 0).1 29) + lt f len a - 48 = lt f len a - 48 := by
      rw [msf_at, show (10 : Int32) * 0 = 0 from rfl, Int32.zero_add]
    rw [e0, nat1 (by omega)]
    generalize hM1 : msf (msf (msf M 29 0) 29 (lt f len a - 48)) 27 (Int32.ofNat (a + 1)) = M1
    have m2 : M1.2 = M.2 := by rw [← hM1]; rfl
    have m27 : M1.1 27 = Int32.ofNat (a + 1) := by rw [← hM1]; exact msf_at
    have m29 : M1.1 29 = lt f len a - 48 := by rw [← hM1, msf_ne (by decide)]; exact msf_at
    have mi : ∀ i, i ≠ 27 → i ≠ 29 → M1.1 i = M.1 i := fun i h1 h2 => by rw [← hM1, msf_ne h1, msf_ne h2, msf_ne h2]
    have hT1 : RT f M1 b len := h.same (mi 26 (by decide) (by decide)) (mi 28 (by decide) (by decide)) (by rw [m2])
    obtain ⟨g1, g2, g3⟩ := mdig hT1 m27 (by omega)
    rw [p_X7_reads_r, v_X7_reads_r, show (0 : Int32) + 1 = 1 from rfl, if_neg (show ¬ (2 : Int32) ≤ 1 by decide), if_neg (show ¬ (2 : Int32) ≤ 1 by decide), g1]
    by_cases k : v_X3_isDigit (lt f len (a + 1)) = 0
    · rw [if_pos k, if_pos k]
      exact ⟨M1, ⟨d2, d2, c1, g2, trivial⟩, m2, fun i h1 h2 h3 => mi i h1 h2, Or.inr (Or.inl ⟨c, al, k, rfl, m27, m29⟩)⟩
    · have al2 := g3 k
      obtain ⟨k1, k2⟩ := cell_at hT1 al2
      rw [if_neg k, if_neg k, kk_def, kk_def, m27, k2, m29, nat1 (by omega), p_X7_reads_r, v_X7_reads_r, show (1 : Int32) + 1 = 2 from rfl, if_pos (show (2 : Int32) ≤ 2 by decide), if_pos (show (2 : Int32) ≤ 2 by decide)]
      refine ⟨_, ⟨d2, d2, c1, g2, k1, trivial⟩, ?_, fun i h1 h2 h3 => ?_, Or.inr (Or.inr ⟨c, al2, k, rfl, msf_at, ?_⟩)⟩
      · show M1.2 = M.2
        exact m2
      · rw [msf_ne h1, msf_ne h2]; exact mi i h1 h2
      · rw [msf_ne (by decide), msf_at]
end
