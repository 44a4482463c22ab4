/-! the first word is looked at; the class's words -/
theorem str_ok : ∀ w, w < 6 → (Int32.ofNat (s_len.getD w 0) >>> ((0 : Int32) &&& 31)) = Int32.ofNat (LW w - 1) ∧ s_len.getD w 0 = LW w - 1 ∧ v_isEmpty w = 0 ∧ ∀ i, i < 5 → i < LW w - 1 → v_str w (Int32.ofNat i) = t_words (PW w + i) ∧ 32 < (t_words (PW w + i)).toInt := by decide +kernel
theorem t5 : t_words 5 ≤ 32 ∧ ¬ 32 < t_words 5 := by decide
section
variable {M : mT} {f : Nat → Int64} {b len a : Nat}
theorem stands_yes (hT : RT f M b len) (hW : ∀ i, i < 36 → M.2.1 22 i = t_words i) (ha : a ≤ 160) : ∀ (k i n : Nat), i + k = 5 → (∀ j, i ≤ j → j < 5 → a + j < len ∧ lt f len (a + j) = t_words j) → p_X7_stands_r M (n + k + 1) 1 0 (Int32.ofNat i) (Int32.ofNat (a + i)) ∧ v_X7_stands_r M (n + k + 1) 1 0 (Int32.ofNat i) (Int32.ofNat (a + i)) = 1 := by
  intro k
  induction k with
  | zero =>
    intro i n hi _
    have e : i = 5 := by omega
    subst e
    rw [p_X7_stands_r, v_X7_stands_r, if_neg (by decide : ¬ (1 : Nat) = 0), if_neg (by decide : ¬ (1 : Nat) = 0), tn_of (k := 5) (by omega), hW 5 (by omega), if_pos t5.1, if_pos t5.1, if_neg t5.2]
    exact ⟨⟨nat_in (by omega) (by omega), nat_in (by omega) (by omega)⟩, rfl⟩
  | succ k ih =>
    intro i n hi hm
    obtain ⟨h1, h2⟩ := hm i (by omega) (by omega)
    obtain ⟨i1, i2⟩ := ih (i + 1) n (by omega) (fun j h1 h2 => hm j (by omega) h2)
    obtain ⟨c1, c2⟩ := cell_at hT h1
    have hl := hT.2.2.2.1
    have h28 := hT.2.1
    have w : ¬ Int32.ofNat len ≤ Int32.ofNat (a + i) := by rw [nat_le (by omega) (by omega)]; omega
    have s := ((str_ok 0 (by omega)).2.2.2 i (by omega) (by have : LW 0 = 6 := rfl; omega)).2
    rw [show PW 0 + i = i by have : PW 0 = 0 := rfl; omega] at s
    have s1 : ¬ t_words i ≤ 32 := by rw [n_le, show (32 : Int32).toInt = 32 from rfl]; omega
    rw [show n + (k + 1) + 1 = (n + k + 1) + 1 by omega, p_X7_stands_r, v_X7_stands_r, if_neg (by decide : ¬ (1 : Nat) = 0), if_neg (by decide : ¬ (1 : Nat) = 0), tn_of (k := i) (by omega), hW i (by omega), if_neg s1, if_neg s1, h28, if_neg w, if_neg w, c2, if_pos h2, if_pos h2, nat1 (by omega), nat1 (by omega)]
    exact ⟨⟨nat_in (by omega) (by omega), c1, nat_in (by omega) (by omega), i1⟩, i2⟩
theorem stands_no (hT : RT f M b len) (hW : ∀ i, i < 36 → M.2.1 22 i = t_words i) (ha : a ≤ 160) {m : Nat} (hm5 : m < 5) (hx : ¬ (a + m < len ∧ lt f len (a + m) = t_words m)) : ∀ (k i n : Nat), i + k = m → (∀ j, i ≤ j → j < m → a + j < len ∧ lt f len (a + j) = t_words j) → p_X7_stands_r M (n + k + 1) 1 0 (Int32.ofNat i) (Int32.ofNat (a + i)) ∧ v_X7_stands_r M (n + k + 1) 1 0 (Int32.ofNat i) (Int32.ofNat (a + i)) = 0 := by
  intro k
  have hl := hT.2.2.2.1
  have h28 := hT.2.1
  have sg : ∀ i, i < 5 → ¬ t_words i ≤ 32 ∧ 32 < t_words i := fun i hi => by
    have s := ((str_ok 0 (by omega)).2.2.2 i (by omega) (by have : LW 0 = 6 := rfl; omega)).2
    rw [show PW 0 + i = i by have : PW 0 = 0 := rfl; omega] at s
    exact ⟨by rw [n_le, show (32 : Int32).toInt = 32 from rfl]; omega, by rw [n_lt, show (32 : Int32).toInt = 32 from rfl]; omega⟩
  induction k with
  | zero =>
    intro i n hi _
    have e : i = m := by omega
    subst e
    obtain ⟨s1, s2⟩ := sg i hm5
    rw [p_X7_stands_r, v_X7_stands_r, if_neg (by decide : ¬ (1 : Nat) = 0), if_neg (by decide : ¬ (1 : Nat) = 0), tn_of (k := i) (by omega), hW i (by omega), if_neg s1, if_neg s1, h28, if_pos s2]
    by_cases k : a + i < len
    · obtain ⟨c1, c2⟩ := cell_at hT k
      have w : ¬ Int32.ofNat len ≤ Int32.ofNat (a + i) := by rw [nat_le (by omega) (by omega)]; omega
      have hm2 : ¬ lt f len (a + i) = t_words i := fun e => hx ⟨k, e⟩
      rw [if_neg w, if_neg w, c2, if_neg hm2, if_neg hm2]
      exact ⟨⟨nat_in (by omega) (by omega), c1, nat_in (by omega) (by omega), nat_in (by omega) (by omega)⟩, rfl⟩
    · have w : Int32.ofNat len ≤ Int32.ofNat (a + i) := by rw [nat_le (by omega) (by omega)]; omega
      rw [if_pos w, if_pos w]
      exact ⟨⟨nat_in (by omega) (by omega), nat_in (by omega) (by omega)⟩, rfl⟩
  | succ k ih =>
    intro i n hi hm
    obtain ⟨h1, h2⟩ := hm i (by omega) (by omega)
    obtain ⟨i1, i2⟩ := ih (i + 1) n (by omega) (fun j h1 h2 => hm j (by omega) h2)
    obtain ⟨c1, c2⟩ := cell_at hT h1
    have w : ¬ Int32.ofNat len ≤ Int32.ofNat (a + i) := by rw [nat_le (by omega) (by omega)]; omega
    obtain ⟨s1, s2⟩ := sg i (by omega)
    rw [show n + (k + 1) + 1 = (n + k + 1) + 1 by omega, p_X7_stands_r, v_X7_stands_r, if_neg (by decide : ¬ (1 : Nat) = 0), if_neg (by decide : ¬ (1 : Nat) = 0), tn_of (k := i) (by omega), hW i (by omega), if_neg s1, if_neg s1, h28, if_neg w, if_neg w, c2, if_pos h2, if_pos h2, nat1 (by omega), nat1 (by omega)]
    exact ⟨⟨nat_in (by omega) (by omega), c1, nat_in (by omega) (by omega), i1⟩, i2⟩
theorem stands_0 : v_X7_stands M 0 = v_X7_stands_r M 199 1 0 0 (M.1 27) ∧ (p_X7_stands_r M 199 1 0 0 (M.1 27) → p_X7_stands M 0) := by
  unfold v_X7_stands p_X7_stands
  refine ⟨?_, fun h => ?_⟩
  · rw [v_X7_stands_r, if_pos (rfl : (0 : Nat) = 0), if_pos (show (0 : Int32) ≤ 0 by decide)]
  · rw [p_X7_stands_r, if_pos (rfl : (0 : Nat) = 0), if_pos (show (0 : Int32) ≤ 0 by decide)]
    exact h
end
/-! the class's letters of a word -/
section
variable {f : Nat → Int64} {len a : Nat} {R : rT} {s d : Int32} {w : Nat}
def EF (E E' : e2T) : Prop := E'.2 = E.2 ∧ ∀ i, i ≠ 1 → i ≠ 5 → i ≠ 6 → E'.1 i = E.1 i
theorem EF.rf (E : e2T) : EF E E := ⟨rfl, fun _ _ _ _ => rfl⟩
theorem EF.tr {E1 E2 E3 : e2T} (h1 : EF E1 E2) (h2 : EF E2 E3) : EF E1 E3 := ⟨h2.1.trans h1.1, fun i a b c => (h2.2 i a b c).trans (h1.2 i a b c)⟩
theorem EF.e5 (E : e2T) (v : Int32) : EF E (e2f E 5 v) := ⟨rfl, fun i h1 h2 h3 => e2f_ne h2⟩
theorem EF.e1 (E : e2T) (v : Int32) : EF E (e2f E 1 v) := ⟨rfl, fun i h1 h2 h3 => e2f_ne h1⟩
theorem cletters (hw : w < 6) (hl : len ≤ 160) (ha : a ≤ 160) : ∀ (m i n : Nat) (E : e2T), i + m ≤ LW w - 1 → E.1 4 = Int32.ofNat len → E.1 5 = Int32.ofNat (a + i) → (∀ j, i ≤ j → j < i + m → lt f len (a + j) = t_words (PW w + j)) → ∃ E', EF E E' ∧ E'.1 5 = Int32.ofNat (a + i + m) ∧ (p_X3_item_r f n E' R s d w (Int32.ofNat (i + m)) → p_X3_item_r f (n + m) E R s d w (Int32.ofNat i)) ∧ ∀ res, g_X3_item_r f (n + m) E R s d w (Int32.ofNat i) res → g_X3_item_r f n E' R s d w (Int32.ofNat (i + m)) res := by
  obtain ⟨s1, s2, s3, s4⟩ := str_ok w hw
  obtain ⟨p1, p2, p3, p4, p5, -, p6⟩ := PW_ok w hw
  intro m
  induction m with
  | zero => intro i n E _ _ h5 _; exact ⟨E, EF.rf E, h5, fun h => h, fun _ h => h⟩
  | succ m ih =>
    intro i n E hi h4 h5 hm
    have hl1 := hm i (by omega) (by omega)
    obtain ⟨t1, t2⟩ := s4 i (by omega) (by omega)
    have sy := sign_yes (x := v_str w (Int32.ofNat i)) h4 h5 hl (by omega) (hl1.trans t1.symm)
    have wl : ¬ Int32.ofNat (LW w - 1) ≤ Int32.ofNat i := by rw [nat_le (by omega) (by omega)]; omega
    obtain ⟨E', f1, f2, f3, f4⟩ := ih (i + 1) n (e2f E 5 (Int32.ofNat (a + i + 1))) (by omega) ((e2f_ne (by decide)).trans h4) (by rw [e2f_at, show a + i + 1 = a + (i + 1) by omega]) (fun j h1 h2 => hm j (by omega) (by omega))
    refine ⟨E', (EF.e5 E _).tr f1, by rw [f2, show a + (i + 1) + m = a + i + (m + 1) by omega], fun h => ?_, fun res h => ?_⟩
    · rw [show n + (m + 1) = (n + m) + 1 by omega, p_X3_item_r, s1, if_neg wl, sy, kk_def, if_neg n10, nat1 (by omega)]
      have hlen : s_len.getD w 0 = LW w - 1 := s2
      refine ⟨?_, ?_, ?_, p_sign, f3 (by rw [show i + 1 + m = i + (m + 1) by omega]; exact h)⟩
      · rw [n_lt, n_of (by omega), n_0]; omega
      · rw [hlen, n_lt, n_of (by omega), n_of (by omega)]; omega
      · rw [hlen]; exact nat_in (by omega) (by omega)
    · rw [show n + (m + 1) = (n + m) + 1 by omega, g_X3_item_r, s1, if_neg wl, sy, kk_def, if_neg n10, nat1 (by omega)] at h
      rw [show i + (m + 1) = i + 1 + m by omega]
      exact f4 res h
theorem cmiss (hw : w < 6) (hl : len ≤ 160) (ha : a ≤ 160) {i n : Nat} {E : e2T} (hi : i < LW w - 1) (h4 : E.1 4 = Int32.ofNat len) (h5 : E.1 5 = Int32.ofNat (a + i)) (hm : ¬ lt f len (a + i) = t_words (PW w + i)) : p_X3_item_r f (n + 1) E R s d w (Int32.ofNat i) ∧ ∀ res, g_X3_item_r f (n + 1) E R s d w (Int32.ofNat i) res → res = (0, e2f E 1 (Int32.ofNat (a + i)), R, []) := by
  obtain ⟨s1, s2, s3, s4⟩ := str_ok w hw
  obtain ⟨p1, p2, p3, p4, p5, -, p6⟩ := PW_ok w hw
  obtain ⟨t1, t2⟩ := s4 i (by omega) (by omega)
  have sn := sign_no (x := v_str w (Int32.ofNat i)) h4 h5 hl (by omega) (fun e => hm (e.trans t1))
  have wl : ¬ Int32.ofNat (LW w - 1) ≤ Int32.ofNat i := by rw [nat_le (by omega) (by omega)]; omega
  have hlen : s_len.getD w 0 = LW w - 1 := s2
  refine ⟨?_, fun res h => ?_⟩
  · rw [p_X3_item_r, s1, if_neg wl, sn, kk_def, if_pos n00]
    refine ⟨?_, ?_, ?_, p_sign, trivial⟩
    · rw [n_lt, n_of (by omega), n_0]; omega
    · rw [hlen, n_lt, n_of (by omega), n_of (by omega)]; omega
    · rw [hlen]; exact nat_in (by omega) (by omega)
  · rw [g_X3_item_r, s1, if_neg wl, sn, kk_def, if_pos n00] at h
    exact h
end
/-! how far a word goes on -/
theorem longest (p : Nat → Prop) : ∀ k, (∀ i, i < k → p i) ∨ ∃ m, m < k ∧ (∀ i, i < m → p i) ∧ ¬ p m := by
  intro k
  induction k with
  | zero => exact Or.inl (fun i h => absurd h (by omega))
  | succ k ih =>
    rcases ih with h | ⟨m, h1, h2, h3⟩
    · rcases Classical.em (p k) with hk | hk
      · exact Or.inl (fun i hi => by
          by_cases e : i = k
          · rw [e]; exact hk
          · exact h i (by omega))
      · exact Or.inr ⟨k, by omega, h, hk⟩
    · exact Or.inr ⟨m, by omega, h2, h3⟩
