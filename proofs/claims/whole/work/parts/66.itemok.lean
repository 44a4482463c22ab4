/-! an item -/
section
variable {P : pT} {L : LL} {f : Nat → Int64} {b len a : Nat} {R : rT} {E : e2T} {M : mT}
/-- the class behind the letters of word w -/
theorem behind_c {w n : Nat} (hw : w < 6) {E' : e2T} {s : Int32} : (p_X3_item_r f (n + 1) E' R s (t_words (PW w)) w (Int32.ofNat (LW w - 1)) ↔ if t_words (PW w) = 99 then if (v_X4_isFull R) = 0 then p_X3_comerItem E' f R else True else if t_words (PW w) = 100 then p_X3_doubtItem E' f R else p_X3_settingItem E' f R (t_words (PW w))) ∧ ∀ res, g_X3_item_r f (n + 1) E' R s (t_words (PW w)) w (Int32.ofNat (LW w - 1)) res ↔ if t_words (PW w) = 99 then if (v_X4_isFull R) = 0 then ∃ q9 : Int32 × e2T × rT × LL, g_X3_comerItem E' f R q9 ∧ (res = (q9.1, q9.2.1, q9.2.2.1, [] ++ q9.2.2.2)) else res = (0, e2f E' 1 s, R, []) else if t_words (PW w) = 100 then res = ((v_X3_doubtItem E' f R).1, (v_X3_doubtItem E' f R).2.1, (v_X3_doubtItem E' f R).2.2, []) else res = ((v_X3_settingItem E' f R (t_words (PW w))).1, (v_X3_settingItem E' f R (t_words (PW w))).2.1, (v_X3_settingItem E' f R (t_words (PW w))).2.2, []) := by
  obtain ⟨s1, s2, s3, s4⟩ := str_ok w hw
  have wl : Int32.ofNat (LW w - 1) ≤ Int32.ofNat (LW w - 1) := by rw [n_le]; exact Int.le_refl _
  refine ⟨?_, fun res => ?_⟩
  · rw [p_X3_item_r, s1, if_pos wl]
  · rw [g_X3_item_r, s1, if_pos wl]
    exact Iff.rfl
/-- the reference, a word that goes wrong at m -/
theorem ref_miss (hT : RT f M b len) (hW : ∀ i, i < 36 → M.2.1 22 i = t_words i) (h27 : M.1 27 = Int32.ofNat a) (ha : a ≤ 160) {w m : Nat} (hw : w < 6) (hm0 : 1 ≤ m) (hmL : m < LW w) (hm : ∀ j, j < m → a + j < len ∧ lt f len (a + j) = t_words (PW w + j)) (hx : ¬ (a + m < len ∧ lt f len (a + m) = t_words (PW w + m))) (hst : v_X7_stands M 0 = 0 ∨ ¬ M.1 0 = 7) (hps : p_X7_stands M 0) : p_X7_item M ∧ v_X7_item M = (0, msf M 30 (Int32.ofNat (a + m))) := by
  obtain ⟨w1, w2⟩ := word_miss hT hW h27 ha hw hm0 hmL hm hx
  have m1 : (-1 : Int32) = -1 := rfl
  unfold p_X7_item v_X7_item
  rcases Classical.em (v_X7_stands M 0 = 0) with c | c
  · refine ⟨⟨hps, ?_⟩, ?_⟩
    · rw [if_pos c, w2, kk_def, if_pos m1]; exact ⟨w1, trivial⟩
    · rw [if_pos c, w2, kk_def, if_pos m1]
  · have c2 : ¬ M.1 0 = 7 := by rcases hst with h | h; exact absurd h c; exact h
    refine ⟨⟨hps, ?_⟩, ?_⟩
    · rw [if_neg c, if_neg c2, w2, kk_def, if_pos m1]; exact ⟨w1, trivial⟩
    · rw [if_neg c, if_neg c2, w2, kk_def, if_pos m1]
/-- the reference, a word that stands there with its blank -/
theorem ref_hit (hT : RT f M b len) (hW : ∀ i, i < 36 → M.2.1 22 i = t_words i) (h27 : M.1 27 = Int32.ofNat a) (ha : a ≤ 160) {w : Nat} (hw : w < 6) (hm : ∀ j, j < LW w → a + j < len ∧ lt f len (a + j) = t_words (PW w + j)) (hst : v_X7_stands M 0 = 0 ∨ ¬ M.1 0 = 7) (hps : p_X7_stands M 0) {r : Int32} {M' : mT} (hi : v_X7_item_r 200 (msf M 27 (Int32.ofNat (a + LW w))) (Int32.ofNat w) 0 = (r, M')) (hp : p_X7_item_r 200 (msf M 27 (Int32.ofNat (a + LW w))) (Int32.ofNat w) 0) : p_X7_item M ∧ v_X7_item M = (r, M') := by
  obtain ⟨w1, w2⟩ := word_hit hT hW h27 ha hw hm
  have m1 : ¬ Int32.ofNat w = -1 := by rw [n_eq, n_of (by omega), n_m1]; omega
  unfold p_X7_item v_X7_item
  rcases Classical.em (v_X7_stands M 0 = 0) with c | c
  · refine ⟨⟨hps, ?_⟩, ?_⟩
    · rw [if_pos c, w2, kk_def, if_neg m1]; exact ⟨w1, hp⟩
    · rw [if_pos c, w2, kk_def, if_neg m1]; exact hi
  · have c2 : ¬ M.1 0 = 7 := by rcases hst with h | h; exact absurd h c; exact h
    refine ⟨⟨hps, ?_⟩, ?_⟩
    · rw [if_neg c, if_neg c2, w2, kk_def, if_neg m1]; exact ⟨w1, hp⟩
    · rw [if_neg c, if_neg c2, w2, kk_def, if_neg m1]; exact hi
end
