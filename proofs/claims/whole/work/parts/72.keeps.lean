/-! a good reading leaves the fault, and comers never get fewer -/
def KF (E : e2T) (R : rT) (r : Int32) (E' : e2T) (R' : rT) : Prop := (r = 0 ∨ E'.1 1 = E.1 1) ∧ (R.1 4).toInt ≤ (R'.1 4).toInt
theorem KF.tr {E1 E2 E3 : e2T} {R1 R2 R3 : rT} {r1 r2 : Int32} (h1 : KF E1 R1 r1 E2 R2) (h0 : ¬ r1 = 0) (h2 : KF E2 R2 r2 E3 R3) : KF E1 R1 r2 E3 R3 := by
  refine ⟨?_, Int.le_trans h1.2 h2.2⟩
  rcases h2.1 with h | h
  · exact Or.inl h
  · rcases h1.1 with k | k
    · exact absurd k h0
    · exact Or.inr (h.trans k)
section
variable {f : Nat → Int64} {R : rT} {E : e2T}
theorem kf_sign {x : Int32} : (v_X3_sign E f x).1 = 0 ∨ (v_X3_sign E f x).2.1 1 = E.1 1 := by
  unfold v_X3_sign
  by_cases c : v_X3_letter E f (E.1 5) = x
  · rw [if_pos c]; exact Or.inr (e2f_ne (by decide))
  · rw [if_neg c, kk_def]; exact Or.inl rfl
theorem kf_num {x y : Int32} : (v_X3_numeral E f x y).1 = 0 ∨ (v_X3_numeral E f x y).2.1 1 = E.1 1 := by
  have hs := kf_sign (E := E) (f := f) (x := 32)
  unfold v_X3_numeral
  rw [kk_def]
  generalize v_X3_sign E f 32 = q2 at hs ⊢
  by_cases c : q2.1 = 0
  · rw [if_pos c]; exact Or.inl rfl
  · rw [if_neg c]
    by_cases d : v_X3_isDigit (v_X3_letter q2.2 f (q2.2.1 5)) = 0
    · rw [if_pos d, kk_def]; exact Or.inl rfl
    · rw [if_neg d, kk_def, kk_def, kk_def]
      have e1 : q2.2.1 1 = E.1 1 := by
        rcases hs with h | h
        · exact absurd h c
        · exact h
      generalize hK : (if v_X3_isDigit (v_X3_letter (e2f (e2f q2.2 6 ((v_X3_letter q2.2 f (q2.2.1 5)) - 48)) 5 ((q2.2.1 5) + 1)) f ((q2.2.1 5) + 1)) = 0 then e2f (e2f q2.2 6 ((v_X3_letter q2.2 f (q2.2.1 5)) - 48)) 5 ((q2.2.1 5) + 1) else e2f (e2f (e2f (e2f q2.2 6 ((v_X3_letter q2.2 f (q2.2.1 5)) - 48)) 5 ((q2.2.1 5) + 1)) 6 (((10 * ((v_X3_letter q2.2 f (q2.2.1 5)) - 48)) + (v_X3_letter (e2f (e2f q2.2 6 ((v_X3_letter q2.2 f (q2.2.1 5)) - 48)) 5 ((q2.2.1 5) + 1)) f ((q2.2.1 5) + 1))) - 48)) 5 (((q2.2.1 5) + 1) + 1)) = K
      have k1 : K.1 1 = E.1 1 := by
        rw [← hK]
        by_cases g : v_X3_isDigit (v_X3_letter (e2f (e2f q2.2 6 ((v_X3_letter q2.2 f (q2.2.1 5)) - 48)) 5 ((q2.2.1 5) + 1)) f ((q2.2.1 5) + 1)) = 0
        · rw [if_pos g, e2f_ne (by decide), e2f_ne (by decide)]; exact e1
        · rw [if_neg g, e2f_ne (by decide), e2f_ne (by decide), e2f_ne (by decide), e2f_ne (by decide)]; exact e1
      by_cases w : v_X6_within (K.1 6) x y = 0
      · rw [if_pos w]; exact Or.inl rfl
      · rw [if_neg w, if_neg w]; exact Or.inr k1
theorem kf_add {x1 x2 x3 x4 x5 x6 : Int32} {q : rT × LL} (h : g_X4_add R x1 x2 x3 x4 x5 x6 q) : (R.1 4).toInt ≤ (q.1.1 4).toInt := by
  unfold g_X4_add at h
  by_cases c1 : R.1 4 < 0
  · rw [if_pos c1] at h
    subst h
    exact Int.le_refl _
  · rw [if_neg c1] at h
    by_cases c2 : R.1 4 < 7
    · rw [if_pos c2] at h
      obtain ⟨q3, -, h⟩ := h
      subst h
      show (R.1 4).toInt ≤ (R.1 4 + 1).toInt
      rw [n_lt, n_0] at c1
      rw [n_lt, n_7] at c2
      rw [n_add (by rw [n_1]; omega) (by rw [n_1]; omega), n_1]
      omega
    · rw [if_neg c2] at h
      subst h
      exact Int.le_refl _
theorem kf_comer : ∀ (n : Nat) (E : e2T) (v : Int32) (res : Int32 × e2T × rT × LL), g_X3_comerItem_r f n E R v res → KF E R res.1 res.2.1 res.2.2.1 := by
  intro n
  induction n with
  | zero => intro E v res h; exact absurd h (by rw [g_X3_comerItem_r]; exact fun q => q)
  | succ n ih =>
    intro E v res h
    rw [g_X3_comerItem_r] at h
    by_cases c : (6 : Int32) ≤ v
    · rw [if_pos c] at h
      obtain ⟨q3, h1, h2⟩ := h
      subst h2
      exact ⟨Or.inr rfl, kf_add h1⟩
    · rw [if_neg c, kk_def] at h
      have hn := kf_num (E := E) (f := f) (x := t_least v.toNatClampNeg) (y := t_most v.toNatClampNeg)
      generalize v_X3_numeral E f (t_least v.toNatClampNeg) (t_most v.toNatClampNeg) = q7 at h hn
      by_cases c7 : q7.1 = 0
      · rw [if_pos c7] at h
        subst h
        exact ⟨Or.inl rfl, Int.le_refl _⟩
      · rw [if_neg c7] at h
        obtain ⟨a, b⟩ := ih _ _ _ h
        refine ⟨?_, b⟩
        rcases a with a | a
        · exact Or.inl a
        · rcases hn with e | e
          · exact absurd e c7
          · exact Or.inr (a.trans e)
theorem kf_doubt : KF E R (v_X3_doubtItem E f R).1 (v_X3_doubtItem E f R).2.1 (v_X3_doubtItem E f R).2.2 := by
  have h1 := kf_num (E := E) (f := f) (x := 0) (y := R.1 4 - 1)
  unfold v_X3_doubtItem
  rw [kk_def]
  generalize v_X3_numeral E f 0 (R.1 4 - 1) = q2 at h1 ⊢
  by_cases c : q2.1 = 0
  · rw [if_pos c]; exact ⟨Or.inl rfl, Int.le_refl _⟩
  · rw [if_neg c, kk_def]
    have h2 := kf_num (E := q2.2) (f := f) (x := 0) (y := 30)
    generalize v_X3_numeral q2.2 f 0 30 = q5 at h2 ⊢
    by_cases c5 : q5.1 = 0
    · rw [if_pos c5]; exact ⟨Or.inl rfl, Int.le_refl _⟩
    · rw [if_neg c5, kk_def]
      refine ⟨Or.inr ?_, ?_⟩
      · show q5.2.1 1 = _
        rcases h2 with e | e
        · exact absurd e c5
        · rcases h1 with k | k
          · exact absurd k c
          · exact e.trans k
      · by_cases c6 : v_X4_has R (q2.2.1 6) = 0
        · rw [if_pos c6]; exact Int.le_refl _
        · rw [if_neg c6]; exact Int.le_refl _
theorem kf_set (d : Int32) : KF E R (v_X3_settingItem E f R d).1 (v_X3_settingItem E f R d).2.1 (v_X3_settingItem E f R d).2.2 := by
  have h1 := kf_num (E := E) (f := f) (x := if d = 102 then 0 else 1) (y := v_X3_mostOf d)
  unfold v_X3_settingItem
  rw [kk_def]
  generalize v_X3_numeral E f (if d = 102 then 0 else 1) (v_X3_mostOf d) = q4 at h1 ⊢
  by_cases c : q4.1 = 0
  · rw [if_pos c]; exact ⟨Or.inl rfl, Int.le_refl _⟩
  · rw [if_neg c]
    have e : q4.2.1 1 = E.1 1 := by
      rcases h1 with k | k
      · exact absurd k c
      · exact k
    by_cases c1 : d = 102
    · rw [if_pos c1]; exact ⟨Or.inr e, Int.le_refl _⟩
    · rw [if_neg c1]
      by_cases c2 : d = 116
      · rw [if_pos c2]; exact ⟨Or.inr e, Int.le_refl _⟩
      · rw [if_neg c2]
        by_cases c3 : d = 119
        · rw [if_pos c3]; exact ⟨Or.inr e, Int.le_refl _⟩
        · rw [if_neg c3]; exact ⟨Or.inr e, Int.le_refl _⟩
theorem kf_item_r {s d : Int32} {w : Nat} : ∀ (n : Nat) (E : e2T) (v : Int32) (res : Int32 × e2T × rT × LL), g_X3_item_r f n E R s d w v res → KF E R res.1 res.2.1 res.2.2.1 := by
  intro n
  induction n with
  | zero => intro E v res h; exact absurd h (by rw [g_X3_item_r]; exact fun q => q)
  | succ n ih =>
    intro E v res h
    rw [g_X3_item_r] at h
    by_cases c : (Int32.ofNat (s_len.getD w 0) >>> ((0 : Int32) &&& 31)) ≤ v
    · rw [if_pos c] at h
      by_cases c1 : d = 99
      · rw [if_pos c1] at h
        by_cases c2 : v_X4_isFull R = 0
        · rw [if_pos c2] at h
          obtain ⟨q9, h1, h2⟩ := h
          subst h2
          exact kf_comer _ _ _ _ h1
        · rw [if_neg c2, kk_def] at h
          subst h
          exact ⟨Or.inl rfl, Int.le_refl _⟩
      · rw [if_neg c1] at h
        by_cases c2 : d = 100
        · rw [if_pos c2, kk_def] at h
          subst h
          exact kf_doubt
        · rw [if_neg c2, kk_def] at h
          subst h
          exact kf_set d
    · rw [if_neg c, kk_def] at h
      have hs := kf_sign (E := E) (f := f) (x := v_str w v)
      generalize v_X3_sign E f (v_str w v) = q21 at h hs
      by_cases c1 : q21.1 = 0
      · rw [if_pos c1] at h
        subst h
        exact ⟨Or.inl rfl, Int.le_refl _⟩
      · rw [if_neg c1] at h
        obtain ⟨a, b⟩ := ih _ _ _ h
        refine ⟨?_, b⟩
        rcases a with a | a
        · exact Or.inl a
        · rcases hs with e | e
          · exact absurd e c1
          · exact Or.inr (a.trans e)
theorem kf_item {res : Int32 × e2T × rT × LL} (h : g_X3_item E f R res) : KF E R res.1 res.2.1 res.2.2.1 := by
  unfold g_X3_item at h
  rw [kk_def] at h
  by_cases c : v_isEmpty (v_X3_wordFrom (v_X3_letter E f (E.1 5))) = 0
  · rw [if_pos c] at h
    exact kf_item_r _ _ _ _ h
  · rw [if_neg c, kk_def] at h
    subst h
    exact ⟨Or.inl rfl, Int.le_refl _⟩
end
theorem kf_read {S : sT} : ∀ (n : Nat) (E : e2T) (R : rT) (L : LL) (v : Int32) (res : Int32 × e2T × rT × LL), g_X3_readAll_r S n E R L v res → KF E R res.1 res.2.1 res.2.2.1 := by
  intro n
  induction n with
  | zero => intro E R L v res h; exact absurd h (by rw [g_X3_readAll_r]; exact fun q => q)
  | succ n ih =>
    intro E R L v res h
    rw [g_X3_readAll_r] at h
    by_cases c : (160 : Int32) < v
    · rw [if_pos c, kk_def] at h
      subst h
      exact ⟨Or.inl rfl, Int.le_refl _⟩
    · rw [if_neg c] at h
      obtain ⟨q4, h1, h⟩ := h
      have k := kf_item h1
      by_cases c4 : q4.1 = 0
      · rw [if_pos c4] at h
        subst h
        exact ⟨Or.inl rfl, k.2⟩
      · rw [if_neg c4] at h
        have e1 : (e2f q4.2.1 2 ((q4.2.1.1 2) + 1)).1 1 = E.1 1 := by
          rw [e2f_ne (by decide)]
          rcases k.1 with z | z
          · exact absurd z c4
          · exact z
        by_cases c5 : q4.2.1.1 5 < q4.2.1.1 4
        · rw [if_pos c5, kk_def] at h
          have hs := kf_sign (E := e2f q4.2.1 2 ((q4.2.1.1 2) + 1)) (f := S.2) (x := 59)
          generalize v_X3_sign (e2f q4.2.1 2 ((q4.2.1.1 2) + 1)) S.2 59 = q8 at h hs
          by_cases c8 : q8.1 = 0
          · rw [if_pos c8] at h
            subst h
            exact ⟨Or.inl rfl, k.2⟩
          · rw [if_neg c8] at h
            obtain ⟨a, b⟩ := ih _ _ _ _ _ h
            refine ⟨?_, Int.le_trans k.2 b⟩
            rcases a with a | a
            · exact Or.inl a
            · rcases hs with e | e
              · exact absurd e c8
              · exact Or.inr (a.trans (e.trans e1))
        · rw [if_neg c5] at h
          subst h
          exact ⟨Or.inr e1, k.2⟩
