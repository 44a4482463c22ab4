/-! whom a draft tells of -/
def KN (R R' : rT) (L : LL) : Prop := ∀ c v, R'.2.2 c = some v → R.2.2 c = some v ∨ ∃ e, e ∈ L ∧ e.1 = v
theorem KN.rf (R : rT) (L : LL) : KN R R L := fun _ _ h => Or.inl h
theorem KN.eq {R R' : rT} {L : LL} (h : R'.2.2 = R.2.2) : KN R R' L := fun c v e => Or.inl (by rw [← h]; exact e)
theorem KN.tr {R1 R2 R3 : rT} {L1 L2 : LL} (h1 : KN R1 R2 L1) (h2 : KN R2 R3 L2) : KN R1 R3 (L1 ++ L2) := fun c v e => by
  rcases h2 c v e with h | ⟨x, h, k⟩
  · rcases h1 c v h with h | ⟨x, h, k⟩
    · exact Or.inl h
    · exact Or.inr ⟨x, List.mem_append_left _ h, k⟩
  · exact Or.inr ⟨x, List.mem_append_right _ h, k⟩
section
variable {f : Nat → Int64} {R : rT} {E : e2T}
theorem kn_add {x1 x2 x3 x4 x5 x6 : Int32} {q : rT × LL} (h : g_X4_add R x1 x2 x3 x4 x5 x6 q) : KN R q.1 q.2 := by
  unfold g_X4_add at h
  by_cases c1 : R.1 4 < 0
  · rw [if_pos c1] at h
    subst h
    exact KN.rf _ _
  · rw [if_neg c1] at h
    by_cases c2 : R.1 4 < 7
    · rw [if_pos c2] at h
      obtain ⟨q3, -, h⟩ := h
      subst h
      intro c v e
      have e' : va_up R.2.2 (R.1 4).toNatClampNeg (some q3) c = some v := e
      by_cases z : c = (R.1 4).toNatClampNeg
      · rw [z, up_at] at e'
        cases e'
        exact Or.inr ⟨_, List.mem_singleton.mpr rfl, rfl⟩
      · rw [up_ne z] at e'
        exact Or.inl e'
    · rw [if_neg c2] at h
      subst h
      exact KN.rf _ _
theorem kn_comer : ∀ (n : Nat) (E : e2T) (v : Int32) (res : Int32 × e2T × rT × LL), g_X3_comerItem_r f n E R v res → KN R res.2.2.1 res.2.2.2 := by
  intro n
  induction n with
  | zero => intro E v res h; exact absurd h (by rw [g_X3_comerItem_r]; exact fun q => q)
  | succ n ih =>
    intro E v res h
    rw [g_X3_comerItem_r] at h
    by_cases c : (6 : Int32) ≤ v
    · rw [if_pos c] at h
      obtain ⟨q3, h1, h2⟩ := h
      subst h2
      show KN R q3.1 ([] ++ q3.2)
      rw [List.nil_append]
      exact kn_add h1
    · rw [if_neg c, kk_def] at h
      generalize v_X3_numeral E f (t_least v.toNatClampNeg) (t_most v.toNatClampNeg) = q7 at h
      by_cases c7 : q7.1 = 0
      · rw [if_pos c7] at h
        subst h
        exact KN.rf _ _
      · rw [if_neg c7] at h
        exact ih _ _ _ h
theorem kn_doubt : (v_X3_doubtItem E f R).2.2.2.2 = R.2.2 := by
  unfold v_X3_doubtItem
  rw [kk_def]
  generalize v_X3_numeral E f 0 (R.1 4 - 1) = q2
  by_cases c : q2.1 = 0
  · rw [if_pos c]
  · rw [if_neg c, kk_def]
    generalize v_X3_numeral q2.2 f 0 30 = q5
    by_cases c5 : q5.1 = 0
    · rw [if_pos c5]
    · rw [if_neg c5, kk_def]
      by_cases c6 : v_X4_has R (q2.2.1 6) = 0
      · rw [if_pos c6]
      · rw [if_neg c6]; rfl
theorem kn_set (d : Int32) : (v_X3_settingItem E f R d).2.2.2.2 = R.2.2 := by
  unfold v_X3_settingItem
  rw [kk_def]
  generalize v_X3_numeral E f (if d = 102 then 0 else 1) (v_X3_mostOf d) = q4
  by_cases c : q4.1 = 0
  · rw [if_pos c]
  · rw [if_neg c]
    by_cases c1 : d = 102
    · rw [if_pos c1]; rfl
    · rw [if_neg c1]
      by_cases c2 : d = 116
      · rw [if_pos c2]; rfl
      · rw [if_neg c2]
        by_cases c3 : d = 119
        · rw [if_pos c3]; rfl
        · rw [if_neg c3]; rfl
theorem kn_item_r {s d : Int32} {w : Nat} : ∀ (n : Nat) (E : e2T) (v : Int32) (res : Int32 × e2T × rT × LL), g_X3_item_r f n E R s d w v res → KN R res.2.2.1 res.2.2.2 := by
  intro n
  induction n with
  | zero => intro E v res h; exact absurd h (by rw [g_X3_item_r]; exact fun q => q)
  | succ n ih =>
    intro E v res h
    rw [g_X3_item_r] at h
    by_cases c : (Int32.ofNat (s_len.getD w 0) >>> ((0 : Int32) &&& 31)) ≤ v
    · rw [if_pos c] at h
      by_cases c1 : d = 99
      · rw [if_pos c1] at h
        by_cases c2 : v_X4_isFull R = 0
        · rw [if_pos c2] at h
          obtain ⟨q9, h1, h2⟩ := h
          subst h2
          show KN R q9.2.2.1 ([] ++ q9.2.2.2)
          rw [List.nil_append]
          exact kn_comer _ _ _ _ h1
        · rw [if_neg c2, kk_def] at h
          subst h
          exact KN.rf _ _
      · rw [if_neg c1] at h
        by_cases c2 : d = 100
        · rw [if_pos c2, kk_def] at h
          subst h
          exact KN.eq kn_doubt
        · rw [if_neg c2, kk_def] at h
          subst h
          exact KN.eq (kn_set d)
    · rw [if_neg c, kk_def] at h
      generalize v_X3_sign E f (v_str w v) = q21 at h
      by_cases c1 : q21.1 = 0
      · rw [if_pos c1] at h
        subst h
        exact KN.rf _ _
      · rw [if_neg c1] at h
        exact ih _ _ _ h
theorem kn_item {res : Int32 × e2T × rT × LL} (h : g_X3_item E f R res) : KN R res.2.2.1 res.2.2.2 := by
  unfold g_X3_item at h
  rw [kk_def] at h
  by_cases c : v_isEmpty (v_X3_wordFrom (v_X3_letter E f (E.1 5))) = 0
  · rw [if_pos c] at h
    exact kn_item_r _ _ _ _ h
  · rw [if_neg c, kk_def] at h
    subst h
    exact KN.rf _ _
end
theorem kn_read {S : sT} : ∀ (n : Nat) (E : e2T) (R0 R : rT) (L : LL) (v : Int32) (res : Int32 × e2T × rT × LL), KN R0 R L → g_X3_readAll_r S n E R L v res → KN R0 res.2.2.1 res.2.2.2 := by
  intro n
  induction n with
  | zero => intro E R0 R L v res _ h; exact absurd h (by rw [g_X3_readAll_r]; exact fun q => q)
  | succ n ih =>
    intro E R0 R L v res h0 h
    rw [g_X3_readAll_r] at h
    by_cases c : (160 : Int32) < v
    · rw [if_pos c, kk_def] at h
      subst h
      exact h0
    · rw [if_neg c] at h
      obtain ⟨q4, h1, h⟩ := h
      have k := h0.tr (kn_item h1)
      by_cases c4 : q4.1 = 0
      · rw [if_pos c4] at h
        subst h
        exact k
      · rw [if_neg c4] at h
        by_cases c5 : q4.2.1.1 5 < q4.2.1.1 4
        · rw [if_pos c5, kk_def] at h
          generalize v_X3_sign (e2f q4.2.1 2 ((q4.2.1.1 2) + 1)) S.2 59 = q8 at h
          by_cases c8 : q8.1 = 0
          · rw [if_pos c8] at h
            subst h
            exact k
          · rw [if_neg c8] at h
            exact ih _ _ _ _ _ _ k h
        · rw [if_neg c5] at h
          subst h
          exact k
