/-! the new comers grow behind those that are there; a draft's comers are known -/
section
variable {f : Nat → Int64} {R : rT} {E : e2T}
theorem read_prefix {S : sT} : ∀ (n : Nat) (E : e2T) (R : rT) (L : LL) (v : Int32) (res : Int32 × e2T × rT × LL), g_X3_readAll_r S n E R L v res → ∃ L', res.2.2.2 = L ++ L' := by
  intro n
  induction n with
  | zero => intro E R L v res h; exact absurd h (by rw [g_X3_readAll_r]; exact fun q => q)
  | succ n ih =>
    intro E R L v res h
    rw [g_X3_readAll_r] at h
    by_cases c : (160 : Int32) < v
    · rw [if_pos c, kk_def] at h
      subst h
      exact ⟨[], (List.append_nil L).symm⟩
    · rw [if_neg c] at h
      obtain ⟨q4, -, h⟩ := h
      by_cases c4 : q4.1 = 0
      · rw [if_pos c4] at h
        subst h
        exact ⟨q4.2.2.2, rfl⟩
      · rw [if_neg c4] at h
        by_cases c5 : q4.2.1.1 5 < q4.2.1.1 4
        · rw [if_pos c5, kk_def] at h
          generalize v_X3_sign (e2f q4.2.1 2 ((q4.2.1.1 2) + 1)) S.2 59 = q8 at h
          by_cases c8 : q8.1 = 0
          · rw [if_pos c8] at h
            subst h
            exact ⟨q4.2.2.2, rfl⟩
          · rw [if_neg c8] at h
            obtain ⟨L', e⟩ := ih _ _ _ _ _ h
            exact ⟨q4.2.2.2 ++ L', by rw [e, List.append_assoc]⟩
        · rw [if_neg c5] at h
          subst h
          exact ⟨q4.2.2.2, rfl⟩
end
