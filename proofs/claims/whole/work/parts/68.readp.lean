/-! what the reader's calls need: nothing of the state -/
theorem ite_p {c : Prop} [Decidable c] {a b : Prop} (h1 : c → a) (h2 : ¬ c → b) : (if c then a else b) := by
  by_cases h : c
  · rw [if_pos h]; exact h1 h
  · rw [if_neg h]; exact h2 h
section
variable {f : Nat → Int64} {R : rT} {E : e2T}
theorem p_at_any (R : rT) (x : Int32) : p_X4_at R x := by
  unfold p_X4_at
  split
  · trivial
  · split
    · trivial
    · split
      · rename_i h1 h2 h3
        rw [n_lt, n_0] at h1
        rw [n_lt, n_7] at h3
        rw [vp_iff]; omega
      · trivial
theorem has_lt {R : rT} {x : Int32} (h : ¬ v_X4_has R x = 0) : vp_in x 7 := by
  unfold v_X4_has at h
  unfold v_X4_at at h
  by_cases h1 : x < 0
  · rw [if_pos h1, oc_none] at h; exact absurd rfl h
  · rw [if_neg h1] at h
    by_cases h2 : R.1 4 ≤ x
    · rw [if_pos h2, oc_none] at h; exact absurd rfl h
    · rw [if_neg h2] at h
      by_cases h3 : x < 7
      · rw [n_lt, n_0] at h1
        rw [n_lt, n_7] at h3
        rw [vp_iff]; omega
      · rw [if_neg h3, oc_none] at h; exact absurd rfl h
theorem p_doubt_any : p_X3_doubtItem E f R := by
  unfold p_X3_doubtItem
  refine ⟨p_numeral, ?_⟩
  rw [kk_def]
  generalize v_X3_numeral E f 0 (R.1 4 - 1) = q2
  by_cases c : q2.1 = 0
  · rw [if_pos c]; trivial
  · rw [if_neg c, kk_def]
    generalize v_X3_numeral q2.2 f 0 30 = q5
    refine ⟨p_numeral, ?_⟩
    by_cases c5 : q5.1 = 0
    · rw [if_pos c5]; trivial
    · rw [if_neg c5]
      exact ⟨p_at_any R _, ite_p (fun _ => trivial) (fun h => has_lt h)⟩
theorem p_comer_any : ∀ (k i n : Nat) (E : e2T), i + k = 6 → p_X3_comerItem_r f (n + k + 1) E R (Int32.ofNat i) := by
  intro k
  induction k with
  | zero =>
    intro i n E h
    have e : i = 6 := by omega
    subst e
    have l6 : (6 : Int32) ≤ Int32.ofNat 6 := by decide
    rw [p_X3_comerItem_r, if_pos l6]
    exact p_addx _ _ _ _ _ _
  | succ k ih =>
    intro i n E h
    have l6 : ¬ (6 : Int32) ≤ Int32.ofNat i := by rw [show (6 : Int32) = Int32.ofNat 6 from rfl, nat_le (by omega) (by omega)]; omega
    have vi : vp_in (Int32.ofNat i) 6 := nat_in (by omega) (by omega)
    rw [show n + (k + 1) + 1 = (n + k + 1) + 1 by omega, p_X3_comerItem_r, if_neg l6, kk_def, nat1 (by omega)]
    exact ⟨vi, vi, p_numeral, ite_p (fun _ => trivial) (fun _ => ⟨vi, ih (i + 1) n _ (by omega)⟩)⟩
theorem p_item_r_any {w : Nat} (hw : w < 6) {s d : Int32} : ∀ (k i n : Nat) (E : e2T), i + k = LW w - 1 → p_X3_item_r f (n + k + 1) E R s d w (Int32.ofNat i) := by
  obtain ⟨s1, s2, s3, s4⟩ := str_ok w hw
  obtain ⟨p1, p2, p3, p4, p5, -, p6⟩ := PW_ok w hw
  intro k
  induction k with
  | zero =>
    intro i n E h
    have wl : Int32.ofNat (LW w - 1) ≤ Int32.ofNat i := by rw [nat_le (by omega) (by omega)]; omega
    rw [p_X3_item_r, s1, if_pos wl]
    split
    · split
      · exact p_comer_any 6 0 193 E (by omega)
      · trivial
    · split
      · exact p_doubt_any
      · exact p_numeral
  | succ k ih =>
    intro i n E h
    have wl : ¬ Int32.ofNat (LW w - 1) ≤ Int32.ofNat i := by rw [nat_le (by omega) (by omega)]; omega
    have hlen : s_len.getD w 0 = LW w - 1 := s2
    rw [show n + (k + 1) + 1 = (n + k + 1) + 1 by omega, p_X3_item_r, s1, if_neg wl, kk_def, nat1 (by omega)]
    refine ⟨?_, ?_, ?_, p_sign, ?_⟩
    · rw [n_lt, n_of (by omega), n_0]; omega
    · rw [hlen, n_lt, n_of (by omega), n_of (by omega)]; omega
    · rw [hlen]; exact nat_in (by omega) (by omega)
    · exact ite_p (fun _ => trivial) (fun _ => ih (i + 1) n _ (by omega))
theorem wf_lt (d : Int32) : v_X3_wordFrom d < 7 := by
  unfold v_X3_wordFrom
  repeat' split
  all_goals omega
theorem p_item_any : p_X3_item E f R := by
  unfold p_X3_item
  refine ⟨p_letter, ?_⟩
  rw [kk_def]
  split
  · rename_i h
    have hw := wf_lt (v_X3_letter E f (E.1 5))
    have h6 : ¬ v_X3_wordFrom (v_X3_letter E f (E.1 5)) = 6 := fun e => empty6 (by rw [e] at h; exact h)
    obtain ⟨p1, p2, p3, p4, -⟩ := PW_ok (v_X3_wordFrom (v_X3_letter E f (E.1 5))) (by omega)
    have := p_item_r_any (f := f) (R := R) (w := v_X3_wordFrom (v_X3_letter E f (E.1 5))) (by omega) (s := E.1 5) (d := v_X3_letter E f (E.1 5)) (LW (v_X3_wordFrom (v_X3_letter E f (E.1 5))) - 1) 0 (199 - (LW (v_X3_wordFrom (v_X3_letter E f (E.1 5))) - 1)) E (by omega)
    rw [show 199 - (LW (v_X3_wordFrom (v_X3_letter E f (E.1 5))) - 1) + (LW (v_X3_wordFrom (v_X3_letter E f (E.1 5))) - 1) + 1 = 200 by omega] at this
    exact this
  · trivial
theorem p_read_any {S : sT} : ∀ (n k : Nat) (E : e2T) (R : rT) (L : LL), k + n = 162 → 1 ≤ n → p_X3_readAll_r S n E R L (Int32.ofNat k) := by
  intro n
  induction n with
  | zero => intro k E R L _ h; omega
  | succ n ih =>
    intro k E R L h _
    rw [p_X3_readAll_r]
    by_cases c : (160 : Int32) < Int32.ofNat k
    · rw [if_pos c]; trivial
    · rw [if_neg c]
      have hk : k ≤ 160 := by
        rw [n_lt, n_of (by omega), n_160] at c
        omega
      refine ⟨p_item_any, fun q4 _ => ite_p (fun _ => trivial) (fun _ => ite_p (fun _ => ⟨p_sign, ?_⟩) (fun _ => trivial))⟩
      rw [kk_def, nat1 (by omega)]
      exact ite_p (fun _ => trivial) (fun _ => ih (k + 1) _ _ _ (by omega) (by omega))
end
