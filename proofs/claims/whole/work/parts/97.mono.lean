/-! who slows at the best slows at the worse -/
theorem max_toInt (a b : Int32) : (if a < b then b else a).toInt = if a.toInt < b.toInt then b.toInt else a.toInt := by
  by_cases c : a < b
  · rw [if_pos c, if_pos (n_lt.mp c)]
  · rw [if_neg c, if_neg (fun q => c (n_lt.mpr q))]
theorem half_toInt {b : Int32} (h : 0 ≤ b.toInt) : (b / 2).toInt = b.toInt / 2 := n_div h (by decide)
theorem courage_mono {o : Nat → Int32} {n a b a' b' : Int32} (hn : 0 ≤ n.toInt ∧ n.toInt ≤ 30) (ha : 0 ≤ a.toInt ∧ a.toInt ≤ a'.toInt ∧ a'.toInt ≤ 30) (hb : 0 ≤ b.toInt ∧ b.toInt ≤ b'.toInt ∧ b'.toInt ≤ 30) : (v_X0_courage o n a b).toInt ≤ (v_X0_courage o n a' b').toInt := by
  have m1 := max_toInt n a
  have m2 := max_toInt n a'
  have h1 := half_toInt hb.1
  have h2 := half_toInt (b := b') (by omega)
  have k1 : (if n.toInt < a.toInt then a.toInt else n.toInt) ≤ (if n.toInt < a'.toInt then a'.toInt else n.toInt) ∧ (if n.toInt < a'.toInt then a'.toInt else n.toInt) ≤ 30 ∧ 0 ≤ (if n.toInt < a.toInt then a.toInt else n.toInt) := by
    by_cases c : n.toInt < a.toInt
    · rw [if_pos c, if_pos (by omega)]; omega
    · rw [if_neg c]
      by_cases d : n.toInt < a'.toInt
      · rw [if_pos d]; omega
      · rw [if_neg d]; omega
  rw [← m1, ← m2] at k1
  unfold v_X0_courage
  by_cases c2 : o 1 = 2
  · rw [if_pos c2, if_pos c2]; exact k1.1
  · rw [if_neg c2, if_neg c2]
    by_cases c3 : o 1 = 3
    · rw [if_pos c3, if_pos c3]
      rw [n_add (by rw [h1]; omega) (by rw [h1]; omega), n_add (by rw [h2]; omega) (by rw [h2]; omega), h1, h2]
      omega
    · rw [if_neg c3, if_neg c3]
      exact Int.le_refl _
section
variable {P : pT} {R : rT} {M : mT} {x : Int32}
/-- when nothing makes him slow -/
theorem slow_room (h : SC P R M x) {f nv a b s : Int32} (hf : 0 ≤ f.toInt ∧ f.toInt ≤ 9) (hn : 0 ≤ nv.toInt ∧ nv.toInt ≤ 30) (ha : 0 ≤ a.toInt ∧ a.toInt ≤ 30) (hb : 0 ≤ b.toInt ∧ b.toInt ≤ 30) (hs : 0 ≤ s.toInt ∧ s.toInt ≤ 7) : ∃ q, v_X4_at R x = some q ∧ (v_X4_slowAt P R x f nv a b s = -1 ↔ (0 ≤ (v_X0_courage (P.2 q) nv a b).toInt - (R.2.1 3 x.toNatClampNeg).toInt - s.toInt - (v_X0_burden (P.2 q) f).toInt ∧ (¬ 0 < (v_X0_step (P.2 q)).toInt ∨ (v_X0_looksOn (P.2 q) (R.1 5)).toInt < ((v_X0_courage (P.2 q) nv a b).toInt - (R.2.1 3 x.toNatClampNeg).toInt - s.toInt - (v_X0_burden (P.2 q) f).toInt) / (v_X0_step (P.2 q)).toInt + 1))) := by
  obtain ⟨⟨q, e0, hq, e1, e2, e3, e4⟩, e5, e6, hok, hw, hx, -⟩ := h
  refine ⟨q, e0, ?_⟩
  have hd : 0 ≤ (R.2.1 3 x.toNatClampNeg).toInt ∧ (R.2.1 3 x.toNatClampNeg).toInt ≤ 30 := by rw [e5]; exact hok.2.2.2.2.2.2
  have hcb := courage_b (o := P.2 q) hn ha hb
  have hbb := mburden_b (M := M) (x := x) (f := f) hok.2.2.2.2.1 hf
  rw [← burden_eq (M := M) (x := x) e1 e4] at hbb
  have hsb := mstep_b (M := M) (x := x) rfl hok
  rw [← step_eq (M := M) (x := x) e1 e2] at hsb
  unfold v_X4_slowAt
  rw [e0, oc_some, kk_def]
  generalize v_X0_courage (P.2 q) nv a b = C at *
  generalize v_X0_burden (P.2 q) f = B at *
  generalize v_X0_step (P.2 q) = S at *
  generalize v_X0_looksOn (P.2 q) (R.1 5) = L at *
  generalize R.2.1 3 x.toNatClampNeg = D at *
  have r1 : (C - D).toInt = C.toInt - D.toInt := n_sub (by omega) (by omega)
  have r2 : (C - D - s).toInt = C.toInt - D.toInt - s.toInt := by rw [n_sub (by rw [r1]; omega) (by rw [r1]; omega), r1]
  have r3 : (C - D - s - B).toInt = C.toInt - D.toInt - s.toInt - B.toInt := by rw [n_sub (by rw [r2]; omega) (by rw [r2]; omega), r2]
  generalize hY : C - D - s - B = Y at *
  rw [← r3]
  by_cases c0 : 0 ≤ Y
  · rw [if_pos c0]
    rw [n_le, n_0] at c0
    by_cases c1 : 0 < S
    · rw [if_pos c1]
      rw [n_lt, n_0] at c1
      have dv : (Y / S).toInt = Y.toInt / S.toInt := n_div c0 c1
      have dl : Y.toInt / S.toInt ≤ Y.toInt := Int.ediv_le_self _ c0
      have dp : 0 ≤ Y.toInt / S.toInt := Int.ediv_nonneg c0 (by omega)
      have d1 : (Y / S + 1).toInt = Y.toInt / S.toInt + 1 := by rw [n_add (by rw [dv, n_1]; omega) (by rw [dv, n_1]; omega), dv, n_1]
      by_cases c2 : L < Y / S + 1
      · rw [if_pos c2]
        rw [n_lt, d1] at c2
        exact ⟨fun _ => ⟨c0, Or.inr c2⟩, fun _ => rfl⟩
      · rw [if_neg c2]
        rw [n_lt, d1] at c2
        refine ⟨fun q => ?_, fun q => ?_⟩
        · rw [n_eq, d1, n_m1] at q
          omega
        · rcases q.2 with q2 | q2
          · exact absurd c1 q2
          · exact absurd q2 c2
    · rw [if_neg c1]
      rw [n_lt, n_0] at c1
      exact ⟨fun _ => ⟨c0, Or.inl c1⟩, fun _ => rfl⟩
  · rw [if_neg c0]
    rw [n_le, n_0] at c0
    exact ⟨fun q => absurd q (by decide), fun q => absurd q.1 c0⟩
theorem slow_mono (h : SC P R M x) {f nv a b s a' b' : Int32} (hf : 0 ≤ f.toInt ∧ f.toInt ≤ 9) (hn : 0 ≤ nv.toInt ∧ nv.toInt ≤ 30) (ha : 0 ≤ a.toInt ∧ a.toInt ≤ a'.toInt ∧ a'.toInt ≤ 30) (hb : 0 ≤ b.toInt ∧ b.toInt ≤ b'.toInt ∧ b'.toInt ≤ 30) (hs : 0 ≤ s.toInt ∧ s.toInt ≤ 7) (hS : v_X4_slowAt P R x f nv a b s = -1) : v_X4_slowAt P R x f nv a' b' 0 = -1 := by
  obtain ⟨q, e1, k1⟩ := slow_room h (f := f) (nv := nv) (a := a) (b := b) (s := s) hf hn ⟨ha.1, by omega⟩ ⟨hb.1, by omega⟩ hs
  obtain ⟨q', e2, k2⟩ := slow_room h (f := f) (nv := nv) (a := a') (b := b') (s := 0) hf hn ⟨by omega, ha.2.2⟩ ⟨by omega, hb.2.2⟩ ⟨by decide, by decide⟩
  have eq : q' = q := by
    rw [e1] at e2
    exact (Option.some.inj e2).symm
  subst eq
  have cm := courage_mono (o := P.2 q') hn ha hb
  rw [k1] at hS
  rw [k2, n_0]
  refine ⟨by omega, ?_⟩
  rcases hS.2 with z | z
  · exact Or.inl z
  · by_cases y : 0 < (v_X0_step (P.2 q')).toInt
    · refine Or.inr (Int.lt_of_lt_of_le z (Int.add_le_add_right (Int.ediv_le_ediv y (by omega)) 1))
    · exact Or.inl y
theorem weight_mono (hR : RR P R M) (hx : isC M.1 x) {a b s a' b' : Int32} (ha : 0 ≤ a.toInt ∧ a.toInt ≤ a'.toInt ∧ a'.toInt ≤ 30) (hb : 0 ≤ b.toInt ∧ b.toInt ≤ b'.toInt ∧ b'.toInt ≤ 30) (hs : 0 ≤ s.toInt ∧ s.toInt ≤ 7) : (v_X4_weightOf R (v_X4_comesTo P R x a' b' 0)).toInt ≤ (v_X4_weightOf R (v_X4_comesTo P R x a b s)).toInt := by
  have hsc := SC_of hR hx
  have e6 : R.1 6 = M.1 2 := hR.1.2.2.1
  have e7 : R.1 7 = M.1 3 := hR.1.2.2.2.1
  have hf : 0 ≤ (R.1 6).toInt ∧ (R.1 6).toInt ≤ 9 := by rw [e6]; exact hR.2.1.2.2.1
  have ht : 1 ≤ (R.1 7).toInt ∧ (R.1 7).toInt ≤ 99 := by rw [e7]; exact hR.2.1.2.2.2.1
  have hn : 0 ≤ (R.2.1 1 x.toNatClampNeg).toInt ∧ (R.2.1 1 x.toNatClampNeg).toInt ≤ 30 := by rw [(hR.cm hx).2.1.1]; exact (hR.cm hx).2.2.2.2.1
  unfold v_X4_comesTo
  rw [has_in hR hx, if_neg n10, if_neg n10]
  by_cases c : v_X4_slowAt P R x (R.1 6) (R.2.1 1 x.toNatClampNeg) a' b' 0 = -1
  · rw [if_pos c]
    have z : (v_X4_weightOf R 0).toInt = 0 := by unfold v_X4_weightOf; rw [if_pos rfl]; rfl
    rw [z]
    unfold v_X4_weightOf
    by_cases d1 : (if v_X4_slowAt P R x (R.1 6) (R.2.1 1 x.toNatClampNeg) a b s = -1 then 0 else (if R.2.1 2 x.toNatClampNeg < R.1 7 then (2 : Int32) else 1)) = 0
    · rw [if_pos d1]; decide
    · rw [if_neg d1]
      by_cases d2 : (if v_X4_slowAt P R x (R.1 6) (R.2.1 1 x.toNatClampNeg) a b s = -1 then 0 else (if R.2.1 2 x.toNatClampNeg < R.1 7 then (2 : Int32) else 1)) = 1
      · rw [if_pos d2]; omega
      · rw [if_neg d2]; decide
  · have d : ¬ v_X4_slowAt P R x (R.1 6) (R.2.1 1 x.toNatClampNeg) a b s = -1 := fun q => c (slow_mono hsc hf hn ha hb hs q)
    rw [if_neg c, if_neg d]
    exact Int.le_refl _
end
