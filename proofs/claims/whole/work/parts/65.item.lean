/-! an item, to both -/
theorem wordFrom_ok : ∀ w, w < 6 → v_X3_wordFrom (t_words (PW w)) = w ∧ 32 < (t_words (PW w)).toInt ∧ (t_words (PW w) = 99 ↔ w = 0) ∧ (t_words (PW w) = 100 ↔ w = 1) := by decide +kernel
theorem empty6 : ¬ v_isEmpty 6 = 0 := by decide
theorem wordFrom_none {d : Int32} (h : ∀ w, w < 6 → ¬ d = t_words (PW w)) : v_X3_wordFrom d = 6 := by
  have h0 : ¬ d = 99 := h 0 (by omega)
  have h1 : ¬ d = 100 := h 1 (by omega)
  have h2 : ¬ d = 119 := h 2 (by omega)
  have h3 : ¬ d = 102 := h 3 (by omega)
  have h4 : ¬ d = 116 := h 4 (by omega)
  have h5 : ¬ d = 112 := h 5 (by omega)
  unfold v_X3_wordFrom
  rw [if_neg h0, if_neg h1, if_neg h3, if_neg h5, if_neg h4, if_neg h2]
theorem lt_in {f : Nat → Int64} {len i : Nat} {d : Int32} (h : lt f len i = d) (hd : ¬ d = 0) : i < len := by
  unfold lt at h
  by_cases c : i < len
  · exact c
  · rw [if_neg c] at h
    exact absurd h.symm hd
section
variable {P : pT} {L : LL} {f : Nat → Int64} {b len a : Nat} {R : rT} {E : e2T} {M : mT}
/-- how far the reference has come -/
def RK (len a : Nat) (r : Int32) (M' : mT) : Prop := r = 0 ∨ (r = 1 ∧ ∃ a', a < a' ∧ a' ≤ len ∧ M'.1 27 = Int32.ofNat a')
def IOK (P : pT) (L : LL) (len a : Nat) (E : e2T) (M : mT) (r : Int32) (M' : mT) (res : Int32 × e2T × rT × LL) : Prop := res.1 = r ∧ EG E res.2.1 ∧ ((r = 0 ∧ res.2.1.1 1 = M'.1 30) ∨ (r = 1 ∧ RR (pAdd P (L ++ res.2.2.2)) res.2.2.1 M' ∧ ∃ a', a < a' ∧ a' ≤ len ∧ res.2.1.1 5 = Int32.ofNat a' ∧ M'.1 27 = Int32.ofNat a'))
/-- the numbers of item w behind its blank, and a blank that isn't there -/
theorem tail_comer (hT : RT f M b len) (hN : ∀ i, i < 6 → M.2.1 23 i = t_numbers i) (h24 : ∀ i, i < 6 → M.2.1 24 i = t_mosts i) (h4 : E.1 4 = Int32.ofNat len) (h5 : E.1 5 = Int32.ofNat a) (h27 : M.1 27 = Int32.ofNat (a + 1)) (hx : lt f len a = 32) (hal : a + 1 ≤ len) (hR : RR (pAdd P L) R M) (hfull : ¬ M.1 0 = 7) {a0 : Nat} (ha0 : a0 < a) : ∃ (r : Int32) (M' : mT), v_X7_item_r 200 M (Int32.ofNat 0) 0 = (r, M') ∧ p_X7_item_r 200 M (Int32.ofNat 0) 0 ∧ p_X3_comerItem E f R ∧ MI M M' ∧ RK len a0 r M' ∧ ∀ res, g_X3_comerItem E f R res → FR P (L ++ res.2.2.2) → IOK P L len a0 E M r M' res := by
  obtain ⟨E', M1, f1, f2, f3, hh⟩ := comer_loop (f := f) (b := b) (len := len) (R := R) 6 0 193 a E M (by omega) hT hN h24 h4 h5 (Or.inl ⟨rfl, h27, hx, hal⟩) (fun j hj => absurd hj (by omega))
  rcases hh with ⟨g1, g2, g3, g4⟩ | ⟨g1, g2, g3, g4, a', g5, g6, g7, g8⟩
  · exact ⟨0, M1, g2, g3, f3, f2.i, Or.inl rfl, fun res h fr => by
      have e := g1 res h
      subst e
      exact ⟨rfl, f1, Or.inl ⟨rfl, g4⟩⟩⟩
  · have hR1 := RR_mf f2 hR
    have e7 := hR1.2.1.1
    have h0 : M1.1 0 = M.1 0 := f2.1 0 (by decide) (by decide) (by decide)
    have hlt : (M1.1 0).toInt < 7 := by
      have : ¬ (M1.1 0).toInt = 7 := fun e => hfull (by rw [← h0, n_eq, n_7]; exact e)
      omega
    have b0 := wneg (g4 0 (by omega))
    have b1 := wneg (g4 1 (by omega))
    have b2 := wneg (g4 2 (by omega))
    have b3 := wneg (g4 3 (by omega))
    have b4 := wneg (g4 4 (by omega))
    have b5 := wneg (g4 5 (by omega))
    have c0 : 0 ≤ (E'.2 0).toInt ∧ (E'.2 0).toInt ≤ 6 := b0
    have c1 : 0 ≤ (E'.2 1).toInt ∧ (E'.2 1).toInt ≤ 9 := b1
    have c2 : 0 ≤ (E'.2 2).toInt ∧ (E'.2 2).toInt ≤ 30 := b2
    have c3 : 1 ≤ (E'.2 3).toInt ∧ (E'.2 3).toInt ≤ 9 := b3
    have c4 : 0 ≤ (E'.2 4).toInt ∧ (E'.2 4).toInt ≤ 9 := b4
    have c5 : 0 ≤ (E'.2 5).toInt ∧ (E'.2 5).toInt ≤ 99 := b5
    have v7 : vp_in (M1.1 0) 7 := by rw [vp_iff]; omega
    have z2 : R.1 4 < 7 := by rw [hR1.1.1, n_lt, n_7]; exact hlt
    have z3 : ¬ R.1 4 < 0 := by rw [hR1.1.1, n_lt, n_0]; omega
    obtain ⟨q1, q2, q3, q4, q5⟩ := adds_D (M := M1) (x1 := E'.2 0) (x2 := E'.2 1) (x3 := E'.2 2) (x4 := E'.2 3) (x5 := E'.2 4) (x6 := E'.2 5)
    refine ⟨1, _, g2, g3 ⟨v7, v7, v7, v7, v7, v7, v7⟩, f3, f2.i.tr ⟨fun i z _ _ _ => q5 i (by omega), fun j z1 z2 => q2 j z1, q3⟩, Or.inr ⟨rfl, a', by omega, g6, (q5 27 (by decide)).trans g8⟩, fun res h fr => ?_⟩
    obtain ⟨q15, k1, k2⟩ := g1 res h
    subst k2
    unfold g_X4_add at k1
    rw [if_neg z3, if_pos z2] at k1
    obtain ⟨qn, -, k3⟩ := k1
    subst k3
    dsimp only at fr
    rw [List.nil_append] at fr
    refine ⟨rfl, f1, Or.inr ⟨rfl, ?_, a', by omega, g6, g7, ?_⟩⟩
    · show RR (pAdd P (L ++ ([] ++ [(qn, v_X0_init (fun _ => 0) (R.1 4) (E'.2 0) (E'.2 1) (E'.2 3) (E'.2 4))]))) _ _
      rw [List.nil_append]
      have hq : qn ∈ (pAdd P (L ++ [(qn, v_X0_init (fun _ => 0) (R.1 4) (E'.2 0) (E'.2 1) (E'.2 3) (E'.2 4))])).1 := (pAdd_in _ _ _).mpr (Or.inl ⟨_, List.mem_append_right _ (List.mem_singleton.mpr rfl), rfl⟩)
      have hv := pAdd_new (P := P) fr.2 (List.mem_append_right L (List.mem_singleton.mpr rfl))
      exact (add_ok (PE_app fr) hR1 hlt hq hv c0 c1 c2 c3 c4 ⟨c5.1, by omega⟩).2
    · exact (q5 27 (by decide)).trans g8
/-- behind the letters: the blank and the numbers -/
theorem tail_ok (hT : RT f M b len) (hN : ∀ i, i < 6 → M.2.1 23 i = t_numbers i) (h24 : ∀ i, i < 6 → M.2.1 24 i = t_mosts i) (h4 : E.1 4 = Int32.ofNat len) (h5 : E.1 5 = Int32.ofNat a) (h27 : M.1 27 = Int32.ofNat (a + 1)) (hx : lt f len a = 32) (hal : a + 1 ≤ len) (hR : RR (pAdd P L) R M) {a0 : Nat} (ha0 : a0 < a) {w : Nat} (hw : 1 ≤ w ∧ w < 6) : ∃ (r : Int32) (E' : e2T) (R' : rT) (M' : mT), (if t_words (PW w) = 100 then v_X3_doubtItem E f R else v_X3_settingItem E f R (t_words (PW w))) = (r, E', R') ∧ (t_words (PW w) = 100 → p_X3_doubtItem E f R) ∧ v_X7_item_r 200 M (Int32.ofNat w) 0 = (r, M') ∧ p_X7_item_r 200 M (Int32.ofNat w) 0 ∧ EF E E' ∧ MI M M' ∧ IOK P L len a0 E M r M' (r, E', R', []) := by
  have fin : ∀ (r : Int32) (E' : e2T) (R' : rT) (M' : mT), EF E E' → ((r = 0 ∧ E'.1 1 = M'.1 30) ∨ (r = 1 ∧ RR (pAdd P L) R' M' ∧ ∃ a', a < a' ∧ a' ≤ len ∧ E'.1 5 = Int32.ofNat a' ∧ M'.1 27 = Int32.ofNat a')) → IOK P L len a0 E M r M' (r, E', R', []) := fun r E' R' M' fe h => by
    refine ⟨rfl, fe.g, ?_⟩
    rcases h with h | ⟨h1, h2, a', h3, h4⟩
    · exact Or.inl h
    · refine Or.inr ⟨h1, ?_, a', by omega, h4⟩
      show RR (pAdd P (L ++ [])) R' M'
      rw [List.append_nil]
      exact h2
  rcases (show w = 1 ∨ w = 2 ∨ w = 3 ∨ w = 4 ∨ w = 5 by omega) with e | e | e | e | e <;> subst e
  · rw [if_pos (show t_words (PW 1) = 100 by decide)]
    obtain ⟨r, E', R', M', g1, g2, g3, g4, g5, g6, g7⟩ := doubt_item (n := 197) hT hN h4 h5 h27 hx hal hR
    exact ⟨r, E', R', M', g1, fun _ => g2, g3, g4, g5, g6, fin r E' R' M' g5 g7⟩
  · rw [if_neg (show ¬ t_words (PW 2) = 100 by decide)]
    obtain ⟨r, E', R', M', g1, g3, g4, g5, g6, g7⟩ := set_item (n := 198) (w := 2) (k := 1) (lo := 1) (hi := 20) (d := t_words (PW 2)) (by omega) (by omega) hT hN h4 h5 h27 hx hal hR (by decide) (by decide) (fun M' => Iff.rfl) (fun E v => rfl) (fun M' v => rfl) (fun v hv => OKe_up hR.2.1 (Or.inl ⟨rfl, wneg hv⟩))
    exact ⟨r, E', R', M', g1, fun c => absurd c (by decide), g3, g4, g5, g6, fin r E' R' M' g5 g7⟩
  · rw [if_neg (show ¬ t_words (PW 3) = 100 by decide)]
    obtain ⟨r, E', R', M', g1, g3, g4, g5, g6, g7⟩ := set_item (n := 198) (w := 3) (k := 2) (lo := 0) (hi := 9) (d := t_words (PW 3)) (by omega) (by omega) hT hN h4 h5 h27 hx hal hR (by decide) (by decide) (fun M' => Iff.rfl) (fun E v => rfl) (fun M' v => rfl) (fun v hv => OKe_up hR.2.1 (Or.inr (Or.inl ⟨rfl, wneg hv⟩)))
    exact ⟨r, E', R', M', g1, fun c => absurd c (by decide), g3, g4, g5, g6, fin r E' R' M' g5 g7⟩
  · rw [if_neg (show ¬ t_words (PW 4) = 100 by decide)]
    obtain ⟨r, E', R', M', g1, g3, g4, g5, g6, g7⟩ := set_item (n := 198) (w := 4) (k := 3) (lo := 1) (hi := 99) (d := t_words (PW 4)) (by omega) (by omega) hT hN h4 h5 h27 hx hal hR (by decide) (by decide) (fun M' => Iff.rfl) (fun E v => rfl) (fun M' v => rfl) (fun v hv => OKe_up hR.2.1 (Or.inr (Or.inr (Or.inl ⟨rfl, wneg hv⟩))))
    exact ⟨r, E', R', M', g1, fun c => absurd c (by decide), g3, g4, g5, g6, fin r E' R' M' g5 g7⟩
  · rw [if_neg (show ¬ t_words (PW 5) = 100 by decide)]
    obtain ⟨r, E', R', M', g1, g3, g4, g5, g6, g7⟩ := set_item (n := 198) (w := 5) (k := 4) (lo := 1) (hi := 99) (d := t_words (PW 5)) (by omega) (by omega) hT hN h4 h5 h27 hx hal hR (by decide) (by decide) (fun M' => Iff.rfl) (fun E v => rfl) (fun M' v => rfl) (fun v hv => OKe_up hR.2.1 (Or.inr (Or.inr (Or.inr (Or.inl ⟨rfl, wneg hv⟩)))))
    exact ⟨r, E', R', M', g1, fun c => absurd c (by decide), g3, g4, g5, g6, fin r E' R' M' g5 g7⟩
end
