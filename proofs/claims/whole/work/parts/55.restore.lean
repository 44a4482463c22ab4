theorem pair4 {α β γ δ : Type} {a : α × β × γ × δ} {x : α} {n : β} {r : γ} (h1 : a.1 = x) (h2 : a.2.1 = n) (h3 : a.2.2.1 = r) : a = (x, n, r, a.2.2.2) := by subst h1; subst h2; subst h3; rfl
theorem pair2 {α β : Type} {a : α × β} {x : α} (h1 : a.1 = x) : a = (x, a.2) := by subst h1; rfl
theorem pair3 {α β γ : Type} {a : α × β × γ} {x : α} {n : β} (h1 : a.1 = x) (h2 : a.2.1 = n) : a = (x, n, a.2.2) := by subst h1; subst h2; rfl
theorem pairE {α β : Type} (a : α × β) : a = (a.1, a.2) := rfl
theorem of0 : Int32.ofNat 0 = 0 := rfl
section
variable {P : pT} {N : nT} {R Q : rT} {V : vT} {F : fT} {M : mT}
theorem op_restore (h : RA P N R Q V F M) : p_X6_restore P N R Q F ∧ p_X7_restore M ∧ (v_X6_restore P N R Q F).1 = (v_X7_restore M).1 ∧ RA P (v_X6_restore P N R Q F).2.1 (v_X6_restore P N R Q F).2.2.1 Q V (v_X6_restore P N R Q F).2.2.2 (v_X7_restore M).2 := by
  have n6 : p_X7_no M (-6) := p_no (b := 6) (by decide) (by decide)
  have r6 := RA_refuse h (b := 6) (by decide) (by decide)
  unfold p_X6_restore p_X7_restore v_X6_restore v_X7_restore
  simp only [kk_def]
  by_cases z : N.1 11 = 0
  · have z2 : M.1 44 = 0 := h.1.2.2.1.symm.trans z
    simp only [z, z2, if_true, if_false]
    exact ⟨p_refuse N 6, n6, r6⟩
  · have z2 : ¬ M.1 44 = 0 := fun e => z (h.1.2.2.1.trans e)
    simp only [z, z2, if_true, if_false]
    have hk : N.1 11 = 1 := by rcases h.1.2.2.2 with e | e; exact absurd e z; exact e
    have hQ := h.2.2.2.1 hk
    obtain ⟨b1, b2⟩ := become_ok (R := R) hQ.2.2.2
    obtain ⟨p, a1, a2, a3, a4, a5⟩ := all1 (j2 := 32) (Or.inr rfl) M
    generalize hX : v_X7_all M 32 1 = X at *
    generalize hB : v_X4_become P R Q = B at *
    have hB1 : RR P B X := RD_bc b2 (RD_congr (fun j hj c hc => by
      show X.2.1 (9 + j) c = M.2.1 32 (7 * j + c)
      exact a4 j c hj hc) (fun i hi => a5 i hi) hQ)
    have hW : ∀ s, 0 ≤ s → s < 8 → WS (F s) X s := fun s _ hs => by
      rcases h.2.1 s hs with ⟨k0, k1, k2⟩ | ⟨k0, k1, k2, k3, k4, k5⟩ | ⟨k0, k1, k2, k3⟩
      · exact Or.inl ⟨by rw [a3 16 (by decide)]; exact k0, k1, k2⟩
      · exact Or.inr (Or.inl ⟨by rw [a3 16 (by decide)]; exact k0, by rw [a3 17 (by decide)]; exact k1, by rw [a3 17 (by decide)]; exact k2, by rw [a3 18 (by decide)]; exact k3, by rw [a3 18 (by decide)]; exact k4, fun i hi => by rw [a3 18 (by decide)] at hi; rw [a2]; exact k5 i hi⟩)
      · have h7 := h.2.2.1.2.1.1
        have k2a := k2.1
        have k2b := k2.2
        exact Or.inr (Or.inr ⟨by rw [a3 16 (by decide)]; exact k0, by rw [a3 19 (by decide)]; exact k1, by rw [a3 19 (by decide)]; exact ⟨k2a, by omega⟩, k3⟩)
    obtain ⟨r, F2, Y, i1, i2, i3, i4, i6', i7', i8', i9'⟩ := restore_loop (N := N) (Q := Q) hB1 200 0 X F (by omega) (by omega) rfl (fun s hs => absurd hs (by omega)) hW
    refine ⟨⟨b1, i1⟩, ⟨p, i2⟩, ?_⟩
    rw [show v_X6_restore_r P Q 200 N B F 0 = (r, N, B, F2) from i3, show v_X7_restore_r 200 X 0 = (r, Y) from i4]
    refine ⟨rfl, ?_⟩
    obtain ⟨⟨n1, n2, n3, n4⟩, -, -, -, ⟨v1, v2, v3⟩, ⟨c1, c2, c3, c4⟩⟩ := h
    have m1 : ∀ i, 7 ≤ i → Y.1 i = M.1 i := fun i hi => by rw [i7']; exact a1 i hi
    have m2 : ∀ j, j ≠ 16 → ¬ (9 ≤ j ∧ j ≤ 15) → Y.2.1 j = M.2.1 j := fun j h1 h2 => (i9' j h1).trans (a3 j h2)
    refine ⟨⟨fun j hj => by rw [m2 8 (by decide) (by decide)]; exact n1 j hj, n2.trans (m1 7 (by decide)).symm, n3.trans (m1 44 (by decide)).symm, n4⟩, i6', RD_congr (fun j hj c _ => by show Y.2.1 (9 + j) c = _; rw [i9' (9 + j) (by omega)]) (fun i hi => by rw [i7']) hB1, fun _ => RD_congr (fun j _ c _ => by show Y.2.1 32 _ = _; rw [m2 32 (by decide) (by decide)]) (fun i _ => by show Y.2.1 32 _ = _; rw [m2 32 (by decide) (by decide)]) hQ, ⟨v1.trans (m1 43 (by decide)).symm, by rw [m1 43 (by decide)]; exact v2, fun i hi hl => by rw [m1 43 (by decide)] at hl; rw [m2 42 (by decide) (by decide)]; exact v3 i hi hl⟩, ⟨(m1 36 (by decide)).trans c1, fun i hi => by rw [m2 22 (by decide) (by decide)]; exact c2 i hi, fun i hi => by rw [m2 23 (by decide) (by decide)]; exact c3 i hi, fun i hi => by rw [m2 24 (by decide) (by decide)]; exact c4 i hi⟩⟩
end
