/-! image, restore -/
theorem rsa_at {R : rT} {j : Nat} {f : Nat → Int32} : (rsa R j f).2.1 j = f := up_at
theorem rsa_ne {R : rT} {j k : Nat} {f : Nat → Int32} (h : k ≠ j) : (rsa R j f).2.1 k = R.2.1 k := up_ne h
/-- a road as another one is -/
def BC (R' R : rT) : Prop := (∀ i, 4 ≤ i → i ≤ 10 → R'.1 i = R.1 i) ∧ (∀ j c, 1 ≤ j → j ≤ 3 → c < 7 → R'.2.1 j c = R.2.1 j c) ∧ ∀ c, c < 7 → R'.2.2 c = R.2.2 c
theorem RD_bc {P : pT} {R R' : rT} {D : Nat → Nat → Int32} {E : Nat → Int32} (b : BC R' R) (h : RD P R D E) : RD P R' D E := by
  obtain ⟨b1, b2, b3⟩ := b
  obtain ⟨⟨a4, a5, a6, a7, a8, a9, a10⟩, hok, hc, hq⟩ := h
  refine ⟨⟨(b1 4 (by omega) (by omega)).trans a4, (b1 5 (by omega) (by omega)).trans a5, (b1 6 (by omega) (by omega)).trans a6, (b1 7 (by omega) (by omega)).trans a7, (b1 8 (by omega) (by omega)).trans a8, (b1 9 (by omega) (by omega)).trans a9, (b1 10 (by omega) (by omega)).trans a10⟩, hok, fun c hlt => ?_, fun c hc7 q e => hq c hc7 q ((b3 c hc7).symm.trans e)⟩
  have hc7 : c < 7 := by have := hok.1; omega
  obtain ⟨⟨q, q1, q2, q3⟩, ⟨r1, r2, r3⟩, r4⟩ := hc c hlt
  exact ⟨⟨q, q1, (b3 c hc7).trans q2, q3⟩, ⟨(b2 1 c (by omega) (by omega) hc7).trans r1, (b2 2 c (by omega) (by omega) hc7).trans r2, (b2 3 c (by omega) (by omega) hc7).trans r3⟩, r4⟩
theorem become_loop {P : pT} {Q : rT} (hq : ∀ c, c < 7 → ∀ q, Q.2.2 c = some q → q ∈ P.1) : ∀ (n v : Nat) (R : rT), v ≤ 7 → 7 - v < n → ((∀ j c, 1 ≤ j → j ≤ 3 → c < v → R.2.1 j c = Q.2.1 j c) ∧ ∀ c, c < v → R.2.2 c = Q.2.2 c) → p_X4_become_r P Q n R (Int32.ofNat v) ∧ BC (v_X4_become_r P Q n R (Int32.ofNat v)) Q := by
  intro n
  induction n with
  | zero => intro v R a b; omega
  | succ n ih =>
    intro v R a b hh
    rw [p_X4_become_r, v_X4_become_r]
    by_cases q : v = 7
    · have w : (7 : Int32) ≤ Int32.ofNat v := by rw [q]; decide
      rw [if_pos w, if_pos w]
      subst q
      refine ⟨trivial, fun i h1 h2 => ?_, fun j c h1 h2 h3 => hh.1 j c h1 h2 h3, fun c hc => hh.2 c hc⟩
      rcases (show i = 4 ∨ i = 5 ∨ i = 6 ∨ i = 7 ∨ i = 8 ∨ i = 9 ∨ i = 10 by omega) with e | e | e | e | e | e | e <;> subst e <;> rfl
    · have w : ¬ (7 : Int32) ≤ Int32.ofNat v := by rw [show (7 : Int32) = Int32.ofNat 7 from rfl, nat_le (by omega) (by omega)]; omega
      rw [if_neg w, if_neg w, tn_of (k := v) (by omega), nat1 (by omega)]
      have v7 : vp_in (Int32.ofNat v) 7 := nat_in (by omega) (by omega)
      have key : ∀ c, c < v + 1 → c ≠ v → c < v := fun c h1 h2 => by omega
      obtain ⟨i1, i2⟩ := ih (v + 1) (rsa (rsa (rsa (rsc R (va_up R.2.2 v (Q.2.2 v))) 1 (upd (R.2.1 1) v ((Q.2.1 1) v))) 2 (upd (R.2.1 2) v ((Q.2.1 2) v))) 3 (upd (R.2.1 3) v ((Q.2.1 3) v))) (by omega) (by omega) (by
        refine ⟨fun j c h1 h2 h3 => ?_, fun c h3 => ?_⟩
        · rcases (show j = 1 ∨ j = 2 ∨ j = 3 by omega) with e | e | e <;> subst e
          · show upd (R.2.1 1) v ((Q.2.1 1) v) c = _
            by_cases z : c = v
            · rw [z, upd_at]
            · rw [upd_ne z]; exact hh.1 1 c (by omega) (by omega) (key c h3 z)
          · show upd (R.2.1 2) v ((Q.2.1 2) v) c = _
            by_cases z : c = v
            · rw [z, upd_at]
            · rw [upd_ne z]; exact hh.1 2 c (by omega) (by omega) (key c h3 z)
          · show upd (R.2.1 3) v ((Q.2.1 3) v) c = _
            by_cases z : c = v
            · rw [z, upd_at]
            · rw [upd_ne z]; exact hh.1 3 c (by omega) (by omega) (key c h3 z)
        · show va_up R.2.2 v (Q.2.2 v) c = _
          by_cases z : c = v
          · rw [z, up_at]
          · rw [up_ne z]; exact hh.2 c (key c h3 z))
      exact ⟨⟨v7, hq v (by omega), v7, v7, v7, v7, v7, v7, v7, i1⟩, i2⟩
theorem become_ok {P : pT} {Q R : rT} (hq : ∀ c, c < 7 → ∀ q, Q.2.2 c = some q → q ∈ P.1) : p_X4_become P R Q ∧ BC (v_X4_become P R Q) Q := become_loop hq 200 0 R (by omega) (by omega) ⟨fun j c _ _ h => absurd h (by omega), fun c h => absurd h (by omega)⟩
section
variable {P : pT} {N : nT} {R Q : rT} {V : vT} {F : fT} {M : mT}
theorem op_image (h : RA P N R Q V F M) : p_X6_image P N R Q ∧ p_X7_image M ∧ (v_X6_image P N R Q).1 = (v_X7_image M).1 ∧ RA P (v_X6_image P N R Q).2.1 R (v_X6_image P N R Q).2.2 V F (v_X7_image M).2 := by
  obtain ⟨b1, b2⟩ := become_ok (R := Q) h.2.2.1.2.2.2
  obtain ⟨p, a1, a2, a3, a4, a5⟩ := all0 (j2 := 32) (Or.inr rfl) (msf M 44 1)
  obtain ⟨⟨n1, n2, n3, n4⟩, hF, hR, hQ, ⟨v1, v2, v3⟩, ⟨c1, c2, c3, c4⟩⟩ := h
  have m1 : ∀ i, i ≠ 44 → (v_X7_all (msf M 44 1) 32 0).1 i = M.1 i := fun i hi => by rw [a1]; exact up_ne hi
  have m2 : ∀ j, j ≠ 32 → (v_X7_all (msf M 44 1) 32 0).2.1 j = M.2.1 j := fun j hj => a3 j hj
  have m3 : (v_X7_all (msf M 44 1) 32 0).2.2 = M.2.2 := a2
  refine ⟨b1, p, ?_, ?_⟩
  · show (v_X4_become P Q R).1 4 = (v_X7_all (msf M 44 1) 32 0).1 0
    rw [m1 0 (by decide), b2.1 4 (by omega) (by omega)]
    exact hR.1.1
  · show RA P (nsf N 11 1) R (v_X4_become P Q R) V F (v_X7_all (msf M 44 1) 32 0)
    generalize hX : v_X7_all (msf M 44 1) 32 0 = X at *
    refine ⟨⟨fun j hj => by rw [m2 8 (by decide)]; exact n1 j hj, ?_, ?_, Or.inr rfl⟩, fun s hs => RS_congr (by rw [m2 16 (by decide)]) (by rw [m2 17 (by decide)]) (by rw [m2 18 (by decide)]) (by rw [m2 19 (by decide)]) (fun i _ => by rw [m3]) (m1 0 (by decide)) (hF s hs), RD_congr (fun j hj c _ => by show X.2.1 (9 + j) c = _; rw [m2 (9 + j) (by omega)]) (fun i hi => m1 i (by omega)) hR, fun _ => ?_, ⟨v1.trans (m1 43 (by decide)).symm, by rw [m1 43 (by decide)]; exact v2, fun i hi hl => by rw [m1 43 (by decide)] at hl; rw [m2 42 (by decide)]; exact v3 i hi hl⟩, ⟨(m1 36 (by decide)).trans c1, fun i hi => by rw [m2 22 (by decide)]; exact c2 i hi, fun i hi => by rw [m2 23 (by decide)]; exact c3 i hi, fun i hi => by rw [m2 24 (by decide)]; exact c4 i hi⟩⟩
    · show va_up N.1 11 1 10 = _
      rw [up_ne (by decide), m1 7 (by decide)]
      exact n2
    · rw [a1]; rfl
    · refine RD_bc b2 (RD_congr (fun j hj c hc => ?_) (fun i hi => ?_) hR)
      · show X.2.1 32 (7 * j + c) = _
        exact a4 j c hj hc
      · show X.2.1 32 (49 + i) = _
        rw [a5 i hi]
        exact up_ne (by omega)
/-- a shelf ahead of the look whether its comer is there yet -/
def WS (S : sT) (M : mT) (s : Nat) : Prop := RS0 S M s ∨ RS1 S M s ∨ (M.2.1 16 s = 2 ∧ S.1 1 = M.2.1 19 s ∧ (0 ≤ (M.2.1 19 s).toInt ∧ (M.2.1 19 s).toInt ≤ 6) ∧ S.1 2 = 0)
theorem hold_0 (S : sT) : (v_X5_hold S (-1)).1 1 = -1 ∧ (v_X5_hold S (-1)).1 2 = 0 := ⟨rfl, rfl⟩
theorem RS_ne {S : sT} {M : mT} {k s : Nat} {v : Int32} (h : s ≠ k) (hS : RS S M s) : RS S (msa M 16 (upd (M.2.1 16) k v)) s := RS_congr (upd_ne h) rfl rfl rfl (fun _ _ => rfl) rfl hS
theorem WS_ne {S : sT} {M : mT} {k s : Nat} {v : Int32} (h : s ≠ k) (hS : WS S M s) : WS S (msa M 16 (upd (M.2.1 16) k v)) s := by
  have e : (msa M 16 (upd (M.2.1 16) k v)).2.1 16 s = M.2.1 16 s := upd_ne h
  rcases hS with ⟨a, b, c⟩ | ⟨a, b⟩ | ⟨a, b⟩
  · exact Or.inl ⟨e.trans a, b, c⟩
  · exact Or.inr (Or.inl ⟨e.trans a, b⟩)
  · exact Or.inr (Or.inr ⟨e.trans a, b⟩)
theorem restore_loop (hR : RR P R M) : ∀ (n v : Nat) (M1 : mT) (F : fT), v ≤ 8 → 8 - v < n → M1.1 = M.1 → (∀ s, s < v → RS (F s) M1 s) → (∀ s, v ≤ s → s < 8 → WS (F s) M1 s) → ∃ (r : Int32) (F9 : fT) (Y : mT), p_X6_restore_r P Q n N R F (Int32.ofNat v) ∧ p_X7_restore_r n M1 (Int32.ofNat v) ∧ v_X6_restore_r P Q n N R F (Int32.ofNat v) = (r, N, R, F9) ∧ v_X7_restore_r n M1 (Int32.ofNat v) = (r, Y) ∧ RF F9 Y ∧ Y.1 = M.1 ∧ Y.2.2 = M1.2.2 ∧ ∀ j, j ≠ 16 → Y.2.1 j = M1.2.1 j := by
  intro n
  induction n with
  | zero => intro v M1 F a b; omega
  | succ n ih =>
    intro v M1 F a b hm hd hw
    rw [p_X6_restore_r, p_X7_restore_r, v_X6_restore_r, v_X7_restore_r]
    by_cases q : v = 8
    · have w : (8 : Int32) ≤ Int32.ofNat v := by rw [q]; decide
      simp only [w, if_true]
      subst q
      exact ⟨R.1 4, F, M1, trivial, trivial, rfl, by rw [hm, hR.1.1], fun s hs => hd s hs, hm, rfl, fun _ _ => rfl⟩
    · have w : ¬ (8 : Int32) ≤ Int32.ofNat v := by rw [show (8 : Int32) = Int32.ofNat 8 from rfl, nat_le (by omega) (by omega)]; omega
      have v8 : vp_in (Int32.ofNat v) 8 := nat_in (by omega) (by omega)
      simp only [w, if_false, kk]
      rw [tn_of (k := v) (by omega), nat1 (by omega)]
      have cont : ∀ (M2 : mT) (F2 : fT), M2.1 = M.1 → M2.2.2 = M1.2.2 → (∀ j, j ≠ 16 → M2.2.1 j = M1.2.1 j) → (∀ s, s < v + 1 → RS (F2 s) M2 s) → (∀ s, v + 1 ≤ s → s < 8 → WS (F2 s) M2 s) → ∃ (r : Int32) (F9 : fT) (Y : mT), p_X6_restore_r P Q n N R F2 (Int32.ofNat (v + 1)) ∧ p_X7_restore_r n M2 (Int32.ofNat (v + 1)) ∧ v_X6_restore_r P Q n N R F2 (Int32.ofNat (v + 1)) = (r, N, R, F9) ∧ v_X7_restore_r n M2 (Int32.ofNat (v + 1)) = (r, Y) ∧ RF F9 Y ∧ Y.1 = M.1 ∧ Y.2.2 = M1.2.2 ∧ ∀ j, j ≠ 16 → Y.2.1 j = M1.2.1 j := fun M2 F2 g1 g2 g3 g4 g5 => by
        obtain ⟨r, F9, Y, i1, i2, i3, i4, i6, i7, i8, i9⟩ := ih (v + 1) M2 F2 (by omega) (by omega) g1 g4 g5
        exact ⟨r, F9, Y, i1, i2, i3, i4, i6, i7, i8.trans g2, fun j hj => (i9 j hj).trans (g3 j hj)⟩
      rcases hw v (by omega) (by omega) with ⟨k0, k1, k2⟩ | k | ⟨k0, k1, k2, k3⟩
      · have e1 : v_X5_isComer (F v) = 0 := by unfold v_X5_isComer; rw [k1]; decide
        rw [k0, e1]
        simp +decide only [if_true, if_false]
        obtain ⟨r, F9, Y, i1, i2, i3⟩ := cont M1 F hm rfl (fun _ _ => rfl) (fun s hs => by
          by_cases z : s = v
          · rw [z]; exact Or.inl ⟨k0, k1, k2⟩
          · exact hd s (by omega)) (fun s h1 h2 => hw s (by omega) h2)
        exact ⟨r, F9, Y, ⟨v8, trivial, i1⟩, ⟨v8, trivial, i2⟩, i3⟩
      · have e1 : v_X5_isComer (F v) = 0 := by
          unfold v_X5_isComer
          have a1 : ((F v).1 1).toInt = 100 + (M1.2.1 17 v).toInt := by rw [k.2.1, n_add (by rw [n_100]; have := k.2.2.1; omega) (by rw [n_100]; have := k.2.2.1; omega), n_100]
          rw [if_neg (by rw [n_lt, a1, n_0]; have := k.2.2.1; omega), if_pos (by rw [n_le, a1, n_100]; have := k.2.2.1; omega)]
        rw [k.1, e1]
        simp +decide only [if_true, if_false]
        obtain ⟨r, F9, Y, i1, i2, i3⟩ := cont M1 F hm rfl (fun _ _ => rfl) (fun s hs => by
          by_cases z : s = v
          · rw [z]; exact Or.inr (Or.inl k)
          · exact hd s (by omega)) (fun s h1 h2 => hw s (by omega) h2)
        exact ⟨r, F9, Y, ⟨v8, trivial, i1⟩, ⟨v8, trivial, i2⟩, i3⟩
      · have e1 : v_X5_isComer (F v) = 1 := by
          unfold v_X5_isComer
          rw [k1, if_neg (by rw [n_lt, n_0]; omega), if_neg (by rw [n_le, n_100]; omega)]
        rw [k0, e1, k1, hm]
        simp +decide only [if_true, if_false]
        have ph := p_has hR (M1.2.1 19 v)
        by_cases c : M1.2.1 19 v < M.1 0
        · have hc : isC M.1 (M1.2.1 19 v) := ⟨k2.1, by rw [n_lt] at c; exact c⟩
          have w2 : ¬ v_X4_has R (M1.2.1 19 v) = 0 := by rw [has_iff hR]; exact fun q => q hc
          simp only [c, w2, if_true, if_false]
          obtain ⟨r, F9, Y, i1, i2, i3⟩ := cont M1 F hm rfl (fun _ _ => rfl) (fun s hs => by
            by_cases z : s = v
            · rw [z]; exact Or.inr (Or.inr ⟨k0, k1, by unfold isC at hc ⊢; rw [hm]; exact hc, k3⟩)
            · exact hd s (by omega)) (fun s h1 h2 => hw s (by omega) h2)
          exact ⟨r, F9, Y, ⟨v8, ph, i1⟩, ⟨v8, ⟨v8, trivial⟩, i2⟩, i3⟩
        · have hc : ¬ isC M.1 (M1.2.1 19 v) := fun q => by rw [n_lt] at c; exact c q.2
          have w2 : v_X4_has R (M1.2.1 19 v) = 0 := by rw [has_iff hR]; exact hc
          simp only [c, w2, if_true, if_false]
          obtain ⟨r, F9, Y, i1, i2, i3⟩ := cont (msa M1 16 (upd (M1.2.1 16) v 0)) (va_up F v (v_X5_hold (F v) (-1))) hm rfl (fun j hj => msa_ne hj) (fun s hs => by
            by_cases z : s = v
            · rw [z, up_at]; exact Or.inl ⟨upd_at, (hold_0 _).1, (hold_0 _).2⟩
            · rw [up_ne z]; exact RS_ne z (hd s (by omega))) (fun s h1 h2 => by
            rw [up_ne (by omega)]
            exact WS_ne (by omega) (hw s (by omega) h2))
          exact ⟨r, F9, Y, ⟨v8, ph, i1⟩, ⟨v8, ⟨v8, v8⟩, i2⟩, i3⟩
end
