section
variable {P : pT} {L : LL} {f : Nat → Int64} {b len a : Nat} {R : rT} {E : e2T} {M : mT}
theorem stand0 (hT : RT f M b len) (hW : ∀ i, i < 36 → M.2.1 22 i = t_words i) (h27 : M.1 27 = Int32.ofNat a) (ha : a ≤ 160) : ∀ (m : Nat), m < 5 → (∀ j, j < m → a + j < len ∧ lt f len (a + j) = t_words j) → ¬ (a + m < len ∧ lt f len (a + m) = t_words m) → p_X7_stands M 0 ∧ v_X7_stands M 0 = 0 := by
  intro m hm5 hm hx
  obtain ⟨s1, s2⟩ := stands_0 (M := M)
  have h := stands_no hT hW ha hm5 hx m 0 (198 - m) (by omega) (fun j _ hj => hm j hj)
  rw [show 198 - m + m + 1 = 199 by omega, Nat.add_zero, ← h27] at h
  exact ⟨s2 h.1, s1.trans h.2⟩
theorem stand1 (hT : RT f M b len) (hW : ∀ i, i < 36 → M.2.1 22 i = t_words i) (h27 : M.1 27 = Int32.ofNat a) (ha : a ≤ 160) (hm : ∀ j, j < 5 → a + j < len ∧ lt f len (a + j) = t_words j) : p_X7_stands M 0 ∧ v_X7_stands M 0 = 1 := by
  obtain ⟨s1, s2⟩ := stands_0 (M := M)
  have h := stands_yes hT hW ha 5 0 193 (by omega) (fun j _ hj => hm j hj)
  rw [show 193 + 5 + 1 = 199 by omega, Nat.add_zero, ← h27] at h
  exact ⟨s2 h.1, s1.trans h.2⟩
theorem comer_no (h4 : E.1 4 = Int32.ofNat len) (h5 : E.1 5 = Int32.ofNat a) (hl : len ≤ 160) (ha : a ≤ 400) (hx : ¬ lt f len a = 32) : p_X3_comerItem E f R ∧ ∀ res, g_X3_comerItem E f R res → res = (0, e2f E 1 (Int32.ofNat a), R, []) := by
  have l6 : ¬ (6 : Int32) ≤ 0 := by decide
  unfold p_X3_comerItem g_X3_comerItem
  refine ⟨?_, fun res h => ?_⟩
  · rw [p_X3_comerItem_r, if_neg l6, numeral_no h4 h5 hl ha hx, kk_def, if_pos n00]
    exact ⟨vin rfl, vin rfl, p_numeral, trivial⟩
  · rw [g_X3_comerItem_r, if_neg l6, numeral_no h4 h5 hl ha hx, kk_def, if_pos n00] at h
    exact h
theorem set_no (h4 : E.1 4 = Int32.ofNat len) (h5 : E.1 5 = Int32.ofNat a) (hl : len ≤ 160) (ha : a ≤ 400) (hx : ¬ lt f len a = 32) (d : Int32) : v_X3_settingItem E f R d = (0, e2f E 1 (Int32.ofNat a), R) := by
  unfold v_X3_settingItem
  rw [numeral_no h4 h5 hl ha hx, kk_def, if_pos n00]
theorem doubt_no (h4 : E.1 4 = Int32.ofNat len) (h5 : E.1 5 = Int32.ofNat a) (hl : len ≤ 160) (ha : a ≤ 400) (hx : ¬ lt f len a = 32) : p_X3_doubtItem E f R ∧ v_X3_doubtItem E f R = (0, e2f E 1 (Int32.ofNat a), R) := by
  unfold p_X3_doubtItem v_X3_doubtItem
  refine ⟨?_, ?_⟩
  · rw [numeral_no h4 h5 hl ha hx, kk_def, if_pos n00]
    exact ⟨p_numeral, trivial⟩
  · rw [numeral_no h4 h5 hl ha hx, kk_def, if_pos n00]
theorem item_ok (hT : RT f M b len) (hW : ∀ i, i < 36 → M.2.1 22 i = t_words i) (hN : ∀ i, i < 6 → M.2.1 23 i = t_numbers i) (h24 : ∀ i, i < 6 → M.2.1 24 i = t_mosts i) (h4 : E.1 4 = Int32.ofNat len) (h5 : E.1 5 = Int32.ofNat a) (h27 : M.1 27 = Int32.ofNat a) (hal : a ≤ len) (hR : RR (pAdd P L) R M) : p_X3_item E f R ∧ p_X7_item M ∧ ∃ (r : Int32) (M' : mT), v_X7_item M = (r, M') ∧ MI M M' ∧ RK len a r M' ∧ ∀ res, g_X3_item E f R res → FR P (L ++ res.2.2.2) → IOK P L len a E M r M' res := by
  have hl := hT.2.2.2.1
  unfold p_X3_item g_X3_item
  rw [h5, letter_eq h4 hl (by omega)]
  -- a fault at place p, in both
  have bad : ∀ (p : Nat) (E' : e2T) (res : Int32 × e2T × rT × LL), EF E E' → res = (0, e2f E' 1 (Int32.ofNat p), R, []) → IOK P L len a E M 0 (msf M 30 (Int32.ofNat p)) res := fun p E' res fe e => by
    subst e
    exact ⟨rfl, (fe.tr (EF.e1 E' _)).g, Or.inl ⟨rfl, by rw [msf_at]; exact e2f_at⟩⟩
  have mi : ∀ p : Nat, MI M (msf M 30 (Int32.ofNat p)) := fun p => (MF.f _ (by omega)).i
  rcases Classical.em (∃ w, w < 6 ∧ lt f len a = t_words (PW w)) with hw | hw
  · obtain ⟨w, hw, hd⟩ := hw
    obtain ⟨p1, p2, p3, p4, p5, p5', p6⟩ := PW_ok w hw
    obtain ⟨q1, q2, q3, q4⟩ := wordFrom_ok w hw
    obtain ⟨s1, s2, s3, s4⟩ := str_ok w hw
    rw [hd, q1, kk_def, if_pos s3]
    simp only [kk_def, if_pos s3]
    have tl : ∀ j, j < LW w - 1 → ¬ t_words (PW w + j) = 0 := fun j hj => p6 j (by omega) (by omega)
    rcases longest (fun j => lt f len (a + j) = t_words (PW w + j)) (LW w - 1) with hall | ⟨m, m1, m2, m3⟩
    · have hin : ∀ j, j < LW w - 1 → a + j < len ∧ lt f len (a + j) = t_words (PW w + j) := fun j hj => ⟨lt_in (hall j hj) (tl j hj), hall j hj⟩
      obtain ⟨E', f1, f2, f3, f4⟩ := cletters (f := f) (len := len) (a := a) (R := R) (s := Int32.ofNat a) (d := t_words (PW w)) hw hl (by omega) (LW w - 1) 0 (199 - (LW w - 1) + 1) E (by omega) h4 (by rw [Nat.add_zero]; exact h5) (fun j _ hj => hall j (by omega))
      rw [show 199 - (LW w - 1) + 1 + (LW w - 1) = 200 by omega, Nat.zero_add] at f3 f4
      rw [Nat.add_zero] at f2
      obtain ⟨g1, g2⟩ := behind_c (f := f) (R := R) (n := 199 - (LW w - 1)) (E' := E') (s := Int32.ofNat a) hw
      have E4 : E'.1 4 = Int32.ofNat len := (f1.2 4 (by decide) (by decide) (by decide)).trans h4
      have blk : ∀ j, j < LW w → lt f len (a + (LW w - 1)) = 32 → a + j < len ∧ lt f len (a + j) = t_words (PW w + j) := fun j hj hb => by
        by_cases z : j = LW w - 1
        · subst z
          exact ⟨lt_in hb (by decide), by rw [hb, show PW w + (LW w - 1) = PW w + LW w - 1 by omega, p5']⟩
        · exact hin j (by omega)
      have nblk : ¬ lt f len (a + (LW w - 1)) = 32 → ¬ (a + (LW w - 1) < len ∧ lt f len (a + (LW w - 1)) = t_words (PW w + (LW w - 1))) := fun hb e => hb (by rw [e.2, show PW w + (LW w - 1) = PW w + LW w - 1 by omega, p5'])
      have iok : ∀ (r : Int32) (M1 M' : mT) (res : Int32 × e2T × rT × LL), IOK P L len a E' M1 r M' res → IOK P L len a E M r M' res := fun r M1 M' res h => ⟨h.1, f1.g.tr h.2.1, h.2.2⟩
      have rk : ∀ (r : Int32) (M1 M' : mT) (res : Int32 × e2T × rT × LL), IOK P L len a E' M1 r M' res → RK len a r M' := fun r M1 M' res h => by
        rcases h.2.2 with h | ⟨h1, -, a', h2, h3, -, h4⟩
        · exact Or.inl h.1
        · exact Or.inr ⟨h1, a', h2, h3, h4⟩
      have hT1 : ∀ v, RT f (msf M 27 v) b len := fun v => hT.mf (MF.f v (by omega))
      have hR1 : ∀ v, RR (pAdd P L) R (msf M 27 v) := fun v => RR_mf (MF.f v (by omega)) hR
      by_cases z : w = 0
      · subst z
        have L0 : LW 0 = 6 := rfl
        have P0 : PW 0 = 0 := rfl
        have t99 : t_words (PW 0) = 99 := rfl
        obtain ⟨st1, st2⟩ := stand1 hT hW h27 (by omega) (fun j hj => by
          have := hin j (by omega)
          rw [show PW 0 + j = j by omega] at this
          exact this)
        rw [if_pos t99] at g1
        have g2' := fun res => (g2 res).mp
        simp only [if_pos t99] at g2'
        have e4 := hR.1.1
        by_cases hfull : M.1 0 = 7
        · have nf : ¬ v_X4_isFull R = 0 := by
            unfold v_X4_isFull
            rw [e4, hfull]
            decide
          rw [if_neg nf] at g1
          simp only [if_neg nf] at g2'
          refine ⟨⟨p_letter, f3 (g1.mpr trivial)⟩, ?_, 0, msf M 30 (Int32.ofNat a), ?_, mi a, Or.inl rfl, fun res h _ => bad a E' res f1 (g2' res (f4 res h))⟩
          · unfold p_X7_item
            rw [st2, if_neg n10, if_pos hfull]
            exact ⟨st1, trivial⟩
          · unfold v_X7_item
            rw [st2, if_neg n10, if_pos hfull, kk_def, h27]
            rfl
        · have nf : v_X4_isFull R = 0 := by
            unfold v_X4_isFull
            have e7 := hR.2.1.1
            have h7 : ¬ (M.1 0).toInt = 7 := fun e => hfull (by rw [n_eq, n_7]; exact e)
            rw [e4, if_pos (by rw [n_lt, n_7]; omega)]
          rw [if_pos nf] at g1
          simp only [if_pos nf] at g2'
          by_cases hb : lt f len (a + (LW 0 - 1)) = 32
          · have hb' : a + (LW 0 - 1) < len := lt_in hb (by decide)
            obtain ⟨r, M', i1, i2, i3, i4, i4', i5⟩ := tail_comer (P := P) (L := L) (a := a + (LW 0 - 1)) (a0 := a) (hT1 (Int32.ofNat (a + LW 0))) hN h24 E4 f2 (by rw [msf_at]; rfl) hb (by omega) (hR1 _) (by rw [msf_ne (by decide)]; exact hfull) (by omega)
            obtain ⟨k1, k2⟩ := ref_hit hT hW h27 (by omega) hw (fun j hj => blk j hj hb) (Or.inr hfull) st1 i1 i2
            refine ⟨⟨p_letter, f3 (g1.mpr i3)⟩, k1, r, M', k2, (MF.f _ (by omega)).i.tr i4, i4', fun res h fr => ?_⟩
            obtain ⟨q9, y1, y2⟩ := g2' res (f4 res h)
            rw [List.nil_append] at y2
            have y3 : res = q9 := y2
            subst y3
            exact iok r _ M' _ (i5 _ y1 fr)
          · obtain ⟨k1, k2⟩ := ref_miss hT hW h27 (by omega) hw (m := LW 0 - 1) (by omega) (by omega) (fun j hj => hin j hj) (nblk hb) (Or.inr hfull) st1
            obtain ⟨c1, c2⟩ := comer_no (R := R) E4 f2 hl (by omega) hb
            refine ⟨⟨p_letter, f3 (g1.mpr c1)⟩, k1, 0, _, k2, mi _, Or.inl rfl, fun res h _ => ?_⟩
            obtain ⟨q9, y1, y2⟩ := g2' res (f4 res h)
            rw [List.nil_append] at y2
            have y3 : res = q9 := y2
            subst y3
            exact bad _ E' _ f1 (c2 _ y1)
      · have n99 : ¬ t_words (PW w) = 99 := fun e => z (q3.mp e)
        obtain ⟨st1, st2⟩ := stand0 hT hW h27 (by omega) 0 (by omega) (fun j hj => absurd hj (by omega)) (fun e => PW_ne w hw 0 (by omega) (fun c => z c.symm) (by
          have e2 := e.2
          rw [Nat.add_zero] at e2
          exact e2.symm.trans hd))
        rw [if_neg n99] at g1
        have g2' := fun res => (g2 res).mp
        simp only [if_neg n99] at g2'
        by_cases hb : lt f len (a + (LW w - 1)) = 32
        · have hb' : a + (LW w - 1) < len := lt_in hb (by decide)
          obtain ⟨r, E2, R2, M', i1, i1', i2, i3, i4, i5, i6⟩ := tail_ok (P := P) (L := L) (a := a + (LW w - 1)) (a0 := a) (w := w) (hT1 (Int32.ofNat (a + LW w))) hN h24 E4 f2 (by rw [msf_at, show a + (LW w - 1) + 1 = a + LW w by omega]) hb (by omega) (hR1 _) (by omega) (by omega)
          obtain ⟨k1, k2⟩ := ref_hit hT hW h27 (by omega) hw (fun j hj => blk j hj hb) (Or.inl st2) st1 i2 i3
          by_cases c100 : t_words (PW w) = 100
          · rw [if_pos c100] at i1 g1
            simp only [if_pos c100, i1] at g2'
            refine ⟨⟨p_letter, f3 (g1.mpr (i1' c100))⟩, k1, r, M', k2, (MF.f _ (by omega)).i.tr i5, rk _ _ _ _ i6, fun res h fr => ?_⟩
            have y := g2' res (f4 res h)
            subst y
            exact iok r _ M' _ i6
          · rw [if_neg c100] at i1 g1
            simp only [if_neg c100, i1] at g2'
            refine ⟨⟨p_letter, f3 (g1.mpr p_numeral)⟩, k1, r, M', k2, (MF.f _ (by omega)).i.tr i5, rk _ _ _ _ i6, fun res h fr => ?_⟩
            have y := g2' res (f4 res h)
            subst y
            exact iok r _ M' _ i6
        · obtain ⟨k1, k2⟩ := ref_miss hT hW h27 (by omega) hw (m := LW w - 1) (by omega) (by omega) (fun j hj => hin j hj) (nblk hb) (Or.inl st2) st1
          by_cases c100 : t_words (PW w) = 100
          · obtain ⟨c1, c2⟩ := doubt_no (R := R) E4 f2 hl (by omega) hb
            rw [if_pos c100] at g1
            simp only [if_pos c100, c2] at g2'
            exact ⟨⟨p_letter, f3 (g1.mpr c1)⟩, k1, 0, _, k2, mi _, Or.inl rfl, fun res h _ => bad _ E' res f1 (g2' res (f4 res h))⟩
          · have c2 := set_no (R := R) E4 f2 hl (by omega) hb (t_words (PW w))
            rw [if_neg c100] at g1
            simp only [if_neg c100, c2] at g2'
            exact ⟨⟨p_letter, f3 (g1.mpr p_numeral)⟩, k1, 0, _, k2, mi _, Or.inl rfl, fun res h _ => bad _ E' res f1 (g2' res (f4 res h))⟩
    · have m0 : 1 ≤ m := by
        by_cases z : m = 0
        · subst z
          exact absurd (by rw [Nat.add_zero, Nat.add_zero]; exact hd) m3
        · omega
      have hin : ∀ j, j < m → a + j < len ∧ lt f len (a + j) = t_words (PW w + j) := fun j hj => ⟨lt_in (m2 j hj) (tl j (by omega)), m2 j hj⟩
      obtain ⟨E', f1, f2, f3, f4⟩ := cletters (f := f) (len := len) (a := a) (R := R) (s := Int32.ofNat a) (d := t_words (PW w)) hw hl (by omega) m 0 (199 - m + 1) E (by omega) h4 (by rw [Nat.add_zero]; exact h5) (fun j _ hj => m2 j (by omega))
      rw [show 199 - m + 1 + m = 200 by omega, Nat.zero_add] at f3 f4
      rw [Nat.add_zero] at f2
      have E4 : E'.1 4 = Int32.ofNat len := (f1.2 4 (by decide) (by decide) (by decide)).trans h4
      obtain ⟨c1, c2⟩ := cmiss (f := f) (len := len) (a := a) (R := R) (s := Int32.ofNat a) (d := t_words (PW w)) (n := 199 - m) hw hl (by omega) m1 E4 f2 m3
      have hst : p_X7_stands M 0 ∧ v_X7_stands M 0 = 0 := by
        by_cases z : w = 0
        · subst z
          exact stand0 hT hW h27 (by omega) m (by have : LW 0 = 6 := rfl; omega) (fun j hj => by
            have := hin j hj
            rw [show PW 0 + j = j by have : PW 0 = 0 := rfl; omega] at this
            exact this) (fun e => m3 (by rw [show PW 0 + m = m by have : PW 0 = 0 := rfl; omega]; exact e.2))
        · exact stand0 hT hW h27 (by omega) 0 (by omega) (fun j hj => absurd hj (by omega)) (fun e => PW_ne w hw 0 (by omega) (fun c => z c.symm) (by
            have e2 := e.2
            rw [Nat.add_zero] at e2
            exact e2.symm.trans hd))
      obtain ⟨k1, k2⟩ := ref_miss hT hW h27 (by omega) hw m0 (by omega) hin (fun e => m3 e.2) (Or.inl hst.2) hst.1
      exact ⟨⟨p_letter, f3 c1⟩, k1, 0, _, k2, mi _, Or.inl rfl, fun res h _ => bad (a + m) E' res f1 (c2 res (f4 res h))⟩
  · have hn : ∀ w, w < 6 → ¬ lt f len a = t_words (PW w) := fun w h1 h2 => hw ⟨w, h1, h2⟩
    rw [wordFrom_none hn, kk_def, if_neg empty6]
    simp only [kk_def, if_neg empty6]
    obtain ⟨t1, t2⟩ := stand0 hT hW h27 (by omega) 0 (by omega) (fun j hj => absurd hj (by omega)) (fun e => hn 0 (by omega) (by
      have e2 := e.2
      rw [Nat.add_zero] at e2
      exact e2))
    obtain ⟨w1, w2⟩ := word_none hT hW h27 (by omega) (fun j hj e => hn j hj e.2)
    refine ⟨⟨p_letter, trivial⟩, ?_, 0, msf M 30 (Int32.ofNat a), ?_, mi a, Or.inl rfl, fun res h _ => bad a E res (EF.rf E) h⟩
    · unfold p_X7_item
      rw [if_pos t2, w2, kk_def, if_pos rfl]
      exact ⟨t1, w1, trivial⟩
    · unfold v_X7_item
      rw [if_pos t2, w2, kk_def, if_pos rfl]
end
