/-! the whole text, to both -/
/-- what the reference does at a fault -/
def RFAIL (M : mT) : Int32 × mT := kk (v_X7_all M 31 1) (fun q22 : mT => kk (v_X7_no (msf q22 7 (q22.1 30)) (-6)) (fun q24 : Int32 × mT => (q24.1, q24.2)))
theorem p_rfail (M : mT) : p_X7_all M 31 1 ∧ (kk (v_X7_all M 31 1) (fun q22 : mT => p_X7_no (msf q22 7 (q22.1 30)) (-6))) := by
  refine ⟨(all1 (j2 := 31) (Or.inl rfl) M).1, ?_⟩
  rw [kk_def]
  exact p_no (b := 6) (by decide) (by decide)
theorem road_0 {n : Nat} {M : mT} {v : Int32} : p_X7_road_r (n + 1) M v 0 ∧ v_X7_road_r (n + 1) M v 0 = RFAIL M := by
  rw [p_X7_road_r, v_X7_road_r, if_pos n00, if_pos n00, if_pos n00, if_pos n00]
  exact ⟨p_rfail M, rfl⟩
section
variable {P : pT} {b len : Nat} {S : sT}
theorem read_loop : ∀ (n k a nr : Nat) (E : e2T) (R : rT) (L : LL) (M : mT), k + n = 162 → len + 1 - a < n → len + 1 - a < nr → k ≤ a → a ≤ len → RT S.2 M b len → (∀ i, i < 36 → M.2.1 22 i = t_words i) → (∀ i, i < 6 → M.2.1 23 i = t_numbers i) → (∀ i, i < 6 → M.2.1 24 i = t_mosts i) → E.1 4 = Int32.ofNat len → E.1 5 = Int32.ofNat a → E.1 2 = Int32.ofNat k → M.1 27 = Int32.ofNat a → RR (pAdd P L) R M → ∀ res, g_X3_readAll_r S n E R L (Int32.ofNat k) res → FR P res.2.2.2 → p_X7_item M ∧ ∃ (r : Int32) (M1 : mT), v_X7_item M = (r, M1) ∧ p_X7_road_r nr M1 (Int32.ofNat (k + 1)) r ∧ ∃ M' : mT, MI M M' ∧ ((res.1 = 0 ∧ res.2.1.1 1 = M'.1 30 ∧ v_X7_road_r nr M1 (Int32.ofNat (k + 1)) r = RFAIL M') ∨ (res.1 = 1 ∧ ∃ cnt : Nat, v_X7_road_r nr M1 (Int32.ofNat (k + 1)) r = (Int32.ofNat cnt, M') ∧ res.2.1.1 2 = Int32.ofNat cnt ∧ RR (pAdd P res.2.2.2) res.2.2.1 M')) := by
  intro n
  induction n with
  | zero => intro k a nr E R L M _ h; omega
  | succ n ih =>
    intro k a nr E R L M hk hn hnr hka hal hT hW hN h24 h4 h5 h2 h27 hR res hg fr
    have hl := hT.2.2.2.1
    obtain ⟨-, pm, r, M1, e1, mi, rk, hres⟩ := item_ok (P := P) (L := L) hT hW hN h24 h4 h5 h27 hal hR
    refine ⟨pm, r, M1, e1, ?_⟩
    have c160 : ¬ (160 : Int32) < Int32.ofNat k := by rw [n_lt, n_of (by omega), n_160]; omega
    obtain ⟨nr', rfl⟩ : ∃ m, nr = m + 1 := ⟨nr - 1, by omega⟩
    -- the class: an item first
    have step : ∃ q4, IOK P L len a E M r M1 q4 ∧ (if q4.1 = 0 then res = (0, q4.2.1, q4.2.2.1, L ++ q4.2.2.2) else if (q4.2.1.1 5) < (q4.2.1.1 4) then (if (v_X3_sign (e2f q4.2.1 2 ((q4.2.1.1 2) + 1)) S.2 59).1 = 0 then res = (0, (v_X3_sign (e2f q4.2.1 2 ((q4.2.1.1 2) + 1)) S.2 59).2, q4.2.2.1, L ++ q4.2.2.2) else g_X3_readAll_r S n (v_X3_sign (e2f q4.2.1 2 ((q4.2.1.1 2) + 1)) S.2 59).2 q4.2.2.1 (L ++ q4.2.2.2) (Int32.ofNat (k + 1)) res) else res = (1, e2f q4.2.1 2 ((q4.2.1.1 2) + 1), q4.2.2.1, L ++ q4.2.2.2)) := by
      rw [g_X3_readAll_r, if_neg c160] at hg
      obtain ⟨q4, g1, g2⟩ := hg
      rw [kk_def, nat1 (by omega)] at g2
      refine ⟨q4, hres q4 g1 ?_, g2⟩
      by_cases c4 : q4.1 = 0
      · rw [if_pos c4] at g2
        rw [g2] at fr
        exact fr
      · rw [if_neg c4] at g2
        by_cases c5 : q4.2.1.1 5 < q4.2.1.1 4
        · rw [if_pos c5] at g2
          generalize v_X3_sign (e2f q4.2.1 2 ((q4.2.1.1 2) + 1)) S.2 59 = q8 at g2
          by_cases c8 : q8.1 = 0
          · rw [if_pos c8] at g2
            rw [g2] at fr
            exact fr
          · rw [if_neg c8] at g2
            obtain ⟨L', e⟩ := read_prefix _ _ _ _ _ _ g2
            rw [e] at fr
            exact fr.left
        · rw [if_neg c5] at g2
          rw [g2] at fr
          exact fr
    obtain ⟨q4, ⟨i1, i2, i3⟩, g⟩ := step
    rcases rk with r0 | ⟨r1, a', a1, a2, a3⟩
    · subst r0
      obtain ⟨f1, f2⟩ := road_0 (n := nr') (M := M1) (v := Int32.ofNat (k + 1))
      rw [if_pos i1] at g
      subst g
      rcases i3 with ⟨-, h⟩ | ⟨h, -⟩
      · exact ⟨f1, M1, mi, Or.inl ⟨rfl, h, f2⟩⟩
      · exact absurd h (by decide)
    · subst r1
      rcases i3 with ⟨h, -⟩ | ⟨-, hR1, a'', b1, b2, b3, b4⟩
      · exact absurd h (by decide)
      have ea : a' = a'' := by
        have e := a3.symm.trans b4
        rw [n_eq, n_of (by omega), n_of (by omega)] at e
        omega
      subst ea
      have c4 : ¬ q4.1 = 0 := by rw [i1]; exact n10
      rw [if_neg c4] at g
      have q44 : q4.2.1.1 4 = Int32.ofNat len := (i2 4 (by decide) (by decide) (by decide)).trans h4
      have q42 : q4.2.1.1 2 = Int32.ofNat k := (i2 2 (by decide) (by decide) (by decide)).trans h2
      rw [b3, q44, q42, nat1 (by omega)] at g
      have hT1 : RT S.2 M1 b len := hT.same (mi.1 26 (by decide) (by decide) (by decide) (by decide)) (mi.1 28 (by decide) (by decide) (by decide) (by decide)) (by rw [mi.2.2])
      rw [p_X7_road_r, v_X7_road_r, if_neg n10, if_neg n10, hT1.2.1, a3]
      by_cases ce : a' = len
      · have wl : Int32.ofNat len ≤ Int32.ofNat a' := by rw [nat_le (by omega) (by omega)]; omega
        have wl2 : ¬ Int32.ofNat a' < Int32.ofNat len := by rw [n_lt, n_of (by omega), n_of (by omega)]; omega
        rw [if_neg wl2] at g
        rw [if_pos wl, if_pos wl, if_neg n10, if_neg n10]
        subst g
        exact ⟨trivial, M1, mi, Or.inr ⟨rfl, k + 1, rfl, e2f_at, hR1⟩⟩
      · have wl : ¬ Int32.ofNat len ≤ Int32.ofNat a' := by rw [nat_le (by omega) (by omega)]; omega
        have wl2 : Int32.ofNat a' < Int32.ofNat len := by rw [n_lt, n_of (by omega), n_of (by omega)]; omega
        rw [if_pos wl2] at g
        rw [if_neg wl, if_neg wl]
        obtain ⟨c1, c2⟩ := cell_at hT1 (i := a') (by omega)
        have z4 : (e2f q4.2.1 2 (Int32.ofNat (k + 1))).1 4 = Int32.ofNat len := (e2f_ne (by decide)).trans q44
        have z5 : (e2f q4.2.1 2 (Int32.ofNat (k + 1))).1 5 = Int32.ofNat a' := (e2f_ne (by decide)).trans b3
        simp only [c2, kk_def]
        by_cases c59 : lt S.2 len a' = 59
        · have sy := sign_yes z4 z5 hl (by omega) c59
          rw [sy, if_neg n10] at g
          simp only [c59, if_true]
          rw [nat1 (by omega), nat1 (by omega)]
          have mf := MF.f (M := M1) (k := 27) (Int32.ofNat (a' + 1)) (by omega)
          have m2 := mi.tr mf.i
          obtain ⟨j1, r2, M2, j2, j3, M3, j4, j5⟩ := ih (k + 1) (a' + 1) nr' _ _ _ (msf M1 27 (Int32.ofNat (a' + 1))) (by omega) (by omega) (by omega) (by omega) (by omega) (hT1.mf mf) (fun i hi => by rw [m2.2.1 22 (by decide) (by decide)]; exact hW i hi) (fun i hi => by rw [m2.2.1 23 (by decide) (by decide)]; exact hN i hi) (fun i hi => by rw [m2.2.1 24 (by decide) (by decide)]; exact h24 i hi) ((e2f_ne (by decide)).trans z4) e2f_at ((e2f_ne (by decide)).trans e2f_at) msf_at (RR_mf mf hR1) res g fr
          rw [j2]
          exact ⟨⟨c1, j1, j3⟩, M3, m2.tr j4, j5⟩
        · have sn := sign_no z4 z5 hl (by omega) c59
          rw [sn, if_pos n00] at g
          simp only [c59, if_false]
          have ew : v_X7_wrong M1 (Int32.ofNat a') = (0, msf M1 30 (Int32.ofNat a')) := rfl
          rw [ew]
          dsimp only
          obtain ⟨nr2, rfl⟩ : ∃ m, nr' = m + 1 := ⟨nr' - 1, by omega⟩
          obtain ⟨f1, f2⟩ := road_0 (n := nr2) (M := msf M1 30 (Int32.ofNat a')) (v := Int32.ofNat (k + 1))
          rw [f2]
          rw [g]
          refine ⟨⟨c1, trivial, f1⟩, msf M1 30 (Int32.ofNat a'), mi.tr (MF.f _ (by omega)).i, Or.inl ⟨rfl, ?_, rfl⟩⟩
          rw [msf_at]
          exact e2f_at
end
