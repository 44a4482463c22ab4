/-! one counted, to both -/
def mcount (M : mT) (i : Nat) (y : Int32) : mT := if ((upd (M.2.1 34) i y) i) = 0 then msf (msa M 34 (upd (M.2.1 34) i y)) 37 ((M.1 37) + 1) else (if ((upd (M.2.1 34) i y) i) = 1 then msf (msa M 34 (upd (M.2.1 34) i y)) 38 ((M.1 38) + 1) else msf (msa M 34 (upd (M.2.1 34) i y)) 39 ((M.1 39) + 1))
section
variable {P : pT} {R : rT} {f : Nat → Nat} {n k i : Nat} {O : oT} {M : mT} {y : Int32}
theorem mcount_c : CM M (mcount M i y) ∧ (mcount M i y).2.1 34 = upd (M.2.1 34) i y := by
  unfold mcount
  rw [upd_at]
  by_cases c : y = 0
  · rw [if_pos c]
    exact ⟨(CM.a _).tr (CM.f _ (by omega)), msa_at⟩
  · rw [if_neg c]
    by_cases d : y = 1
    · rw [if_pos d]
      exact ⟨(CM.a _).tr (CM.f _ (by omega)), msa_at⟩
    · rw [if_neg d]
      exact ⟨(CM.a _).tr (CM.f _ (by omega)), msa_at⟩
theorem count_c {x : Int32} : CO O (v_X2_count O x y) := by
  unfold v_X2_count
  rw [kk_def]
  by_cases c : y = 0
  · rw [if_pos c]; exact CO.f _ (by omega)
  · rw [if_neg c]
    by_cases d : y = 1
    · rw [if_pos d]; exact CO.f _ (by omega)
    · rw [if_neg d]; exact CO.f _ (by omega)
/-- the sets and the counts of either, one more -/
theorem count_sets (hi : i + 1 ≤ 7) (hd : DL f (i + 1)) (hy : y = 0 ∨ y = 1 ∨ y = 2) (a : O.1 4 = Int32.ofNat (ksum f (M.2.1 34) 0 i) ∧ O.1 5 = Int32.ofNat (ksum f (M.2.1 34) 1 i) ∧ O.1 6 = Int32.ofNat (ksum f (M.2.1 34) 2 i)) (b : M.1 37 = Int32.ofNat (kcnt (M.2.1 34) 0 i) ∧ M.1 38 = Int32.ofNat (kcnt (M.2.1 34) 1 i) ∧ M.1 39 = Int32.ofNat (kcnt (M.2.1 34) 2 i)) : ((v_X2_count O (Int32.ofNat (f i)) y).1 4 = Int32.ofNat (ksum f ((mcount M i y).2.1 34) 0 (i + 1)) ∧ (v_X2_count O (Int32.ofNat (f i)) y).1 5 = Int32.ofNat (ksum f ((mcount M i y).2.1 34) 1 (i + 1)) ∧ (v_X2_count O (Int32.ofNat (f i)) y).1 6 = Int32.ofNat (ksum f ((mcount M i y).2.1 34) 2 (i + 1))) ∧ ((mcount M i y).1 37 = Int32.ofNat (kcnt ((mcount M i y).2.1 34) 0 (i + 1)) ∧ (mcount M i y).1 38 = Int32.ofNat (kcnt ((mcount M i y).2.1 34) 1 (i + 1)) ∧ (mcount M i y).1 39 = Int32.ofNat (kcnt ((mcount M i y).2.1 34) 2 (i + 1))) := by
  have ew := (mcount_c (M := M) (i := i) (y := y)).2
  rw [ew]
  obtain ⟨a0, a1, a2⟩ := a
  obtain ⟨b0, b1, b2⟩ := b
  have hs : ∀ h, ksum f (upd (M.2.1 34) i y) h i = ksum f (M.2.1 34) h i := fun h => ksum_congr i (fun j hj => upd_ne (by omega))
  have hc : ∀ h, kcnt (upd (M.2.1 34) i y) h i = kcnt (M.2.1 34) h i := fun h => kcnt_congr i (fun j hj => upd_ne (by omega))
  have wi : upd (M.2.1 34) i y i = y := upd_at
  have kl : ∀ h, kcnt (M.2.1 34) h i < 1000 := fun h => by have := kcnt_le (w := M.2.1 34) (h := h) i; omega
  have yes : ∀ h, y = h → (Int32.ofNat (ksum f (M.2.1 34) h i) ||| ((1 : Int32) <<< (Int32.ofNat (f i) &&& 31))) = Int32.ofNat (ksum f (upd (M.2.1 34) i y) h (i + 1)) ∧ Int32.ofNat (kcnt (M.2.1 34) h i) + 1 = Int32.ofNat (kcnt (upd (M.2.1 34) i y) h (i + 1)) := fun h e => by
    rw [← hs h, ← hc h]
    refine ⟨(ksum_or hi hd (wi.trans e)).1, ?_⟩
    rw [nat1 (by rw [hc h]; exact kl h), kcnt, if_pos (wi.trans e)]
  have nos : ∀ h, ¬ y = h → ksum f (upd (M.2.1 34) i y) h (i + 1) = ksum f (M.2.1 34) h i ∧ kcnt (upd (M.2.1 34) i y) h (i + 1) = kcnt (M.2.1 34) h i := fun h e => by
    refine ⟨?_, ?_⟩
    · rw [ksum_no (by rw [wi]; exact e), hs h]
    · rw [kcnt, if_neg (by rw [wi]; exact e), hc h]; rfl
  unfold v_X2_count mcount
  rw [kk_def, upd_at]
  rcases hy with e | e | e
  · have n1 : ¬ y = 1 := by rw [e]; decide
    have n2 : ¬ y = 2 := by rw [e]; decide
    rw [if_pos e, if_pos e, (nos 1 n1).1, (nos 1 n1).2, (nos 2 n2).1, (nos 2 n2).2, ← (yes 0 e).1, ← (yes 0 e).2]
    exact ⟨⟨by rw [osf_at, a0], by rw [osf_ne (by decide)]; exact a1, by rw [osf_ne (by decide)]; exact a2⟩, by rw [msf_at, b0], by rw [msf_ne (by decide)]; exact b1, by rw [msf_ne (by decide)]; exact b2⟩
  · have n0 : ¬ y = 0 := by rw [e]; decide
    have n2 : ¬ y = 2 := by rw [e]; decide
    rw [if_neg n0, if_neg n0, if_pos e, if_pos e, (nos 0 n0).1, (nos 0 n0).2, (nos 2 n2).1, (nos 2 n2).2, ← (yes 1 e).1, ← (yes 1 e).2]
    exact ⟨⟨by rw [osf_ne (by decide)]; exact a0, by rw [osf_at, a1], by rw [osf_ne (by decide)]; exact a2⟩, by rw [msf_ne (by decide)]; exact b0, by rw [msf_at, b1], by rw [msf_ne (by decide)]; exact b2⟩
  · have n0 : ¬ y = 0 := by rw [e]; decide
    have n1 : ¬ y = 1 := by rw [e]; decide
    rw [if_neg n0, if_neg n0, if_neg n1, if_neg n1, (nos 0 n0).1, (nos 0 n0).2, (nos 1 n1).1, (nos 1 n1).2, ← (yes 2 e).1, ← (yes 2 e).2]
    exact ⟨⟨by rw [osf_ne (by decide)]; exact a0, by rw [osf_ne (by decide)]; exact a1, by rw [osf_at, a2]⟩, by rw [msf_ne (by decide)]; exact b0, by rw [msf_ne (by decide)]; exact b1, by rw [msf_at, b2]⟩
theorem WT_more (h : WT P R f n k (M.2.1 34) i) (hw : y = if k.testBit (f i) = true then 0 else v_X4_comesTo P R (Int32.ofNat (f i)) (na R f i) (nb R f n i) (Int32.ofNat (kcnt (M.2.1 34) 1 i - kcnt (M.2.1 34) 0 i))) : WT P R f n k (upd (M.2.1 34) i y) (i + 1) := fun j hj => by
  have hc : ∀ h, kcnt (upd (M.2.1 34) i y) h j = kcnt (M.2.1 34) h j := fun h => kcnt_congr j (fun a ha => upd_ne (by omega))
  rw [hc 1, hc 0]
  by_cases z : j = i
  · subst z
    rw [upd_at]
    exact hw
  · rw [upd_ne z]
    exact h j (by omega)
theorem bc_seen (hi : i ≤ 7) (hd : DL f i) (a : O.1 4 = Int32.ofNat (ksum f (M.2.1 34) 0 i) ∧ O.1 5 = Int32.ofNat (ksum f (M.2.1 34) 1 i) ∧ O.1 6 = Int32.ofNat (ksum f (M.2.1 34) 2 i)) (b : M.1 37 = Int32.ofNat (kcnt (M.2.1 34) 0 i) ∧ M.1 38 = Int32.ofNat (kcnt (M.2.1 34) 1 i) ∧ M.1 39 = Int32.ofNat (kcnt (M.2.1 34) 2 i)) : v_X2_seen O = Int32.ofNat (kcnt (M.2.1 34) 1 i - kcnt (M.2.1 34) 0 i) ∧ (if 0 ≤ ((M.1 38) - (M.1 37)) then (M.1 38) - (M.1 37) else 0) = Int32.ofNat (kcnt (M.2.1 34) 1 i - kcnt (M.2.1 34) 0 i) ∧ kcnt (M.2.1 34) 1 i - kcnt (M.2.1 34) 0 i ≤ 7 := by
  have k1 := kcnt_le (w := M.2.1 34) (h := 1) i
  have k0 := kcnt_le (w := M.2.1 34) (h := 0) i
  obtain ⟨s1, s2⟩ := seen_eq (a := kcnt (M.2.1 34) 1 i) (b := kcnt (M.2.1 34) 0 i) (by omega) (by omega)
  unfold v_X2_seen
  rw [a.1, a.2.1, b.1, b.2.1, (ksum_ok (f := f) (w := M.2.1 34) (h := 0) i hi hd).2.1, (ksum_ok (f := f) (w := M.2.1 34) (h := 1) i hi hd).2.1]
  exact ⟨s1, s2, by omega⟩
end
section
variable {P : pT} {R : rT} {f : Nat → Nat} {n k : Nat}
theorem play_loop (hk : k < 128) : ∀ (fu i : Nat) (O : oT) (M : mT), i ≤ n → n - i < fu → LN f n O M → RR P R M → M.1 36 = Int32.ofNat k → PS P R f n k O M i → p_X2_play_r P R fu O (Int32.ofNat k) (Int32.ofNat i) ∧ p_X7_comes_r fu M (Int32.ofNat n) (Int32.ofNat i) ∧ ∃ O' M', v_X2_play_r P R fu O (Int32.ofNat k) (Int32.ofNat i) = O' ∧ v_X7_comes_r fu M (Int32.ofNat n) (Int32.ofNat i) = M' ∧ CO O O' ∧ CM M M' ∧ PS P R f n k O' M' n := by
  intro fu
  induction fu with
  | zero => intro i O M _ h; omega
  | succ fu ih =>
    intro i O M hi hfu hL hR h36 hp
    have h7 := hL.1
    rw [p_X2_play_r, p_X7_comes_r, v_X2_play_r, v_X7_comes_r, hL.2.1]
    by_cases c : i = n
    · have w : Int32.ofNat n ≤ Int32.ofNat i := by rw [nat_le (by omega) (by omega)]; omega
      rw [if_pos w, if_pos w, if_pos w, if_pos w]
      subst c
      exact ⟨trivial, trivial, O, M, rfl, rfl, CO.rf O, CM.rf M, hp⟩
    · have w : ¬ Int32.ofNat n ≤ Int32.ofNat i := by rw [nat_le (by omega) (by omega)]; omega
      rw [if_neg w, if_neg w, if_neg w, if_neg w]
      have hin : i < n := by omega
      obtain ⟨s1, s2, s3, s4, s5, s6, s7, s8⟩ := sides hL hR hin
      obtain ⟨hp1, hp2, hp3⟩ := hp
      obtain ⟨t1, t2, t3⟩ := bc_seen (O := O) (M := M) (f := f) (by omega) (hL.2.2.2.2.1.le hi) hp1 hp2
      have hx := hL.2.2.2.2.2 i hin
      have ei : (Int32.ofNat i).toNatClampNeg = i := tn_of (by omega)
      have e33 : (M.2.1 33) i = Int32.ofNat (f i) := hL.2.2.2.1 i hin
      rw [memb_in hL hin, ei, e33, t2]
      have hm1 : ¬ Int32.ofNat (f i) = -1 := fun q => by
        have := hL.2.2.2.2.1.1 i hin
        rw [n_eq, n_of (by omega), n_m1] at q
        omega
      rw [if_neg hm1, if_neg hm1]
      have f7 := hL.2.2.2.2.1.1 i hin
      obtain ⟨g1, g2, g3⟩ := goes_eq (sn := Int32.ofNat (kcnt (M.2.1 34) 1 i - kcnt (M.2.1 34) 0 i)) hR hx s5 s6 (by rw [n_of (by omega)]; omega)
      rw [s3, s4, h36] at g1
      generalize hA : (if Int32.ofNat i = 0 then (-1) else (M.2.1 33) (Int32.ofNat i - 1).toNatClampNeg) = A at *
      generalize hB : (if Int32.ofNat i = (Int32.ofNat n - 1) then (-1) else (M.2.1 33) (Int32.ofNat i + 1).toNatClampNeg) = B at *
      rw [g1, s1, s2, t1]
      have bt := bits_all (f i) f7 k hk
      have c012 := comesTo_012 (P := P) (R := R) (x := Int32.ofNat (f i)) (y := na R f i) (z := nb R f n i) (sn := Int32.ofNat (kcnt (M.2.1 34) 1 i - kcnt (M.2.1 34) 0 i))
      have pc := g3 (na R f i) (nb R f n i) (Int32.ofNat (kcnt (M.2.1 34) 1 i - kcnt (M.2.1 34) 0 i))
      generalize hC : v_X4_comesTo P R (Int32.ofNat (f i)) (na R f i) (nb R f n i) (Int32.ofNat (kcnt (M.2.1 34) 1 i - kcnt (M.2.1 34) 0 i)) = C at *
      -- the outcome, the same to both
      have fin : ∀ y : Int32, (y = 0 ∨ y = 1 ∨ y = 2) → (y = if k.testBit (f i) = true then 0 else C) → p_X2_play_r P R fu (v_X2_count O (Int32.ofNat (f i)) y) (Int32.ofNat k) (Int32.ofNat i + 1) ∧ p_X7_comes_r fu (mcount M i y) (Int32.ofNat n) (Int32.ofNat i + 1) ∧ ∃ O' M', v_X2_play_r P R fu (v_X2_count O (Int32.ofNat (f i)) y) (Int32.ofNat k) (Int32.ofNat i + 1) = O' ∧ v_X7_comes_r fu (mcount M i y) (Int32.ofNat n) (Int32.ofNat i + 1) = M' ∧ CO O O' ∧ CM M M' ∧ PS P R f n k O' M' n := fun y hy hw => by
        rw [nat1 (by omega)]
        have cO := count_c (O := O) (y := y) (x := Int32.ofNat (f i))
        obtain ⟨cM, cW⟩ := mcount_c (M := M) (i := i) (y := y)
        obtain ⟨q1, q2⟩ := count_sets (O := O) (M := M) (f := f) (by omega) (hL.2.2.2.2.1.le (by omega)) hy hp1 hp2
        obtain ⟨j1, j2, O', M', j3, j4, j5, j6, j7⟩ := ih (i + 1) _ _ (by omega) (by omega) (hL.c cO cM) (RR_cm cM hR) ((cM.1 36 (by decide) (by decide) (by decide)).trans h36) ⟨q1, q2, by rw [cW]; exact WT_more hp3 (by rw [hC]; exact hw)⟩
        exact ⟨j1, j2, O', M', j3, j4, cO.tr j5, cM.tr j6, j7⟩
      have v7 : vp_in (Int32.ofNat i) 7 := nat_in (by omega) (by omega)
      have pa : (if Int32.ofNat i = 0 then True else vp_in (Int32.ofNat i - 1) 7) := by
        by_cases z : Int32.ofNat i = 0
        · rw [if_pos z]; trivial
        · rw [if_neg z]; exact s7 z
      have pb : (if Int32.ofNat i = Int32.ofNat n - 1 then True else vp_in (Int32.ofNat i + 1) 7) := by
        by_cases z : Int32.ofNat i = Int32.ofNat n - 1
        · rw [if_pos z]; trivial
        · rw [if_neg z]; exact s8 z
      have pn : ∀ x, p_X2_nerveAt O R x := fun x => ⟨p_memb, p_nerve hR _⟩
      have pv : ∀ y : Int32, (if (upd (M.2.1 34) i y) i = 0 then True else vp_in (Int32.ofNat i) 7) := fun y => by
        split
        · trivial
        · exact v7
      by_cases b : k.testBit (f i) = true
      · have b1 : ((Int32.ofNat k >>> (Int32.ofNat (f i) &&& 31)) &&& 1) = 1 := bt.1.mpr b
        have b0 : ¬ ((Int32.ofNat k >>> (Int32.ofNat (f i) &&& 31)) &&& 1) = 0 := by rw [b1]; decide
        rw [if_neg b0, if_pos b1, if_neg n10, if_neg n10, kk_def, kk_def, kk_def, kk_def, kk_def, kk_def]
        obtain ⟨j1, j2, j3⟩ := fin 0 (Or.inl rfl) (by rw [if_pos b])
        exact ⟨⟨p_memb, trivial, j1⟩, ⟨pa, pb, v7, g2, v7, v7, pv 0, j2⟩, j3⟩
      · have b2 : k.testBit (f i) = false := by
          rcases hq : k.testBit (f i) with _ | _
          · rfl
          · exact absurd hq b
        have b0 : ((Int32.ofNat k >>> (Int32.ofNat (f i) &&& 31)) &&& 1) = 0 := bt.2.1.mpr b2
        have b1 : ¬ ((Int32.ofNat k >>> (Int32.ofNat (f i) &&& 31)) &&& 1) = 1 := by rw [b0]; decide
        rw [if_pos b0, if_neg b1, if_pos n00, if_pos n00, kk_def, kk_def, kk_def, kk_def, kk_def, kk_def]
        obtain ⟨j1, j2, j3⟩ := fin C c012 (by rw [if_neg b])
        exact ⟨⟨p_memb, ⟨pn _, pn _, pc⟩, j1⟩, ⟨pa, pb, v7, g2, v7, v7, pv C, j2⟩, j3⟩
end
