/-! a told day, to both -/
def DS (f : Nat → Nat) (i : Nat) (O : oT) (M : mT) : Prop := ((O.1 4 = Int32.ofNat (ksum f (M.2.1 34) 0 i) ∧ O.1 5 = Int32.ofNat (ksum f (M.2.1 34) 1 i) ∧ O.1 6 = Int32.ofNat (ksum f (M.2.1 34) 2 i)) ∧ (M.1 37 = Int32.ofNat (kcnt (M.2.1 34) 0 i) ∧ M.1 38 = Int32.ofNat (kcnt (M.2.1 34) 1 i) ∧ M.1 39 = Int32.ofNat (kcnt (M.2.1 34) 2 i))) ∧ (∀ j, j < i → M.2.1 33 j = Int32.ofNat (f j)) ∧ DL f i ∧ (∀ j, j < i → isC M.1 (Int32.ofNat (f j))) ∧ (∀ j, j < i → M.2.1 34 j = 0 ∨ M.2.1 34 j = 1 ∨ M.2.1 34 j = 2) ∧ ∀ j, j < i → M.2.1 34 j = 1 → (M.1 3).toInt ≤ (M.2.1 14 (f j)).toInt
section
variable {P : pT} {R : rT} {n s : Nat} {S : sT}
theorem nv_any {M : mT} {x : Int32} (hR : RR P R M) (h : x = -1 ∨ isC M.1 x) : v_X4_nerveOf R x = nvOf M x ∧ NB7 M x := by
  rcases h with e | e
  · rw [e]; exact ⟨nvof_no hR, nb_m1 M⟩
  · exact nvof_in hR e
theorem ksum_cf {f g : Nat → Nat} {w : Nat → Int32} {h : Int32} : ∀ i, (∀ j, j < i → g j = f j) → ksum g w h i = ksum f w h i := by
  intro i
  induction i with
  | zero => intro _; rfl
  | succ i ih =>
    intro e
    rw [ksum, ksum, ih (fun j hj => e j (by omega)), e i (by omega)]
theorem wrong_loop (hs : s < 8) (hn : n ≤ 7) : ∀ (fu i : Nat) (f : Nat → Nat) (O : oT) (M : mT), i ≤ n → n - i < fu → RR P R M → RS1 S M s → (n : Int) ≤ (M.2.1 18 s).toInt → M.1 36 = 0 → DS f i O M → p_X2_wrongIn_r P R S fu O (Int32.ofNat n) (Int32.ofNat (kall f i)) (if i = 0 then -1 else Int32.ofNat (f (i - 1))) (Int32.ofNat i) ∧ p_X7_wrongIn_r fu M (Int32.ofNat s) (Int32.ofNat n) (Int32.ofNat (kall f i)) (Int32.ofNat i) ∧ ∃ (r : Int32) (O' : oT) (M' : mT), v_X2_wrongIn_r P R S fu O (Int32.ofNat n) (Int32.ofNat (kall f i)) (if i = 0 then -1 else Int32.ofNat (f (i - 1))) (Int32.ofNat i) = (r, O') ∧ v_X7_wrongIn_r fu M (Int32.ofNat s) (Int32.ofNat n) (Int32.ofNat (kall f i)) (Int32.ofNat i) = (r, M') ∧ CW M M' ∧ (¬ r = -1 ∨ (r = -1 ∧ ∃ f', DS f' n O' M')) := by
  intro fu
  induction fu with
  | zero => intro i f O M _ h; omega
  | succ fu ih =>
    intro i f O M hi hfu hR hS hlen h36 hD
    rw [p_X2_wrongIn_r, p_X7_wrongIn_r, v_X2_wrongIn_r, v_X7_wrongIn_r]
    by_cases c : i = n
    · have w : Int32.ofNat n ≤ Int32.ofNat i := by rw [nat_le (by omega) (by omega)]; omega
      rw [if_pos w, if_pos w, if_pos w, if_pos w]
      subst c
      exact ⟨trivial, trivial, -1, O, M, rfl, rfl, CW.rf M, Or.inr ⟨rfl, f, hD⟩⟩
    have w : ¬ Int32.ofNat n ≤ Int32.ofNat i := by rw [nat_le (by omega) (by omega)]; omega
    have w7 : ¬ (7 : Int32) ≤ Int32.ofNat i := by rw [n_le, n_of (by omega), n_7]; omega
    rw [if_neg w, if_neg w, if_neg w, if_neg w, if_neg w7, if_neg w7]
    obtain ⟨⟨ha, hb⟩, h33, hd, hC, hw, hpay⟩ := hD
    obtain ⟨k1, k2⟩ := kall_ok (f := f) (i := i) (by omega) hd
    obtain ⟨e1, e2⟩ := int_eq (i := i) hS hs (by omega)
    have eT := told_eq (O := O) (S := S) (i := Int32.ofNat i) (n := n) hR k1 rfl w
    rw [e1] at eT
    have eT' : v_X2_toldAt O R S (Int32.ofNat i) (Int32.ofNat n) (Int32.ofNat (kall f i)) = TD M (v_X7_intAt M (Int32.ofNat s) (Int32.ofNat i)) (Int32.ofNat (kall f i)) := eT
    rw [eT', e1]
    have pt : ∀ i m, p_X2_toldAt O R S i (Int32.ofNat n) m := fun i m => p_toldx hR
    generalize hv : v_X7_intAt M (Int32.ofNat s) (Int32.ofNat i) = v at *
    have im1 : ¬ Int32.ofNat i = -1 := by rw [n_eq, n_of (by omega), n_m1]; omega
    rcases TD_c hR v (Int32.ofNat (kall f i)) with t | ⟨t1, t2, t3, t4⟩
    · -- nobody, or one who was there
      rw [t, if_pos rfl, if_pos rfl]
      unfold TD at t
      by_cases z : v_X7_toldOf M v = -1
      · rw [if_pos z, if_pos z]
        exact ⟨⟨pt _ _, trivial⟩, ⟨e2, trivial⟩, Int32.ofNat i, O, M, rfl, rfl, CW.rf M, Or.inl im1⟩
      · rw [if_neg z] at t
        rw [if_neg z, if_neg z]
        by_cases y : ((Int32.ofNat (kall f i) >>> (v_X7_toldOf M v &&& 31)) &&& 1) = 1
        · rw [if_pos y, if_pos y]
          exact ⟨⟨pt _ _, trivial⟩, ⟨e2, trivial⟩, Int32.ofNat i, O, M, rfl, rfl, CW.rf M, Or.inl im1⟩
        · rw [if_neg y] at t
          exact absurd t z
    · rw [t2] at t1 ⊢
      obtain ⟨cn, hcn, ec⟩ : ∃ cn : Nat, cn < 7 ∧ v_X7_toldOf M v = Int32.ofNat cn := by
        have q1 := t1.1
        have q2 := t1.2
        have q3 := hR.2.1.1
        exact ⟨(v_X7_toldOf M v).toNatClampNeg, by rw [n_tn]; omega, n_back q1⟩
      rw [ec] at t1 t2 t3 t4 ⊢
      rw [if_neg t3, if_neg t3, if_neg t3, if_neg t3, if_neg t4, if_neg t4]
      obtain ⟨b1, b0, b3⟩ := bits_all cn hcn (kall f i) k1
      have tb : (kall f i).testBit cn = false := by
        rcases hq : (kall f i).testBit cn with _ | _
        · rfl
        · exact absurd (b1.mpr hq) t4
      obtain ⟨b4, b5, b6⟩ := b3 tb
      rw [show ((1 : Int32) <<< (Int32.ofNat cn &&& 31)) = bit1 cn from rfl, b4, b5]
      generalize hf : (fun j => if j = i then cn else f j) = f2
      have f2i : f2 i = cn := by rw [← hf]; exact if_pos rfl
      have f2n : ∀ j, j ≠ i → f2 j = f j := fun j hj => by rw [← hf]; exact if_neg hj
      have hk2 : kall f i + 2 ^ cn = kall f2 (i + 1) := by rw [kall, f2i, kall_congr i (fun j hj => f2n j (by omega))]
      have hd0 : DL f2 i := ⟨fun a ha => by rw [f2n a (by omega)]; exact hd.1 a ha, fun a b ha hb e => by rw [f2n a (by omega), f2n b (by omega)] at e; exact hd.2 a b ha hb e⟩
      have hd2 : DL f2 (i + 1) := DL_more (c := cn) (by omega) hd0 hcn (by rw [kall_congr i (fun j hj => f2n j (by omega))]; exact tb) f2i
      rw [hk2] at b6 ⊢
      simp only [kk_def]
      rw [nat1 (by omega)]
      -- who is behind
      have en : (Int32.ofNat n - 1) = Int32.ofNat (n - 1) := by
        rw [n_eq, n_sub (by rw [n_of (by omega), n_1]; omega) (by rw [n_of (by omega), n_1]; omega), n_of (by omega), n_of (by omega), n_1]
        omega
      have hB : ∃ B : Int32, (B = -1 ∨ isC M.1 B) ∧ v_X2_toldAt O R S (Int32.ofNat (i + 1)) (Int32.ofNat n) (Int32.ofNat (kall f2 (i + 1))) = B ∧ (if (if Int32.ofNat i = Int32.ofNat n - 1 then (-1) else v_X7_toldOf M (v_X7_intAt M (Int32.ofNat s) (Int32.ofNat (i + 1)))) = -1 then (if Int32.ofNat i = Int32.ofNat n - 1 then (-1) else v_X7_toldOf M (v_X7_intAt M (Int32.ofNat s) (Int32.ofNat (i + 1)))) else (if ((Int32.ofNat (kall f2 (i + 1)) >>> ((if Int32.ofNat i = Int32.ofNat n - 1 then (-1) else v_X7_toldOf M (v_X7_intAt M (Int32.ofNat s) (Int32.ofNat (i + 1)))) &&& 31)) &&& 1) = 1 then (-1) else (if Int32.ofNat i = Int32.ofNat n - 1 then (-1) else v_X7_toldOf M (v_X7_intAt M (Int32.ofNat s) (Int32.ofNat (i + 1)))))) = B ∧ (if Int32.ofNat i = Int32.ofNat n - 1 then True else p_X7_intAt M (Int32.ofNat s) (Int32.ofNat (i + 1))) := by
        rw [en]
        by_cases z : i + 1 = n
        · have z1 : Int32.ofNat i = Int32.ofNat (n - 1) := by rw [← z]; rfl
          refine ⟨-1, Or.inl rfl, ?_, ?_, ?_⟩
          · unfold v_X2_toldAt
            rw [if_pos (by rw [nat_le (by omega) (by omega)]; omega)]
          · rw [if_pos z1, if_pos rfl]
          · rw [if_pos z1]; trivial
        · have z1 : ¬ Int32.ofNat i = Int32.ofNat (n - 1) := fun q => by rw [n_eq, n_of (by omega), n_of (by omega)] at q; omega
          obtain ⟨g1, g2⟩ := int_eq (i := i + 1) hS hs (by omega)
          have w2 : ¬ Int32.ofNat n ≤ Int32.ofNat (i + 1) := by rw [nat_le (by omega) (by omega)]; omega
          have eT2 := told_eq (O := O) (S := S) (i := Int32.ofNat (i + 1)) (n := n) hR b6 rfl w2
          refine ⟨TD M (v_X7_intAt M (Int32.ofNat s) (Int32.ofNat (i + 1))) (Int32.ofNat (kall f2 (i + 1))), ?_, ?_, ?_, ?_⟩
          · rcases TD_c hR (v_X7_intAt M (Int32.ofNat s) (Int32.ofNat (i + 1))) (Int32.ofNat (kall f2 (i + 1))) with q | q
            · exact Or.inl q
            · exact Or.inr q.1
          · rw [eT2, g1]
          · rw [if_neg z1]
            unfold TD
            by_cases y : v_X7_toldOf M (v_X7_intAt M (Int32.ofNat s) (Int32.ofNat (i + 1))) = -1
            · rw [if_pos y, if_pos y]; exact y
            · rw [if_neg y, if_neg y]
          · rw [if_neg z1]; exact g2
      obtain ⟨B, hB0, hB1, hB2, hB3⟩ := hB
      rw [hB1, hB2]
      -- who is ahead
      have hA : ∃ A : Int32, (A = -1 ∨ isC M.1 A) ∧ (if i = 0 then -1 else Int32.ofNat (f (i - 1))) = A ∧ (if Int32.ofNat i = 0 then (-1) else (M.2.1 33) (Int32.ofNat i - 1).toNatClampNeg) = A ∧ (if Int32.ofNat i = 0 then True else vp_in (Int32.ofNat i - 1) 7) := by
        by_cases z : i = 0
        · have z1 : Int32.ofNat i = 0 := by rw [z]; rfl
          exact ⟨-1, Or.inl rfl, if_pos z, if_pos z1, by rw [if_pos z1]; trivial⟩
        · have z1 : ¬ Int32.ofNat i = 0 := by rw [n_eq, n_of (by omega), n_0]; omega
          have ej : (Int32.ofNat i - 1) = Int32.ofNat (i - 1) := by
            rw [n_eq, n_sub (by rw [n_of (by omega), n_1]; omega) (by rw [n_of (by omega), n_1]; omega), n_of (by omega), n_of (by omega), n_1]
            omega
          refine ⟨Int32.ofNat (f (i - 1)), Or.inr (hC (i - 1) (by omega)), if_neg z, ?_, ?_⟩
          · rw [if_neg z1, ej, tn_of (by omega)]; exact h33 (i - 1) (by omega)
          · rw [if_neg z1, ej]; exact nat_in (by omega) (by omega)
      obtain ⟨A, hA0, hA1, hA2, hA3⟩ := hA
      rw [hA1, hA2]
      obtain ⟨s1, s2, s3⟩ := bc_seen (O := O) (M := M) (f := f) (by omega) hd ha hb
      rw [s1, s2]
      have ei : (Int32.ofNat i).toNatClampNeg = i := tn_of (by omega)
      rw [ei]
      have cl : CLn M (msa M 33 (upd (M.2.1 33) i (Int32.ofNat cn))) := CLn.a _
      have hR1 := RR_cl cl hR
      obtain ⟨na1, na2⟩ := nv_any (M := msa M 33 (upd (M.2.1 33) i (Int32.ofNat cn))) hR1 hA0
      obtain ⟨nb1, nb2⟩ := nv_any (M := msa M 33 (upd (M.2.1 33) i (Int32.ofNat cn))) hR1 hB0
      obtain ⟨g1, g2, g3⟩ := goes_eq (M := msa M 33 (upd (M.2.1 33) i (Int32.ofNat cn))) (sn := Int32.ofNat (kcnt (M.2.1 34) 1 i - kcnt (M.2.1 34) 0 i)) hR1 t1 na2 nb2 (by rw [n_of (by omega)]; omega)
      have b36 : ¬ (((msa M 33 (upd (M.2.1 33) i (Int32.ofNat cn))).1 36 >>> (Int32.ofNat cn &&& 31)) &&& 1) = 1 := by
        rw [show (msa M 33 (upd (M.2.1 33) i (Int32.ofNat cn))).1 36 = Int32.ofNat 0 from h36, (bits_all cn hcn 0 (by decide)).1, Nat.zero_testBit]
        decide
      rw [if_neg b36] at g1
      rw [g1, ← na1, ← nb1]
      have c012 := comesTo_012 (P := P) (R := R) (x := Int32.ofNat cn) (y := v_X4_nerveOf R A) (z := v_X4_nerveOf R B) (sn := Int32.ofNat (kcnt (M.2.1 34) 1 i - kcnt (M.2.1 34) 0 i))
      have cpay := comes_pay (a := v_X4_nerveOf R A) (b := v_X4_nerveOf R B) (c := Int32.ofNat (kcnt (M.2.1 34) 1 i - kcnt (M.2.1 34) 0 i)) hR t1
      have pc1 := g3 (v_X4_nerveOf R A) (v_X4_nerveOf R B) (Int32.ofNat (kcnt (M.2.1 34) 1 i - kcnt (M.2.1 34) 0 i))
      generalize hY : v_X4_comesTo P R (Int32.ofNat cn) (v_X4_nerveOf R A) (v_X4_nerveOf R B) (Int32.ofNat (kcnt (M.2.1 34) 1 i - kcnt (M.2.1 34) 0 i)) = y at *
      have cw2 : CW M (msa (msa M 33 (upd (M.2.1 33) i (Int32.ofNat cn))) 34 (upd (M.2.1 34) i y)) := cl.w.tr (CM.a _).w
      have cm2 := (mcount_c (M := msa M 33 (upd (M.2.1 33) i (Int32.ofNat cn))) (i := i) (y := y))
      have ev : v_X7_intAt (msa (msa M 33 (upd (M.2.1 33) i (Int32.ofNat cn))) 34 (upd (M.2.1 34) i y)) (Int32.ofNat s) (Int32.ofNat i) = v := (int_w cw2 _ _).trans hv
      have v7 : vp_in (Int32.ofNat i) 7 := nat_in (by omega) (by omega)
      have pe2 : p_X7_intAt (msa (msa M 33 (upd (M.2.1 33) i (Int32.ofNat cn))) 34 (upd (M.2.1 34) i y)) (Int32.ofNat s) (Int32.ofNat i) := e2
      have pn : ∀ x, p_X4_nerveOf R x := fun x => p_nerve hR x
      rw [ev, upd_at]
      by_cases ye : y = v - v / 10 * 10
      · rw [if_pos ye, if_pos ye, if_pos ye, if_pos ye]
        rw [show (if y = 0 then msf (msa (msa M 33 (upd (M.2.1 33) i (Int32.ofNat cn))) 34 (upd (M.2.1 34) i y)) 37 ((M.1 37) + 1) else (if y = 1 then msf (msa (msa M 33 (upd (M.2.1 33) i (Int32.ofNat cn))) 34 (upd (M.2.1 34) i y)) 38 ((M.1 38) + 1) else msf (msa (msa M 33 (upd (M.2.1 33) i (Int32.ofNat cn))) 34 (upd (M.2.1 34) i y)) 39 ((M.1 39) + 1))) = mcount (msa M 33 (upd (M.2.1 33) i (Int32.ofNat cn))) i y from by
          unfold mcount
          rw [upd_at]
          rfl]
        have ks : ∀ h, ksum f2 (M.2.1 34) h i = ksum f (M.2.1 34) h i := fun h => ksum_cf i (fun j hj => f2n j (by omega))
        obtain ⟨q1, q2⟩ := count_sets (O := O) (M := msa M 33 (upd (M.2.1 33) i (Int32.ofNat cn))) (f := f2) (i := i) (y := y) (by omega) hd2 c012 ⟨by rw [ha.1]; exact congrArg Int32.ofNat (ks 0).symm, by rw [ha.2.1]; exact congrArg Int32.ofNat (ks 1).symm, by rw [ha.2.2]; exact congrArg Int32.ofNat (ks 2).symm⟩ hb
        rw [f2i] at q1
        generalize hM3 : mcount (msa M 33 (upd (M.2.1 33) i (Int32.ofNat cn))) i y = M3 at *
        have cw3 : CW M M3 := cl.w.tr cm2.1.w
        have e34 : M3.2.1 34 = upd (M.2.1 34) i y := cm2.2
        have e33 : M3.2.1 33 = upd (M.2.1 33) i (Int32.ofNat cn) := by
          rw [cm2.1.2.1 33 (by decide)]
          exact msa_at
        have hD3 : DS f2 (i + 1) (v_X2_count O (Int32.ofNat cn) y) M3 := by
          refine ⟨⟨q1, q2⟩, fun j hj => ?_, hd2, fun j hj => ?_, fun j hj => ?_, fun j hj hj1 => ?_⟩
          · rw [e33]
            by_cases z : j = i
            · rw [z, upd_at, f2i]
            · rw [upd_ne z, f2n j z]; exact h33 j (by omega)
          · unfold isC
            rw [cw3.1 0 (by decide) (by decide) (by decide)]
            by_cases z : j = i
            · rw [z, f2i]; exact t1
            · rw [f2n j z]; exact hC j (by omega)
          · rw [e34]
            by_cases z : j = i
            · rw [z, upd_at]; exact c012
            · rw [upd_ne z]; exact hw j (by omega)
          · rw [e34] at hj1
            rw [cw3.1 3 (by decide) (by decide) (by decide), cw3.2.1 14 (by decide) (by decide)]
            by_cases z : j = i
            · rw [z, upd_at] at hj1
              have := cpay hj1
              rw [tn_of (by omega)] at this
              rw [z, f2i]; exact this
            · rw [upd_ne z] at hj1
              rw [f2n j z]; exact hpay j (by omega) hj1
        obtain ⟨l1, l2, r, O', M', l3, l4, l5, l6⟩ := ih (i + 1) f2 _ _ (by omega) (by omega) (RR_w cw3 hR) (RS1_w cw3 hS) (by rw [cw3.2.1 18 (by decide) (by decide)]; exact hlen) ((cw3.1 36 (by decide) (by decide) (by decide)).trans h36) hD3
        rw [if_neg (show ¬ i + 1 = 0 by omega), show i + 1 - 1 = i from rfl, f2i] at l1 l3
        refine ⟨⟨pt _ _, pt _ _, pn _, pn _, pc1, p_intx, l1⟩, ⟨e2, hB3, hA3, v7, g2, v7, v7, pe2, v7, ?_, l2⟩, r, O', M', l3, l4, cw3.tr l5, l6⟩
        split
        · trivial
        · exact v7
      · rw [if_neg ye, if_neg ye, if_neg ye, if_neg ye]
        exact ⟨⟨pt _ _, pt _ _, pn _, pn _, pc1, p_intx, trivial⟩, ⟨e2, hB3, hA3, v7, g2, v7, v7, pe2, trivial⟩, Int32.ofNat i, O, _, rfl, rfl, cw2, Or.inl im1⟩
end
