/-! the least that each can come to -/
section
variable {P : pT} {R : rT} {M : mT} {n : Nat}
theorem most_loop (hR : RR P R M) (hn : n ≤ 7) (hI : (M.1 0).toInt = (n : Int)) {g : Nat} : ∀ (d c : Nat) (O : oT) (v : Int32), c + d = n → O.1 3 = Int32.ofNat n → (0 ≤ v.toInt ∧ v.toInt ≤ 30) → (∀ i, i < c → (v_X4_nerveOf R (Int32.ofNat i)).toInt ≤ v.toInt) → ∃ most : Int32, (0 ≤ most.toInt ∧ most.toInt ≤ 30) ∧ (∀ i, i < n → (v_X4_nerveOf R (Int32.ofNat i)).toInt ≤ most.toInt) ∧ v_X2_weighLeast_r P R (g + 1 + d) 0 O v (Int32.ofNat c) 0 = v_X2_weighLeast_r P R g 1 O most 0 0 ∧ (p_X2_weighLeast_r P R g 1 O most 0 0 → p_X2_weighLeast_r P R (g + 1 + d) 0 O v (Int32.ofNat c) 0) := by
  intro d
  induction d with
  | zero =>
    intro c O v hc h3 hv hm
    have : c = n := by omega
    subst this
    have w : Int32.ofNat c ≤ Int32.ofNat c := by rw [nat_le (by omega) (by omega)]; omega
    rw [show g + 1 + 0 = g + 1 from rfl, v_X2_weighLeast_r, p_X2_weighLeast_r, h3]
    simp only [if_true, eq_self, if_pos w]
    exact ⟨v, hv, hm, rfl, fun h => h⟩
  | succ d ih =>
    intro c O v hc h3 hv hm
    have w : ¬ Int32.ofNat n ≤ Int32.ofNat c := by rw [nat_le (by omega) (by omega)]; omega
    rw [show g + 1 + (d + 1) = (g + 1 + d) + 1 from rfl, v_X2_weighLeast_r, p_X2_weighLeast_r, h3]
    simp only [if_true, eq_self, if_neg w]
    rw [nat1 (by omega)]
    have hx := isC_id hR hI c (by omega)
    have hc5 := (hR.cm hx).2.2.2.2.1
    have en : v_X4_nerveOf R (Int32.ofNat c) = M.2.1 11 (Int32.ofNat c).toNatClampNeg := nerve_in hR hx
    have hb : 0 ≤ (v_X4_nerveOf R (Int32.ofNat c)).toInt ∧ (v_X4_nerveOf R (Int32.ofNat c)).toInt ≤ 30 := by rw [en]; exact hc5
    have mx := max_toInt v (v_X4_nerveOf R (Int32.ofNat c))
    have mb : 0 ≤ (if v < v_X4_nerveOf R (Int32.ofNat c) then v_X4_nerveOf R (Int32.ofNat c) else v).toInt ∧ (if v < v_X4_nerveOf R (Int32.ofNat c) then v_X4_nerveOf R (Int32.ofNat c) else v).toInt ≤ 30 ∧ v.toInt ≤ (if v < v_X4_nerveOf R (Int32.ofNat c) then v_X4_nerveOf R (Int32.ofNat c) else v).toInt ∧ (v_X4_nerveOf R (Int32.ofNat c)).toInt ≤ (if v < v_X4_nerveOf R (Int32.ofNat c) then v_X4_nerveOf R (Int32.ofNat c) else v).toInt := by
      rw [mx]
      by_cases z : v.toInt < (v_X4_nerveOf R (Int32.ofNat c)).toInt
      · rw [if_pos z]; omega
      · rw [if_neg z]; omega
    obtain ⟨most, q1, q2, q3, q4⟩ := ih (c + 1) O _ (by omega) h3 ⟨mb.1, mb.2.1⟩ (fun i hi => by
      by_cases z : i = c
      · rw [z]; exact mb.2.2.2
      · have := hm i (by omega)
        omega)
    exact ⟨most, q1, q2, q3, fun h => ⟨p_nerve hR _, q4 h⟩⟩
theorem least_loop (hR : RR P R M) (hn : n ≤ 7) (hI : (M.1 0).toInt = (n : Int)) {most : Int32} {g : Nat} : ∀ (d c : Nat) (O : oT) (v : Int32), c + d = n → O.1 3 = Int32.ofNat n → (∀ i, i < c → O.2 2 i = v_X4_weightOf R (v_X4_comesTo P R (Int32.ofNat i) most most 0)) → v.toInt = LSm (fun i => (v_X4_weightOf R (v_X4_comesTo P R (Int32.ofNat i) most most 0)).toInt) 0 c → (0 ≤ v.toInt ∧ v.toInt ≤ 1000 * (c : Int)) → p_X2_weighLeast_r P R (g + 1 + d) 1 O most v (Int32.ofNat c) ∧ ∃ s O', v_X2_weighLeast_r P R (g + 1 + d) 1 O most v (Int32.ofNat c) = (s, O') ∧ O'.1 = O.1 ∧ (∀ j, j ≠ 2 → O'.2 j = O.2 j) ∧ (∀ i, i < n → O'.2 2 i = v_X4_weightOf R (v_X4_comesTo P R (Int32.ofNat i) most most 0)) ∧ s.toInt = LSm (fun i => (v_X4_weightOf R (v_X4_comesTo P R (Int32.ofNat i) most most 0)).toInt) 0 n ∧ s.toInt ≤ 7000 := by
  intro d
  induction d with
  | zero =>
    intro c O v hc h3 hO hv hb
    have : c = n := by omega
    subst this
    have w : Int32.ofNat c ≤ Int32.ofNat c := by rw [nat_le (by omega) (by omega)]; omega
    rw [show g + 1 + 0 = g + 1 from rfl, v_X2_weighLeast_r, p_X2_weighLeast_r, h3]
    simp only [if_neg (show ¬ (1 : Nat) = 0 by decide), if_pos w]
    exact ⟨trivial, v, O, rfl, rfl, fun _ _ => rfl, hO, hv, by omega⟩
  | succ d ih =>
    intro c O v hc h3 hO hv hb
    have w : ¬ Int32.ofNat n ≤ Int32.ofNat c := by rw [nat_le (by omega) (by omega)]; omega
    have w7 : ¬ (7 : Int32) ≤ Int32.ofNat c := by rw [n_le, n_of (by omega), n_7]; omega
    rw [show g + 1 + (d + 1) = (g + 1 + d) + 1 from rfl, v_X2_weighLeast_r, p_X2_weighLeast_r, h3]
    simp only [if_neg (show ¬ (1 : Nat) = 0 by decide), if_neg w, if_neg w7, kk_def]
    rw [nat1 (by omega), tn_of (by omega), upd_at]
    have hx := isC_id hR hI c (by omega)
    have pc1 := (goes_eq (sn := 0) hR hx (nb_m1 M) (nb_m1 M) (by decide)).2.2 most most 0
    have e7 : R.1 7 = M.1 3 := hR.1.2.2.2.1
    have ht : 1 ≤ (R.1 7).toInt ∧ (R.1 7).toInt ≤ 99 := by rw [e7]; exact hR.2.1.2.2.2.1
    have wb := weight_b (R := R) (y := v_X4_comesTo P R (Int32.ofNat c) most most 0) ht
    have v7 : vp_in (Int32.ofNat c) 7 := nat_in (by omega) (by omega)
    generalize hW : v_X4_weightOf R (v_X4_comesTo P R (Int32.ofNat c) most most 0) = W at *
    have es : (v + W).toInt = v.toInt + W.toInt := n_add (by omega) (by omega)
    obtain ⟨j1, s, O', j2, j3, j4, j5, j6, j7⟩ := ih (c + 1) (osa O 2 (upd (O.2 2) c W)) (v + W) (by omega) h3 (fun i hi => by
      rw [osa_at]
      by_cases z : i = c
      · rw [z, upd_at]; exact hW.symm
      · rw [upd_ne z]; exact hO i (by omega)) (by
      rw [es, hv, LSm, if_neg (by rw [Nat.zero_testBit]; decide)]
      show _ + W.toInt = _ + (v_X4_weightOf R (v_X4_comesTo P R (Int32.ofNat c) most most 0)).toInt
      rw [hW]) (by rw [es]; omega)
    exact ⟨⟨pc1, v7, v7, j1⟩, s, O', j2, j3, fun j hj => (j4 j hj).trans (osa_ne hj), j5, j6, j7⟩
theorem na_b (hR : RR P R M) (hI : (M.1 0).toInt = (n : Int)) {most : Int32} (hm : 0 ≤ most.toInt) (hb : ∀ i, i < n → (v_X4_nerveOf R (Int32.ofNat i)).toInt ≤ most.toInt) {g : Nat → Nat} (hg : ∀ i, i < n → g i < n) {j : Nat} (hj : j < n) : (0 ≤ (na R g j).toInt ∧ (na R g j).toInt ≤ most.toInt) ∧ (0 ≤ (nb R g n j).toInt ∧ (nb R g n j).toInt ≤ most.toInt) := by
  have z : ∀ i, i < n → 0 ≤ (v_X4_nerveOf R (Int32.ofNat i)).toInt := fun i hi => by
    have hx := isC_id hR hI i hi
    rw [nerve_in hR hx]
    exact (hR.cm hx).2.2.2.2.1.1
  unfold na nb
  refine ⟨?_, ?_⟩
  · by_cases c : j = 0
    · rw [if_pos c, n_0]; omega
    · rw [if_neg c]
      have h1 := hg (j - 1) (by omega)
      exact ⟨z _ h1, hb _ h1⟩
  · by_cases c : j + 1 = n
    · rw [if_pos c, n_0]; omega
    · rw [if_neg c]
      have h1 := hg (j + 1) (by omega)
      exact ⟨z _ h1, hb _ h1⟩
theorem weigh_ok (hR : RR P R M) (hn : n ≤ 7) (hI : (M.1 0).toInt = (n : Int)) {O : oT} (h3 : O.1 3 = Int32.ofNat n) : p_X2_weighLeast P O R ∧ ∃ (s : Int32) (O' : oT) (l : Nat → Int), v_X2_weighLeast P O R = (s, O') ∧ O'.1 = O.1 ∧ (∀ j, j ≠ 2 → O'.2 j = O.2 j) ∧ (∀ i, i < n → (O'.2 2 i).toInt = l i ∧ 0 ≤ l i ∧ l i ≤ 1000) ∧ s.toInt = LSm l 0 n ∧ s.toInt ≤ 7000 ∧ HL P R n l := by
  have e7 : R.1 7 = M.1 3 := hR.1.2.2.2.1
  have ht : 1 ≤ (R.1 7).toInt ∧ (R.1 7).toInt ≤ 99 := by rw [e7]; exact hR.2.1.2.2.2.1
  obtain ⟨most, a1, a2, a3, a4⟩ := most_loop (P := P) hR hn hI (g := 199 - n) n 0 O 0 (by omega) h3 (by decide) (fun i hi => absurd hi (by omega))
  obtain ⟨b1, s, O', b2, b3, b4, b5, b6, b7⟩ := least_loop (P := P) hR hn hI (most := most) (g := 198 - n - n) n 0 O 0 (by omega) h3 (fun i hi => absurd hi (by omega)) rfl (by decide)
  have f1 : 199 - n + 1 + n = 200 := by omega
  have f2 : 198 - n - n + 1 + n = 199 - n := by omega
  rw [f1] at a3 a4
  rw [f2] at b1 b2
  unfold p_X2_weighLeast v_X2_weighLeast
  rw [show v_X2_weighLeast_r P R 200 0 O 0 0 0 = _ from a3]
  refine ⟨a4 b1, s, O', fun i => (v_X4_weightOf R (v_X4_comesTo P R (Int32.ofNat i) most most 0)).toInt, b2, b3, b4, fun i hi => ⟨by rw [b5 i hi], weight_b ht⟩, b6, b7, fun g hg j hj p f hpf => ?_⟩
  obtain ⟨c1, c2⟩ := na_b (P := P) hR hI a1.1 a2 hg hj
  have hx := isC_id hR hI (g j) (hg j hj)
  exact weight_mono hR hx ⟨c1.1, c1.2, a1.2⟩ ⟨c2.1, c2.2, a1.2⟩ (by rw [n_of (by omega)]; omega)
end
