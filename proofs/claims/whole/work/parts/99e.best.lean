/-! the best order, to both -/
section
variable {P : pT} {R : rT} {n : Nat} {l : Nat → Int}
/-- when the least is reached, the reference's rest changes nothing -/
theorem rest_no (hn : n ≤ 7) {K : Int} (hK9 : ∀ g, DL g n → (∀ i, i < n → g i < n) → K ≤ (st P R n g n).2.2) : ∀ (q c gl : Nat) (M : mT), c + q = n → q < gl → RR P R M → M.1 36 = 0 → M.1 0 = Int32.ofNat n → BK M (R.1 7).toInt K → p_X7_lays_r (v_X7_lays 8) (p_X7_lays 8) gl 0 M (Int32.ofNat 0) (Int32.ofNat 0) (Int32.ofNat c) ∧ ∃ M', v_X7_lays_r (v_X7_lays 8) gl 0 M (Int32.ofNat 0) (Int32.ofNat 0) (Int32.ofNat c) = M' ∧ NS 0 M M' := by
  intro q
  induction q with
  | zero =>
    intro c gl M hc hgl hR h36 h0 hK
    obtain ⟨gl, rfl⟩ : ∃ m, gl = m + 1 := ⟨gl - 1, by omega⟩
    have w : Int32.ofNat n ≤ Int32.ofNat c := by rw [nat_le (by omega) (by omega)]; omega
    rw [p_X7_lays_r, v_X7_lays_r, h0]
    simp only [if_true, eq_self, if_pos w]
    exact ⟨trivial, M, rfl, NS.rf 0 M⟩
  | succ q ih =>
    intro c gl M hc hgl hR h36 h0 hK
    obtain ⟨gl, rfl⟩ : ∃ m, gl = m + 1 := ⟨gl - 1, by omega⟩
    have w : ¬ Int32.ofNat n ≤ Int32.ofNat c := by rw [nat_le (by omega) (by omega)]; omega
    obtain ⟨b1, b0, b3⟩ := bits_all c (by omega) 0 (by decide)
    have t0 : (0 : Nat).testBit c = false := Nat.zero_testBit c
    have g1 : ¬ ((Int32.ofNat 0 >>> (Int32.ofNat c &&& 31)) &&& 1) = 1 := fun e => by
      have := b1.mp e
      rw [t0] at this
      exact absurd this (by decide)
    obtain ⟨-, b5, -⟩ := b3 t0
    rw [p_X7_lays_r, v_X7_lays_r, h0]
    simp only [if_true, eq_self, if_neg w, if_neg g1, kk_def]
    rw [nat1 (c := 0) (by omega), nat1 (c := c) (by omega), tn_of (by omega), show ((1 : Int32) <<< (Int32.ofNat c &&& 31)) = bit1 c from rfl, b5]
    obtain ⟨e1, e2, e3⟩ := ext_ok (f := fun _ => 0) (d := 0) (b := c) hn (by omega) ⟨fun i hi => absurd hi (by omega), fun i j hi => absurd hi (by omega)⟩ (fun i hi => absurd hi (by omega)) (by omega) t0
    rw [show (0 : Nat) + 2 ^ c = kall (ext (fun _ => 0) 0 c) (0 + 1) from e3.symm]
    have hN : NS 0 M (msa M 33 (upd (M.2.1 33) 0 (Int32.ofNat c))) := NS.a _
    have hR1 := RR_r hN.1 hR
    obtain ⟨l1, M', l2, l3⟩ := lays_no (P := P) (R := R) hn (K := K) (n - 1) (0 + 1) (ext (fun _ => 0) 0 c) 8 (msa M 33 (upd (M.2.1 33) 0 (Int32.ofNat c))) (by omega) (by omega) hR1 ((hN.1.1 36 (by omega)).trans h36) ((hN.1.1 0 (by omega)).trans h0) e1 (fun j hj => by
      have : j = 0 := by omega
      subst this
      rw [msa_at, upd_at, ext_at]) e2 (hN.bk hK) (fun g a1 a2 _ => hK9 g a1 a2)
    rw [l2]
    have hN2 := hN.tr (l3.le (Nat.zero_le _))
    obtain ⟨j1, M2, j2, j3⟩ := ih (c + 1) gl M' (by omega) (by omega) (RR_r hN2.1 hR) ((hN2.1.1 36 (by omega)).trans h36) ((hN2.1.1 0 (by omega)).trans h0) (hN2.bk hK)
    exact ⟨⟨⟨nat_in (by omega) (by omega), l1⟩, j1⟩, M2, j2, hN2.tr j3⟩
theorem top_loop (hn : n ≤ 7) (hl : HL P R n l) {B : Int32} (hB : B.toInt = LSm l 0 n) : ∀ (q c fl gl : Nat) (O T : oT) (M : mT) (K : Int), c + q = n → q < fl → q < gl → RR P R M → M.1 36 = 0 → M.1 0 = Int32.ofNat n → O.1 3 = Int32.ofNat n → (∀ c, c < n → (O.2 2 c).toInt = l c ∧ 0 ≤ l c ∧ l c ≤ 1000) → FO n (R.1 7).toInt T M K → (∀ g, DL g n → (∀ i, i < n → g i < n) → g 0 < c → K ≤ (st P R n g n).2.2) → p_X2_findBest_r P R fl O T B (Int32.ofNat c) ∧ p_X7_lays_r (v_X7_lays 8) (p_X7_lays 8) gl 0 M (Int32.ofNat 0) (Int32.ofNat 0) (Int32.ofNat c) ∧ ∃ O' T' M' K', v_X2_findBest_r P R fl O T B (Int32.ofNat c) = (O', T') ∧ v_X7_lays_r (v_X7_lays 8) gl 0 M (Int32.ofNat 0) (Int32.ofNat 0) (Int32.ofNat c) = M' ∧ CR M M' ∧ FO n (R.1 7).toInt T' M' K' ∧ K' ≤ K ∧ ∀ g, DL g n → (∀ i, i < n → g i < n) → 0 < n → K' ≤ (st P R n g n).2.2 := by
  intro q
  induction q with
  | zero =>
    intro c fl gl O T M K hc hfl hgl hR h36 h0 h3 hL hF hOpt
    obtain ⟨fl, rfl⟩ : ∃ m, fl = m + 1 := ⟨fl - 1, by omega⟩
    obtain ⟨gl, rfl⟩ : ∃ m, gl = m + 1 := ⟨gl - 1, by omega⟩
    have w : Int32.ofNat n ≤ Int32.ofNat c := by rw [nat_le (by omega) (by omega)]; omega
    rw [p_X2_findBest_r, v_X2_findBest_r, p_X7_lays_r, v_X7_lays_r, h0, h3]
    simp only [if_true, eq_self, if_pos w]
    exact ⟨trivial, trivial, O, T, M, K, rfl, rfl, CR.rf M, hF, Int.le_refl K, fun g a1 a2 a3 => hOpt g a1 a2 (by have := a2 0 a3; omega)⟩
  | succ q ih =>
    intro c fl gl O T M K hc hfl hgl hR h36 h0 h3 hL hF hOpt
    obtain ⟨fl, rfl⟩ : ∃ m, fl = m + 1 := ⟨fl - 1, by omega⟩
    have w : ¬ Int32.ofNat n ≤ Int32.ofNat c := by rw [nat_le (by omega) (by omega)]; omega
    rw [p_X2_findBest_r, v_X2_findBest_r, h3, if_neg w, if_neg w]
    by_cases stop : T.1 7 ≤ B
    · rw [if_pos stop, if_pos stop]
      rw [n_le, hF.2.1, hB] at stop
      have hall : ∀ g, DL g n → (∀ i, i < n → g i < n) → K ≤ (st P R n g n).2.2 := fun g a1 a2 => by
        have h1 := HB_mono hn hl a1 a2 n 0 (by omega)
        have h2 : HB P R n l g 0 = LSm l 0 n := Int.zero_add _
        omega
      obtain ⟨j1, M', j2, j3⟩ := rest_no hn hall (q + 1) c gl M hc hgl hR h36 h0 hF.2.2.1
      exact ⟨trivial, j1, O, T, M', K, rfl, j2, j3.1, ⟨hF.1, hF.2.1, j3.bk hF.2.2.1, fun hk j hj => by rw [j3.2.2.2.2]; exact hF.2.2.2.1 hk j hj, hF.2.2.2.2⟩, Int.le_refl K, fun g a1 a2 _ => hall g a1 a2⟩
    · obtain ⟨gl, rfl⟩ : ∃ m, gl = m + 1 := ⟨gl - 1, by omega⟩
      rw [if_neg stop, if_neg stop, p_X7_lays_r, v_X7_lays_r, h0]
      obtain ⟨b1, b0, b3⟩ := bits_all c (by omega) 0 (by decide)
      have t0 : (0 : Nat).testBit c = false := Nat.zero_testBit c
      have g1 : ¬ ((Int32.ofNat 0 >>> (Int32.ofNat c &&& 31)) &&& 1) = 1 := fun e => by
        have := b1.mp e
        rw [t0] at this
        exact absurd this (by decide)
      obtain ⟨-, b5, -⟩ := b3 t0
      simp only [if_true, eq_self, if_neg w, if_neg g1, kk_def]
      have ec : (1 : Int32) <<< (Int32.ofNat c &&& 31) = Int32.ofNat (0 + 2 ^ c) := by rw [shl_ok c (by omega), Nat.zero_add]
      rw [nat1 (c := 0) (by omega), nat1 (c := c) (by omega), tn_of (k := 0) (by omega), show Int32.ofNat 0 + (1 : Int32) <<< (Int32.ofNat c &&& 31) = Int32.ofNat (0 + 2 ^ c) from b5, ec]
      obtain ⟨e1, e2, e3⟩ := ext_ok (f := fun _ => 0) (d := 0) (b := c) hn (by omega) ⟨fun i hi => absurd hi (by omega), fun i j hi => absurd hi (by omega)⟩ (fun i hi => absurd hi (by omega)) (by omega) t0
      rw [show (0 : Nat) + 2 ^ c = kall (ext (fun _ => 0) 0 c) (0 + 1) from e3.symm]
      have cr1 : CR M (msa M 33 (upd (M.2.1 33) 0 (Int32.ofNat c))) := (CLn.a _).r
      have hR1 := RR_r cr1 hR
      obtain ⟨l1, l2, O2, T2, M2, K2, l3, l4, s1, s2, s3, s4, s5, s6, s7, s8⟩ := search_ok (P := P) (R := R) hn hl (n - 1) 0 (ext (fun _ => 0) 0 c) 9 8 (osa O 1 (upd (O.2 1) ((0 : Int32)).toNatClampNeg (Int32.ofNat c))) T (msa M 33 (upd (M.2.1 33) 0 (Int32.ofNat c))) B 0 K (by omega) (by omega) (by omega) hR1 ((cr1.1 36 (by omega)).trans h36) ((cr1.1 0 (by omega)).trans h0) h3 e1 e2 (fun j hj => by
        have : j = 0 := by omega
        subst this
        rw [osa_at, ext_at]
        exact upd_at) (fun j hj => by
        have : j = 0 := by omega
        subst this
        rw [msa_at, upd_at, ext_at]) (fun c hc => by rw [osa_ne (by decide)]; exact hL c hc) rfl (by rw [hB]; exact (Int.zero_add _).symm) ⟨hF.1, hF.2.1, hF.2.2.1, fun hk j hj => by rw [msa_ne (by decide)]; exact hF.2.2.2.1 hk j hj, hF.2.2.2.2⟩
      rw [show v_X2_search P 9 (osa O 1 (upd (O.2 1) ((0 : Int32)).toNatClampNeg (Int32.ofNat c))) T R 0 (Int32.ofNat (kall (ext (fun _ => 0) 0 c) (0 + 1))) 0 B = (O2, T2) from l3, l4]
      have cr2 := cr1.tr s4
      obtain ⟨j1, j2, O3, T3, M3, K3, j3, j4, j5, j6, j7, j8⟩ := ih (c + 1) fl gl O2 T2 M2 K2 (by omega) (by omega) (by omega) (RR_r cr2 hR) ((cr2.1 36 (by omega)).trans h36) ((cr2.1 0 (by omega)).trans h0) ((congrFun s1 3).trans h3) (fun c hc => by rw [s2, osa_ne (by decide)]; exact hL c hc) s6 (fun g a1 a2 a3 => by
        by_cases z : g 0 = c
        · refine s8 g a1 a2 (fun i hi => ?_)
          have : i = 0 := by omega
          subst this
          rw [ext_at]; exact z
        · have := hOpt g a1 a2 (by omega)
          omega)
      exact ⟨⟨l1, j1⟩, ⟨⟨nat_in (by omega) (by omega), l2⟩, j2⟩, O3, T3, M3, K3, j3, j4, cr2.tr j5, j6, by omega, j8⟩
end
