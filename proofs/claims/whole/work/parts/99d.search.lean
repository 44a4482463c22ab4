/-! the search, to both -/
theorem LSm_b {l : Nat → Int} {n : Nat} (hl : ∀ c, c < n → 0 ≤ l c ∧ l c ≤ 1000) {k : Nat} : ∀ c, c ≤ n → 0 ≤ LSm l k c ∧ LSm l k c ≤ 1000 * (c : Int) := by
  intro c
  induction c with
  | zero => intro _; exact ⟨Int.le_refl 0, Int.le_refl 0⟩
  | succ c ih =>
    intro hc
    have h := ih (by omega)
    have h2 := hl c (by omega)
    rw [LSm]
    by_cases t : k.testBit c = true
    · rw [if_pos t]; omega
    · rw [if_neg t]; omega
/-- what is found so far, to both -/
def FO (n : Nat) (t : Int) (T : oT) (M : mT) (K : Int) : Prop := T.1 3 = Int32.ofNat n ∧ (T.1 7).toInt = K ∧ BK M t K ∧ (K < 8000 → ∀ j, j < n → T.2 1 j = M.2.1 35 j) ∧ K ≤ 8000
theorem keep_loop {O : oT} : ∀ (fu k : Nat) (T : oT) (W : Int32), k ≤ 7 → 7 - k < fu → (∀ j, j < k → T.2 1 j = O.2 1 j) → p_X2_keep_r O fu T W (Int32.ofNat k) ∧ ∃ T', v_X2_keep_r O fu T W (Int32.ofNat k) = T' ∧ (T'.1 = va_up T.1 7 W) ∧ ∀ j, j < 7 → T'.2 1 j = O.2 1 j := by
  intro fu
  induction fu with
  | zero => intro k T W _ h; omega
  | succ fu ih =>
    intro k T W hk hfu hT
    rw [p_X2_keep_r, v_X2_keep_r]
    by_cases c : k = 7
    · have w : (7 : Int32) ≤ Int32.ofNat k := by rw [c]; decide
      rw [if_pos w, if_pos w]
      subst c
      exact ⟨trivial, _, rfl, rfl, hT⟩
    · have w : ¬ (7 : Int32) ≤ Int32.ofNat k := by rw [n_le, n_of (by omega), n_7]; omega
      rw [if_neg w, if_neg w, tn_of (by omega), nat1 (by omega)]
      have v7 : vp_in (Int32.ofNat k) 7 := nat_in (by omega) (by omega)
      obtain ⟨j1, T', j2, j3, j4⟩ := ih (k + 1) (osa T 1 (upd (T.2 1) k (O.2 1 k))) W (by omega) (by omega) (fun j hj => by
        rw [osa_at]
        by_cases z : j = k
        · rw [z, upd_at]
        · rw [upd_ne z]; exact hT j (by omega))
      exact ⟨⟨v7, v7, j1⟩, T', j2, j3, j4⟩
theorem keep_ok (T O : oT) (W : Int32) : p_X2_keep T O W ∧ ∃ T', v_X2_keep T O W = T' ∧ (T'.1 = va_up T.1 7 W) ∧ ∀ j, j < 7 → T'.2 1 j = O.2 1 j := keep_loop 200 0 T W (by omega) (by omega) (fun j hj => absurd hj (by omega))
section
variable {P : pT} {R : rT} {n : Nat} {l : Nat → Int}
theorem mem_pre {O : oT} {f : Nat → Nat} {d : Nat} (hn : n ≤ 7) (hdn : d < n) (h3 : O.1 3 = Int32.ofNat n) (hO : ∀ j, j < d + 1 → O.2 1 j = Int32.ofNat (f j)) {j : Nat} (hj : j < d + 1) : v_X2_memberAt O (Int32.ofNat j) = Int32.ofNat (f j) := by
  unfold v_X2_memberAt
  rw [if_neg (by rw [n_lt, n_of (by omega), n_0]; omega), h3, if_neg (by rw [nat_le (by omega) (by omega)]; omega), if_pos (by rw [n_lt, n_of (by omega), n_7]; omega), tn_of (by omega)]
  exact hO j hj
theorem nerve_pre {M : mT} (hR : RR P R M) {O : oT} {f : Nat → Nat} {d : Nat} (hn : n ≤ 7) (hdn : d < n) (h3 : O.1 3 = Int32.ofNat n) (hO : ∀ j, j < d + 1 → O.2 1 j = Int32.ofNat (f j)) : v_X2_nerveAt O R (Int32.ofNat d - 1) = na R f d := by
  unfold v_X2_nerveAt na
  by_cases z : d = 0
  · subst z
    rw [if_pos rfl, show Int32.ofNat 0 - 1 = -1 from rfl, memb_m1, nvof_no hR, nvOf_m1]
  · have ed : (Int32.ofNat d - 1) = Int32.ofNat (d - 1) := by
      rw [n_eq, n_sub (by rw [n_of (by omega), n_1]; omega) (by rw [n_of (by omega), n_1]; omega), n_of (by omega), n_of (by omega), n_1]
      omega
    rw [if_neg z, ed, mem_pre hn hdn h3 hO (show d - 1 < d + 1 by omega)]
theorem bal_eq {bal : Int32} {a b : Nat} (ha : a ≤ 7) (hb : b ≤ 7) (h : bal.toInt = (a : Int) - (b : Int)) : (if 0 < bal then bal else 0) = Int32.ofNat (a - b) := by
  have ev : (Int32.ofNat (a - b)).toInt = ((a - b : Nat) : Int) := n_of (by omega)
  by_cases c : 0 < bal
  · rw [if_pos c, n_eq, ev]
    rw [n_lt, n_0] at c
    omega
  · rw [if_neg c, n_eq, ev, n_0]
    rw [n_lt, n_0] at c
    omega
/-- what a search leaves -/
def SR (P : pT) (R : rT) (n d : Nat) (f : Nat → Nat) (O : oT) (M : mT) (K : Int) (O' T' : oT) (M' : mT) (K' : Int) : Prop := O'.1 = O.1 ∧ O'.2 2 = O.2 2 ∧ (∀ j, j < d + 1 → O'.2 1 j = O.2 1 j) ∧ CR M M' ∧ (∀ j, j < d + 1 → M'.2.1 33 j = M.2.1 33 j) ∧ FO n (R.1 7).toInt T' M' K' ∧ K' ≤ K ∧ ∀ g, DL g n → (∀ i, i < n → g i < n) → (∀ i, i < d + 1 → g i = f i) → K' ≤ (st P R n g n).2.2
theorem search_ok (hn : n ≤ 7) (hl : HL P R n l) : ∀ (r d : Nat) (f : Nat → Nat) (fc fm : Nat) (O T : oT) (M : mT) (B bal : Int32) (K : Int), d + r + 1 = n → r < fc → r < fm → RR P R M → M.1 36 = 0 → M.1 0 = Int32.ofNat n → O.1 3 = Int32.ofNat n → DL f (d + 1) → (∀ i, i < d + 1 → f i < n) → (∀ j, j < d + 1 → O.2 1 j = Int32.ofNat (f j)) → (∀ j, j < d + 1 → M.2.1 33 j = Int32.ofNat (f j)) → (∀ c, c < n → (O.2 2 c).toInt = l c ∧ 0 ≤ l c ∧ l c ≤ 1000) → bal.toInt = ((st P R n f d).1 : Int) - ((st P R n f d).2.1 : Int) → B.toInt = HB P R n l f d → FO n (R.1 7).toInt T M K → p_X2_search P fc O T R (Int32.ofNat d) (Int32.ofNat (kall f (d + 1))) bal B ∧ p_X7_lays fm M (Int32.ofNat (d + 1)) (Int32.ofNat (kall f (d + 1))) ∧ ∃ O' T' M' K', v_X2_search P fc O T R (Int32.ofNat d) (Int32.ofNat (kall f (d + 1))) bal B = (O', T') ∧ v_X7_lays fm M (Int32.ofNat (d + 1)) (Int32.ofNat (kall f (d + 1))) = M' ∧ SR P R n d f O M K O' T' M' K' := by
  intro r
  induction r with
  | zero =>
    intro d f fc fm O T M B bal K hdn hfc hfm hR h36 h0 h3 hD hg hO h33 hL hbal hB hF
    obtain ⟨fc, rfl⟩ : ∃ m, fc = m + 1 := ⟨fc - 1, by omega⟩
    obtain ⟨fm, rfl⟩ : ∃ m, fm = m + 1 := ⟨fm - 1, by omega⟩
    have hd1 : d + 1 = n := by omega
    have eI : (M.1 0).toInt = (n : Int) := by rw [h0, n_of (by omega)]
    have e7 : R.1 7 = M.1 3 := hR.1.2.2.2.1
    have ht : 1 ≤ (R.1 7).toInt ∧ (R.1 7).toInt ≤ 99 := by rw [e7]; exact hR.2.1.2.2.2.1
    have fd := hg d (by omega)
    have hx := isC_id hR eI (f d) fd
    have hgn : ∀ i, i < n → f i < n := fun i hi => hg i (by omega)
    have hDn : DL f n := by rw [← hd1]; exact hD
    -- the reference: a leaf
    obtain ⟨j1, M', j2, j3, j4, j5⟩ := leaf_ok (K := K) (x := Int32.ofNat (kall f (d + 1))) (fm := fm) hn hR h36 h0 hDn (fun j hj => h33 j (by omega)) hgn hF.2.2.1
    rw [← hd1] at j1 j2
    -- the class
    have em := mem_pre hn (show d < n by omega) h3 hO (show d < d + 1 by omega)
    have ena := nerve_pre hR hn (show d < n by omega) h3 hO
    have lastb : Int32.ofNat d = O.1 3 - 1 := by
      rw [h3, ← hd1, n_eq, n_sub (by rw [n_of (by omega), n_1]; omega) (by rw [n_of (by omega), n_1]; omega), n_of (by omega), n_of (by omega), n_1]
      omega
    have sl := st_le (P := P) (R := R) (n := n) (g := f) d
    have ebal := bal_eq (bal := bal) (by omega) (by omega) hbal
    have enb : nb R f n d = 0 := by unfold nb; rw [if_pos hd1]
    have eo : v_X4_comesTo P R (Int32.ofNat (f d)) (na R f d) 0 (Int32.ofNat ((st P R n f d).1 - (st P R n f d).2.1)) = oy P R n f (st P R n f d).1 (st P R n f d).2.1 d := by
      unfold oy
      rw [enb]
    have pcm := (goes_eq (sn := 0) hR hx (nb_m1 M) (nb_m1 M) (by decide)).2.2 (na R f d) 0 (Int32.ofNat ((st P R n f d).1 - (st P R n f d).2.1))
    have hst := HB_step (l := l) hn (show d < n by omega) hD fd (P := P) (R := R)
    have hend : HB P R n l f (d + 1) = (st P R n f n).2.2 := by rw [hd1]; exact HB_end hn hDn hgn
    have wb := weight_b (R := R) (y := oy P R n f (st P R n f d).1 (st P R n f d).2.1 d) ht
    have lb := LSm_b (fun c hc => (hL c hc).2) (k := kall f d) n (Nat.le_refl n)
    have sb := st_w (P := P) (n := n) (g := f) ht d
    have hfd := hL (f d) fd
    have hHB : HB P R n l f d = (st P R n f d).2.2 + LSm l (kall f d) n := rfl
    have eW : (B - O.2 2 (f d) + v_X4_weightOf R (oy P R n f (st P R n f d).1 (st P R n f d).2.1 d)).toInt = (st P R n f n).2.2 := by
      have e1 : (B - O.2 2 (f d)).toInt = B.toInt - l (f d) := by rw [n_sub (by omega) (by omega), hfd.1]
      rw [n_add (by rw [e1]; omega) (by rw [e1]; omega), e1, ← hend, hst, hB]
    have v7f : vp_in (Int32.ofNat (f d)) 7 := nat_in (by omega) (by omega)
    have c1 : ¬ Int32.ofNat (f d) < 0 := by rw [n_lt, n_of (by omega), n_0]; omega
    have c2 : ¬ (7 : Int32) ≤ Int32.ofNat (f d) := by rw [n_le, n_of (by omega), n_7]; omega
    have c3 : Int32.ofNat d < 7 := by rw [n_lt, n_of (by omega), n_7]; omega
    have c4 : ¬ (1 : Int32) ≤ 0 := by decide
    have c5 : (1 : Int32) ≤ 0 + 1 := by decide
    rw [p_X2_search, v_X2_search, em, if_neg c1, if_neg c1, if_neg c2, if_neg c2, if_pos c3, if_pos c3, ena, if_pos lastb, kk_def, kk_def, p_X2_search_r, v_X2_search_r]
    simp only [n10f, if_false, if_neg c4, kk_def]
    rw [tn_of (by omega), ebal, eo]
    rw [eo] at *
    have pnr : p_X2_nerveAt O R (Int32.ofNat d - 1) := ⟨p_memb, p_nerve hR _⟩
    generalize hW : B - O.2 2 (f d) + v_X4_weightOf R (oy P R n f (st P R n f d).1 (st P R n f d).2.1 d) = W at *
    have stop : ∀ T2 : oT, p_X2_search_r P (v_X2_search P fc) (p_X2_search P fc) R 199 O T2 (Int32.ofNat d) (Int32.ofNat (kall f (d + 1))) bal B (Int32.ofNat (f d)) 1 (na R f d) (0 + 1) ∧ v_X2_search_r P (v_X2_search P fc) R 199 O T2 (Int32.ofNat d) (Int32.ofNat (kall f (d + 1))) bal B (Int32.ofNat (f d)) 1 (na R f d) (0 + 1) = (O, T2) := fun T2 => by
      rw [p_X2_search_r, v_X2_search_r]
      simp only [n10f, if_false, if_pos c5]
      exact ⟨trivial, trivial⟩
    by_cases lt : W < T.1 7
    · simp only [if_pos lt]
      obtain ⟨q1, T', q2, q3, q4⟩ := keep_ok T O W
      rw [q2]
      obtain ⟨q5, q6⟩ := stop T'
      rw [n_lt, eW, hF.2.1] at lt
      refine ⟨⟨p_memb, pnr, ⟨trivial, pcm, v7f, q1⟩, q5⟩, j1, O, T', M', (st P R n f n).2.2, q6, j2, rfl, rfl, fun _ _ => rfl, j3, fun j _ => by rw [j4], ?_, by omega, ?_⟩
      · rcases j5 with ⟨k1, k2, k3, k4⟩ | ⟨k1, -⟩
        · refine ⟨?_, ?_, k2, fun _ j hj => ?_, by have := hF.2.2.2.2; omega⟩
          · rw [q3]; exact (up_ne (by decide)).trans hF.1
          · rw [q3, up_at]; exact eW
          · rw [q4 j (by omega), k4 j hj]; exact hO j (by omega)
        · omega
      · intro g g1 g2 g3
        rw [st_congr n (Nat.le_refl n) (fun i h1 h2 => (g3 i (by omega)))]
        exact Int.le_refl _
    · simp only [if_neg lt]
      obtain ⟨q5, q6⟩ := stop T
      rw [n_lt, eW, hF.2.1] at lt
      refine ⟨⟨p_memb, pnr, ⟨trivial, pcm, v7f, trivial⟩, q5⟩, j1, O, T, M', K, q6, j2, rfl, rfl, fun _ _ => rfl, j3, fun j _ => by rw [j4], ?_, Int.le_refl K, ?_⟩
      · rcases j5 with ⟨k1, -⟩ | ⟨k1, k2, k3, k4⟩
        · omega
        · refine ⟨hF.1, hF.2.1, ?_, fun hk j hj => by rw [k4]; exact hF.2.2.2.1 hk j hj, hF.2.2.2.2⟩
          have := hF.2.2.1
          unfold BK at this ⊢
          rw [k2, k3]
          exact this
      · intro g g1 g2 g3
        rw [st_congr n (Nat.le_refl n) (fun i h1 h2 => (g3 i (by omega)))]
        omega
  | succ r ih =>
    intro d f fc fm O T M B bal K hdn hfc hfm hR h36 h0 h3 hD hg hO h33 hL hbal hB hF
    obtain ⟨fc, rfl⟩ : ∃ m, fc = m + 1 := ⟨fc - 1, by omega⟩
    obtain ⟨fm, rfl⟩ : ∃ m, fm = m + 1 := ⟨fm - 1, by omega⟩
    have hd1 : d + 1 < n := by omega
    have eI : (M.1 0).toInt = (n : Int) := by rw [h0, n_of (by omega)]
    have e7 : R.1 7 = M.1 3 := hR.1.2.2.2.1
    have ht : 1 ≤ (R.1 7).toInt ∧ (R.1 7).toInt ≤ 99 := by rw [e7]; exact hR.2.1.2.2.2.1
    have fd := hg d (by omega)
    have hx := isC_id hR eI (f d) fd
    obtain ⟨k1, k2⟩ := kall_ok (f := f) (i := d + 1) (by omega) hD
    have em := mem_pre hn (show d < n by omega) h3 hO (show d < d + 1 by omega)
    have ena := nerve_pre hR hn (show d < n by omega) h3 hO
    have notlast : ¬ Int32.ofNat d = O.1 3 - 1 := by
      rw [h3, n_eq, n_sub (by rw [n_of (by omega), n_1]; omega) (by rw [n_of (by omega), n_1]; omega), n_of (by omega), n_of (by omega), n_1]
      omega
    have sl := st_le (P := P) (R := R) (n := n) (g := f) d
    have ebal := bal_eq (bal := bal) (by omega) (by omega) hbal
    have lb := LSm_b (fun c hc => (hL c hc).2) (k := kall f d) n (Nat.le_refl n)
    have sb := st_w (P := P) (n := n) (g := f) ht d
    have hfd := hL (f d) fd
    have hHB : HB P R n l f d = (st P R n f d).2.2 + LSm l (kall f d) n := rfl
    have v7f : vp_in (Int32.ofNat (f d)) 7 := nat_in (by omega) (by omega)
    have c1 : ¬ Int32.ofNat (f d) < 0 := by rw [n_lt, n_of (by omega), n_0]; omega
    have c2 : ¬ (7 : Int32) ≤ Int32.ofNat (f d) := by rw [n_le, n_of (by omega), n_7]; omega
    have c3 : Int32.ofNat d < 7 := by rw [n_lt, n_of (by omega), n_7]; omega
    have pnr : p_X2_nerveAt O R (Int32.ofNat d - 1) := ⟨p_memb, p_nerve hR _⟩
    have c6 : Int32.ofNat d + 1 < 7 := by rw [nat1 (by omega), n_lt, n_of (by omega), n_7]; omega
    have wm : ¬ Int32.ofNat n ≤ Int32.ofNat (d + 1) := by rw [nat_le (by omega) (by omega)]; omega
    rw [p_X2_search, v_X2_search, em, if_neg c1, if_neg c1, if_neg c2, if_neg c2, if_pos c3, if_pos c3, ena, if_neg notlast, if_pos c6, kk_def, kk_def, p_X7_lays, v_X7_lays, h0, if_neg wm, if_neg wm]
    have loop : ∀ (q b fl gl : Nat) (Ob Tb : oT) (Mb : mT) (Kb : Int), b + q = n → q < fl → q < gl → Ob.1 = O.1 → Ob.2 2 = O.2 2 → (∀ j, j < d + 1 → Ob.2 1 j = O.2 1 j) → CR M Mb → (∀ j, j < d + 1 → Mb.2.1 33 j = M.2.1 33 j) → FO n (R.1 7).toInt Tb Mb Kb → Kb ≤ K → (∀ g, DL g n → (∀ i, i < n → g i < n) → (∀ i, i < d + 1 → g i = f i) → g (d + 1) < b → Kb ≤ (st P R n g n).2.2) → p_X2_search_r P (v_X2_search P fc) (p_X2_search P fc) R fl Ob Tb (Int32.ofNat d) (Int32.ofNat (kall f (d + 1))) bal B (Int32.ofNat (f d)) 0 (na R f d) (Int32.ofNat b) ∧ p_X7_lays_r (v_X7_lays fm) (p_X7_lays fm) gl 0 Mb (Int32.ofNat (d + 1)) (Int32.ofNat (kall f (d + 1))) (Int32.ofNat b) ∧ ∃ O' T' M' K', v_X2_search_r P (v_X2_search P fc) R fl Ob Tb (Int32.ofNat d) (Int32.ofNat (kall f (d + 1))) bal B (Int32.ofNat (f d)) 0 (na R f d) (Int32.ofNat b) = (O', T') ∧ v_X7_lays_r (v_X7_lays fm) gl 0 Mb (Int32.ofNat (d + 1)) (Int32.ofNat (kall f (d + 1))) (Int32.ofNat b) = M' ∧ SR P R n d f O M K O' T' M' K' := by
      intro q
      induction q with
      | zero =>
        intro b fl gl Ob Tb Mb Kb hb hfl hgl o1 o2 o3 m1 m2 hFb hKb hOpt
        obtain ⟨fl, rfl⟩ : ∃ m, fl = m + 1 := ⟨fl - 1, by omega⟩
        obtain ⟨gl, rfl⟩ : ∃ m, gl = m + 1 := ⟨gl - 1, by omega⟩
        have wb : Int32.ofNat n ≤ Int32.ofNat b := by rw [nat_le (by omega) (by omega)]; omega
        rw [p_X2_search_r, v_X2_search_r, p_X7_lays_r, v_X7_lays_r, o1, h3, m1.1 0 (by omega), h0]
        simp only [n00f, if_true, eq_self, if_pos wb]
        exact ⟨trivial, trivial, Ob, Tb, Mb, Kb, rfl, rfl, o1, o2, o3, m1, m2, hFb, hKb, fun g g1 g2 g3 => hOpt g g1 g2 g3 (by have := g2 (d + 1) hd1; omega)⟩
      | succ q ihq =>
        intro b fl gl Ob Tb Mb Kb hb hfl hgl o1 o2 o3 m1 m2 hFb hKb hOpt
        obtain ⟨fl, rfl⟩ : ∃ m, fl = m + 1 := ⟨fl - 1, by omega⟩
        obtain ⟨gl, rfl⟩ : ∃ m, gl = m + 1 := ⟨gl - 1, by omega⟩
        have hbn : b < n := by omega
        have wb : ¬ Int32.ofNat n ≤ Int32.ofNat b := by rw [nat_le (by omega) (by omega)]; omega
        rw [p_X2_search_r, v_X2_search_r, p_X7_lays_r, v_X7_lays_r, o1, o2, h3, m1.1 0 (by omega), h0]
        simp only [n00f, if_true, eq_self, if_neg wb, kk_def]
        rw [nat1 (c := b) (by omega), nat1 (c := d) (by omega), nat1 (c := d + 1) (by omega), tn_of (k := f d) (by omega), tn_of (k := d + 1) (by omega), ebal]
        obtain ⟨b1, b0, b3⟩ := bits_all b (by omega) _ k1
        by_cases t : (kall f (d + 1)).testBit b = true
        · -- there already
          have g1 := b1.mpr t
          have g0 : ¬ ((Int32.ofNat (kall f (d + 1)) >>> (Int32.ofNat b &&& 31)) &&& 1) = 0 := by rw [g1]; decide
          simp only [if_neg g0, if_pos g1]
          obtain ⟨j1, j2, j3⟩ := ihq (b + 1) fl gl Ob Tb Mb Kb (by omega) (by omega) (by omega) o1 o2 o3 m1 m2 hFb hKb (fun g a1 a2 a3 a4 => by
            by_cases z : g (d + 1) = b
            · obtain ⟨j, h1, h2⟩ := (k2 b (by omega)).mp t
              have e1 : g j = g (d + 1) := by rw [a3 j h1, h2, z]
              have := a1.2 j (d + 1) (by omega) (by omega) e1
              omega
            · exact hOpt g a1 a2 a3 (by omega))
          exact ⟨⟨trivial, j1⟩, ⟨trivial, j2⟩, j3⟩
        · have t0 : (kall f (d + 1)).testBit b = false := by
            rcases hq : (kall f (d + 1)).testBit b with _ | _
            · rfl
            · exact absurd hq t
          have g0 := b0.mpr t0
          have g1 : ¬ ((Int32.ofNat (kall f (d + 1)) >>> (Int32.ofNat b &&& 31)) &&& 1) = 1 := fun e => t (b1.mp e)
          simp only [if_pos g0, if_neg g1]
          obtain ⟨b4, b5, -⟩ := b3 t0
          obtain ⟨e1, e2, e3⟩ := ext_ok (b := b) hn hd1 hD hg hbn t0
          rw [show ((1 : Int32) <<< (Int32.ofNat b &&& 31)) = bit1 b from rfl, b4, b5, ← e3]
          have ef : ∀ i, i ≤ d → ext f (d + 1) b i = f i := fun i hi => ext_ne (by omega)
          have es : st P R n (ext f (d + 1) b) d = st P R n f d := st_congr d (by omega) (fun i h1 _ => ef i h1)
          -- what he comes to
          have eo : v_X4_comesTo P R (Int32.ofNat (f d)) (na R f d) (v_X4_nerveOf R (Int32.ofNat b)) (Int32.ofNat ((st P R n f d).1 - (st P R n f d).2.1)) = oy P R n (ext f (d + 1) b) (st P R n (ext f (d + 1) b) d).1 (st P R n (ext f (d + 1) b) d).2.1 d := by
            rw [es]
            unfold oy
            have q1 : na R (ext f (d + 1) b) d = na R f d := by
              unfold na
              by_cases z : d = 0
              · rw [if_pos z, if_pos z]
              · rw [if_neg z, if_neg z, ef (d - 1) (by omega)]
            have q2 : nb R (ext f (d + 1) b) n d = v_X4_nerveOf R (Int32.ofNat b) := by
              unfold nb
              rw [if_neg (by omega), ext_at]
            rw [q1, q2, ef d (by omega)]
          have pcm := (goes_eq (sn := 0) hR hx (nb_m1 M) (nb_m1 M) (by decide)).2.2 (na R f d) (v_X4_nerveOf R (Int32.ofNat b)) (Int32.ofNat ((st P R n f d).1 - (st P R n f d).2.1))
          have hst := HB_step (l := l) (g := ext f (d + 1) b) hn (show d < n by omega) (e1.le (by omega)) (e2 d (by omega)) (P := P) (R := R)
          have hHc : HB P R n l (ext f (d + 1) b) d = HB P R n l f d := HB_congr (by omega) (fun i h1 _ => ef i h1) (fun i hi => ef i (by omega))
          rw [hHc, ef d (by omega)] at hst
          have hs2 : st P R n (ext f (d + 1) b) (d + 1) = ((st P R n f d).1 + (if oy P R n (ext f (d + 1) b) (st P R n (ext f (d + 1) b) d).1 (st P R n (ext f (d + 1) b) d).2.1 d = 1 then 1 else 0), (st P R n f d).2.1 + (if oy P R n (ext f (d + 1) b) (st P R n (ext f (d + 1) b) d).1 (st P R n (ext f (d + 1) b) d).2.1 d = 0 then 1 else 0), (st P R n f d).2.2 + (v_X4_weightOf R (oy P R n (ext f (d + 1) b) (st P R n (ext f (d + 1) b) d).1 (st P R n (ext f (d + 1) b) d).2.1 d)).toInt) := by
            rw [st, es]
          have wbd := weight_b (R := R) (y := oy P R n (ext f (d + 1) b) (st P R n (ext f (d + 1) b) d).1 (st P R n (ext f (d + 1) b) d).2.1 d) ht
          rw [eo]
          generalize hy : oy P R n (ext f (d + 1) b) (st P R n (ext f (d + 1) b) d).1 (st P R n (ext f (d + 1) b) d).2.1 d = y at *
          have eW : (B - O.2 2 (f d) + v_X4_weightOf R y).toInt = HB P R n l (ext f (d + 1) b) (d + 1) := by
            have e1 : (B - O.2 2 (f d)).toInt = B.toInt - l (f d) := by rw [n_sub (by omega) (by omega), hfd.1]
            rw [n_add (by rw [e1]; omega) (by rw [e1]; omega), e1, hst, hB]
          generalize hW : B - O.2 2 (f d) + v_X4_weightOf R y = W at *
          have pnb := p_nerve hR (Int32.ofNat b)
          have v7d : vp_in (Int32.ofNat (d + 1)) 7 := nat_in (by omega) (by omega)
          have m33 : ∀ j, j < d + 1 + 1 → (msa Mb 33 (upd (Mb.2.1 33) (d + 1) (Int32.ofNat b))).2.1 33 j = Int32.ofNat (ext f (d + 1) b j) := fun j hj => by
            rw [msa_at]
            by_cases z : j = d + 1
            · rw [z, upd_at, ext_at]
            · rw [upd_ne z, ext_ne z, m2 j (by omega)]; exact h33 j (by omega)
          have cr2 : CR M (msa Mb 33 (upd (Mb.2.1 33) (d + 1) (Int32.ofNat b))) := m1.tr (CLn.a _).r
          have hRb := RR_r cr2 hR
          have h36b : (msa Mb 33 (upd (Mb.2.1 33) (d + 1) (Int32.ofNat b))).1 36 = 0 := (cr2.1 36 (by omega)).trans h36
          have h0b : (msa Mb 33 (upd (Mb.2.1 33) (d + 1) (Int32.ofNat b))).1 0 = Int32.ofNat n := (cr2.1 0 (by omega)).trans h0
          by_cases lt : W < Tb.1 7
          · simp only [if_pos lt]
            have hbal2 : (bal + (if y = 1 then 1 else (if y = 0 then (-1) else 0))).toInt = ((st P R n (ext f (d + 1) b) (d + 1)).1 : Int) - ((st P R n (ext f (d + 1) b) (d + 1)).2.1 : Int) := by
              rw [hs2]
              show _ = (((st P R n f d).1 + (if y = 1 then 1 else 0) : Nat) : Int) - (((st P R n f d).2.1 + (if y = 0 then 1 else 0) : Nat) : Int)
              by_cases y1 : y = 1
              · have y0 : ¬ y = 0 := by rw [y1]; decide
                rw [if_pos y1, if_pos y1, if_neg y0, n_add (by rw [n_1]; omega) (by rw [n_1]; omega), n_1]
                omega
              · by_cases y0 : y = 0
                · rw [if_neg y1, if_neg y1, if_pos y0, if_pos y0, n_add (by rw [n_m1]; omega) (by rw [n_m1]; omega), n_m1]
                  omega
                · rw [if_neg y1, if_neg y1, if_neg y0, if_neg y0, n_add (by rw [n_0]; omega) (by rw [n_0]; omega), n_0]
                  omega
            obtain ⟨l1, l2, O2, T2, M2, K2, l3, l4, s1, s2, s3, s4, s5, s6, s7, s8⟩ := ih (d + 1) (ext f (d + 1) b) fc fm (osa Ob 1 (upd (Ob.2 1) (d + 1) (Int32.ofNat b))) Tb (msa Mb 33 (upd (Mb.2.1 33) (d + 1) (Int32.ofNat b))) W (bal + (if y = 1 then 1 else (if y = 0 then (-1) else 0))) Kb (by omega) (by omega) (by omega) hRb h36b h0b ((congrFun o1 3).trans h3) e1 e2 (fun j hj => by
              rw [osa_at]
              by_cases z : j = d + 1
              · rw [z, upd_at, ext_at]
              · rw [upd_ne z, ext_ne z, o3 j (by omega)]; exact hO j (by omega)) m33 (fun c hc => by
              rw [osa_ne (by decide), o2]; exact hL c hc) hbal2 eW ⟨hFb.1, hFb.2.1, hFb.2.2.1, fun hk j hj => by rw [msa_ne (by decide)]; exact hFb.2.2.2.1 hk j hj, hFb.2.2.2.2⟩
            rw [l3, l4]
            obtain ⟨j1, j2, j3⟩ := ihq (b + 1) fl gl O2 T2 M2 K2 (by omega) (by omega) (by omega) (s1.trans o1) (s2.trans ((osa_ne (by decide)).trans o2)) (fun j hj => by rw [s3 j (by omega), osa_at, upd_ne (by omega)]; exact o3 j hj) (cr2.tr s4) (fun j hj => by rw [s5 j (by omega), msa_at, upd_ne (by omega)]; exact m2 j hj) s6 (by omega) (fun g a1 a2 a3 a4 => by
              by_cases z : g (d + 1) = b
              · refine s8 g a1 a2 (fun i hi => ?_)
                by_cases y : i = d + 1
                · rw [y, ext_at]; exact z
                · rw [ext_ne y]; exact a3 i (by omega)
              · have := hOpt g a1 a2 a3 (by omega)
                omega)
            exact ⟨⟨⟨pnb, pcm, v7f, v7d, l1⟩, j1⟩, ⟨⟨v7d, l2⟩, j2⟩, j3⟩
          · simp only [if_neg lt]
            rw [n_lt, eW, hFb.2.1] at lt
            have hopt : ∀ g, DL g n → (∀ i, i < n → g i < n) → (∀ i, i < d + 1 + 1 → g i = ext f (d + 1) b i) → Kb ≤ (st P R n g n).2.2 := fun g a1 a2 a3 => by
              have h1 := HB_mono hn hl a1 a2 (n - (d + 1)) (d + 1) (by omega)
              rw [HB_congr (show d + 1 ≤ n by omega) (fun i h1 _ => a3 i (by omega)) (fun i hi => a3 i (by omega))] at h1
              omega
            obtain ⟨l1, M2, l2, l3⟩ := lays_no (P := P) (R := R) hn (K := Kb) r (d + 1 + 1) (ext f (d + 1) b) fm (msa Mb 33 (upd (Mb.2.1 33) (d + 1) (Int32.ofNat b))) (by omega) (by omega) hRb h36b h0b e1 m33 e2 hFb.2.2.1 hopt
            rw [l2]
            obtain ⟨j1, j2, j3⟩ := ihq (b + 1) fl gl Ob Tb M2 Kb (by omega) (by omega) (by omega) o1 o2 o3 (cr2.tr l3.1) (fun j hj => by rw [l3.2.1 j (by omega), msa_at, upd_ne (by omega)]; exact m2 j hj) ⟨hFb.1, hFb.2.1, l3.bk hFb.2.2.1, fun hk j hj => by rw [l3.2.2.2.2, msa_ne (by decide)]; exact hFb.2.2.2.1 hk j hj, hFb.2.2.2.2⟩ hKb (fun g a1 a2 a3 a4 => by
              by_cases z : g (d + 1) = b
              · refine hopt g a1 a2 (fun i hi => ?_)
                by_cases y : i = d + 1
                · rw [y, ext_at]; exact z
                · rw [ext_ne y]; exact a3 i (by omega)
              · exact hOpt g a1 a2 a3 (by omega))
            exact ⟨⟨⟨pnb, pcm, v7f, trivial⟩, j1⟩, ⟨⟨v7d, l1⟩, j2⟩, j3⟩
    obtain ⟨j1, j2, j3⟩ := loop n 0 200 200 O T M K (by omega) (by omega) (by omega) rfl rfl (fun _ _ => rfl) (CR.rf M) (fun _ _ => rfl) hF (Int.le_refl K) (fun g _ _ _ h => absurd h (by omega))
    exact ⟨⟨p_memb, pnr, j1⟩, j2, j3⟩
end
