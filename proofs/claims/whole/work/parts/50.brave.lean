/-! brave; status; painted -/
theorem nat1 {c : Nat} (h : c < 1000) : Int32.ofNat c + 1 = Int32.ofNat (c + 1) := by
  rw [n_eq, n_add (by rw [n_of (by omega), n_1]; omega) (by rw [n_of (by omega), n_1]; omega), n_of (by omega), n_of (by omega), n_1]
  omega
theorem nat_le {c d : Nat} (hc : c < 1000) (hd : d < 1000) : Int32.ofNat c ≤ Int32.ofNat d ↔ c ≤ d := by
  rw [n_le, n_of (by omega), n_of (by omega)]
  omega
/-- how many comers there are -/
theorem RD.e0 {P : pT} {R : rT} {D : Nat → Nat → Int32} {E : Nat → Int32} (h : RD P R D E) : ∃ e, e ≤ 7 ∧ E 0 = Int32.ofNat e ∧ R.1 4 = Int32.ofNat e ∧ (E 0).toInt = (e : Int) := by
  have h7 := h.2.1.1
  refine ⟨(E 0).toNatClampNeg, by rw [n_tn]; omega, ?_, ?_, by rw [n_tn]; omega⟩
  · rw [n_eq, n_of (by rw [n_tn]; omega), n_tn]; omega
  · rw [h.1.1, n_eq, n_of (by rw [n_tn]; omega), n_tn]; omega
section
variable {P : pT} {N : nT} {R Q : rT} {V : vT} {F : fT} {M : mT}
theorem brave_loop (h : RR P R M) {e : Nat} (he : e ≤ 7) (hE : M.1 0 = Int32.ofNat e) (hR : R.1 4 = Int32.ofNat e) (hI : (M.1 0).toInt = (e : Int)) : ∀ (n c k : Nat), c ≤ e → k < 2 ^ c → e - c < n → p_X6_brave_r P R n N (Int32.ofNat k) (Int32.ofNat c) ∧ p_X7_brave_r n M (Int32.ofNat k) (Int32.ofNat c) ∧ (v_X6_brave_r P R n N (Int32.ofNat k) (Int32.ofNat c)).1 = (v_X7_brave_r n M (Int32.ofNat k) (Int32.ofNat c)).1 ∧ (v_X6_brave_r P R n N (Int32.ofNat k) (Int32.ofNat c)).2 = N ∧ (v_X7_brave_r n M (Int32.ofNat k) (Int32.ofNat c)).2 = M := by
  intro n
  induction n with
  | zero => intro c k h1 h2 h3; omega
  | succ n ih =>
    intro c k h1 h2 h3
    rw [p_X6_brave_r, p_X7_brave_r, v_X6_brave_r, v_X7_brave_r, hE, hR]
    by_cases q : c = e
    · have w : Int32.ofNat e ≤ Int32.ofNat c := by rw [nat_le (by omega) (by omega)]; omega
      simp only [w, if_true]
      exact ⟨trivial, trivial, by trivial, by trivial, by trivial⟩
    · have w : ¬ Int32.ofNat e ≤ Int32.ofNat c := by rw [nat_le (by omega) (by omega)]; omega
      simp only [w, if_false, kk]
      obtain ⟨hx, ex⟩ := isC_nat h (c := c) (by rw [hI]; omega)
      have sc := SC_of h hx
      have nv : v_X4_nerveOf R (Int32.ofNat c) = M.2.1 11 (Int32.ofNat c).toNatClampNeg := nerve_in h hx
      rw [nv, fogs_eq sc]
      obtain ⟨b1, b2, b3⟩ := bits_low c (by omega) k h2
      obtain ⟨-, -, b4⟩ := bits_all c (by omega) k b3
      obtain ⟨b5, b6, b7⟩ := b4 b1
      have hp := p_nerve h (Int32.ofNat c)
      have hf := p_fogsx sc (M.2.1 11 (Int32.ofNat c).toNatClampNeg)
      have hm := p_fogsm sc
      rw [nat1 (by omega)]
      by_cases z : v_X7_fogsOf M (Int32.ofNat c) = 0
      · simp only [z, if_true]
        rw [show Int32.ofNat k ||| (1 : Int32) <<< (Int32.ofNat c &&& 31) = Int32.ofNat (k + 2 ^ c) from b5, show Int32.ofNat k + (1 : Int32) <<< (Int32.ofNat c &&& 31) = Int32.ofNat (k + 2 ^ c) from b6]
        obtain ⟨i1, i2, i3⟩ := ih (c + 1) (k + 2 ^ c) (by omega) b2 (by omega)
        exact ⟨⟨hp, hf, i1⟩, ⟨hm, i2⟩, i3⟩
      · simp only [z, if_false]
        obtain ⟨i1, i2, i3⟩ := ih (c + 1) k (by omega) (by omega) (by omega)
        exact ⟨⟨hp, hf, i1⟩, ⟨hm, i2⟩, i3⟩
theorem op_brave (h : RA P N R Q V F M) (x1 : Int32) : p_X6_brave P N R x1 ∧ p_X7_brave M x1 ∧ (v_X6_brave P N R x1).1 = (v_X7_brave M x1).1 ∧ RA P (v_X6_brave P N R x1).2 R Q V F (v_X7_brave M x1).2 := by
  have n1 : p_X7_no M (-1) := p_no (b := 1) (by decide) (by decide)
  have r1 := RA_refuse h (b := 1) (by decide) (by decide)
  have pa := p_has h.2.2.1 x1
  unfold p_X6_brave p_X7_brave v_X6_brave v_X7_brave
  simp only [kk]
  by_cases c0 : x1 = -1
  · simp only [c0, if_true]
    obtain ⟨e, he, hE, hR, hI⟩ := h.2.2.1.e0
    obtain ⟨i1, i2, i3, i4, i5⟩ := brave_loop (N := N) h.2.2.1 he hE hR hI 200 0 0 (by omega) (by decide) (by omega)
    refine ⟨i1, i2, i3, ?_⟩
    rw [show v_X6_brave_r P R 200 N 0 0 = v_X6_brave_r P R 200 N (Int32.ofNat 0) (Int32.ofNat 0) from rfl, show v_X7_brave_r 200 M 0 0 = v_X7_brave_r 200 M (Int32.ofNat 0) (Int32.ofNat 0) from rfl, i4, i5]
    exact h
  · simp only [c0, if_false]
    by_cases hx : isC M.1 x1
    · obtain ⟨w1, w2, w3⟩ := hasne h hx
      have sc := SC_of h.2.2.1 hx
      simp only [w1, w2, if_false]
      refine ⟨⟨pa, w3, p_fogsx sc _⟩, p_fogsm sc, ?_, h⟩
      rw [(h.2.2.1.cm hx).2.1.1]
      exact fogs_eq sc
    · obtain ⟨w1, w2⟩ := has0 h hx
      simp only [w1, w2, if_true]
      exact ⟨⟨pa, p_refuse N 1⟩, n1, r1⟩
/-! status -/
theorem tog1_loop (h : RR P R M) {e : Nat} (he : e ≤ 7) (hE : M.1 0 = Int32.ofNat e) (hR : R.1 4 = Int32.ofNat e) (hI : (M.1 0).toInt = (e : Int)) : ∀ (n c : Nat) (s : Int32), c ≤ e → e - c < n → p_X4_together_1_r R n s (Int32.ofNat c) ∧ p_X7_together_r M 11 n s (Int32.ofNat c) ∧ v_X4_together_1_r R n s (Int32.ofNat c) = v_X7_together_r M 11 n s (Int32.ofNat c) := by
  intro n
  induction n with
  | zero => intro c s h1 h3; omega
  | succ n ih =>
    intro c s h1 h3
    rw [p_X4_together_1_r, p_X7_together_r, v_X4_together_1_r, v_X7_together_r, hE, hR]
    by_cases q : c = e
    · have w : Int32.ofNat e ≤ Int32.ofNat c := by rw [nat_le (by omega) (by omega)]; omega
      simp only [w, if_true]
      exact ⟨trivial, trivial, by trivial⟩
    · have w : ¬ Int32.ofNat e ≤ Int32.ofNat c := by rw [nat_le (by omega) (by omega)]; omega
      have w7 : ¬ (7 : Int32) ≤ Int32.ofNat c := by rw [show (7 : Int32) = Int32.ofNat 7 from rfl, nat_le (by omega) (by omega)]; omega
      simp only [w, w7, if_false]
      obtain ⟨hx, ex⟩ := isC_nat h (c := c) (by rw [hI]; omega)
      have b := (h.cm hx).2.1.1
      have b' : R.2.1 1 (Int32.ofNat c).toNatClampNeg = M.2.1 11 (Int32.ofNat c).toNatClampNeg := b
      rw [b', nat1 (by omega)]
      obtain ⟨i1, i2, i3⟩ := ih (c + 1) (s + M.2.1 11 (Int32.ofNat c).toNatClampNeg) (by omega) (by omega)
      exact ⟨⟨h.vp hx, i1⟩, ⟨Or.inr (Or.inr (Or.inl rfl)), h.vp hx, i2⟩, i3⟩
theorem tog2_loop (h : RR P R M) {e : Nat} (he : e ≤ 7) (hE : M.1 0 = Int32.ofNat e) (hR : R.1 4 = Int32.ofNat e) (hI : (M.1 0).toInt = (e : Int)) : ∀ (n c : Nat) (s : Int32), c ≤ e → e - c < n → p_X4_together_2_r R n s (Int32.ofNat c) ∧ p_X7_together_r M 14 n s (Int32.ofNat c) ∧ v_X4_together_2_r R n s (Int32.ofNat c) = v_X7_together_r M 14 n s (Int32.ofNat c) := by
  intro n
  induction n with
  | zero => intro c s h1 h3; omega
  | succ n ih =>
    intro c s h1 h3
    rw [p_X4_together_2_r, p_X7_together_r, v_X4_together_2_r, v_X7_together_r, hE, hR]
    by_cases q : c = e
    · have w : Int32.ofNat e ≤ Int32.ofNat c := by rw [nat_le (by omega) (by omega)]; omega
      simp only [w, if_true]
      exact ⟨trivial, trivial, by trivial⟩
    · have w : ¬ Int32.ofNat e ≤ Int32.ofNat c := by rw [nat_le (by omega) (by omega)]; omega
      have w7 : ¬ (7 : Int32) ≤ Int32.ofNat c := by rw [show (7 : Int32) = Int32.ofNat 7 from rfl, nat_le (by omega) (by omega)]; omega
      simp only [w, w7, if_false]
      obtain ⟨hx, ex⟩ := isC_nat h (c := c) (by rw [hI]; omega)
      have b := (h.cm hx).2.1.2.1
      have b' : R.2.1 2 (Int32.ofNat c).toNatClampNeg = M.2.1 14 (Int32.ofNat c).toNatClampNeg := b
      rw [b', nat1 (by omega)]
      obtain ⟨i1, i2, i3⟩ := ih (c + 1) (s + M.2.1 14 (Int32.ofNat c).toNatClampNeg) (by omega) (by omega)
      exact ⟨⟨h.vp hx, i1⟩, ⟨Or.inr (Or.inr (Or.inr (Or.inr (Or.inr (Or.inl rfl))))), h.vp hx, i2⟩, i3⟩
theorem op_status (h : RA P N R Q V F M) (x : Int32) : p_X6_status N R V x ∧ p_X7_status M x ∧ v_X6_status N R V x = (v_X7_status M x).1 ∧ RA P N R Q V F (v_X7_status M x).2 := by
  obtain ⟨e, he, hE, hR, hI⟩ := h.2.2.1.e0
  obtain ⟨t1, t2, t3⟩ := tog1_loop h.2.2.1 he hE hR hI 200 0 0 (by omega) (by omega)
  obtain ⟨u1, u2, u3⟩ := tog2_loop h.2.2.1 he hE hR hI 200 0 0 (by omega) (by omega)
  have t3' : v_X4_together_1 R = v_X7_together M 11 := t3
  have u3' : v_X4_together_2 R = v_X7_together M 14 := u3
  have t1' : p_X4_together_1 R := t1
  have u1' : p_X4_together_2 R := u1
  have t2' : p_X7_together M 11 := t2
  have u2' : p_X7_together M 14 := u2
  obtain ⟨⟨a4, a5, a6, a7, a8, a9, a10⟩, -⟩ := h.2.2.1
  have hv := h.2.2.2.2.1.1
  unfold p_X6_status p_X7_status v_X6_status v_X7_status
  by_cases c0 : x = 0
  · simp +decide only [c0, if_true, if_false]; exact ⟨trivial, trivial, a4, h⟩
  by_cases c1 : x = 1
  · simp +decide only [c1, if_true, if_false]; exact ⟨trivial, trivial, a5, h⟩
  by_cases c2 : x = 2
  · simp +decide only [c2, if_true, if_false]; exact ⟨trivial, trivial, a6, h⟩
  by_cases c3 : x = 3
  · simp +decide only [c3, if_true, if_false]; exact ⟨trivial, trivial, a7, h⟩
  by_cases c4 : x = 4
  · simp +decide only [c4, if_true, if_false]; exact ⟨trivial, trivial, a8, h⟩
  by_cases c5 : x = 5
  · simp +decide only [c5, if_true, if_false]; exact ⟨trivial, trivial, a9, h⟩
  by_cases c6 : x = 6
  · simp +decide only [c6, if_true, if_false]; exact ⟨t1', t2', t3', h⟩
  by_cases c7 : x = 7
  · simp +decide only [c7, if_true, if_false]; exact ⟨u1', u2', u3', h⟩
  by_cases c8 : x = 8
  · simp +decide only [c8, if_true, if_false]; exact ⟨trivial, trivial, a10, h⟩
  by_cases c9 : x = 9
  · simp +decide only [c9, if_true, if_false]; exact ⟨trivial, trivial, hv, h⟩
  by_cases d : x < 11
  · have w : v_X6_within x 11 17 = 0 := by rw [within_iff]; rw [n_lt] at d; omega
    simp +decide only [c0, c1, c2, c3, c4, c5, c6, c7, c8, c9, d, w, if_true, if_false]
    exact ⟨trivial, trivial, by trivial, h⟩
  · by_cases d2 : 17 < x
    · have w : v_X6_within x 11 17 = 0 := by rw [within_iff]; rw [n_lt] at d2; omega
      simp +decide only [c0, c1, c2, c3, c4, c5, c6, c7, c8, c9, d, d2, w, if_true, if_false]
      exact ⟨trivial, trivial, by trivial, h⟩
    · have w : ¬ v_X6_within x 11 17 = 0 := by rw [within_iff]; rw [n_lt] at d d2; omega
      simp +decide only [c0, c1, c2, c3, c4, c5, c6, c7, c8, c9, d, d2, w, if_true, if_false]
      rw [n_lt, show (11 : Int32).toInt = 11 from rfl] at d
      rw [n_lt, show (17 : Int32).toInt = 17 from rfl] at d2
      have e : (x - 10).toInt = x.toInt - 10 := by rw [n_sub (by rw [n_10]; omega) (by rw [n_10]; omega), n_10]
      have v8 : vp_in (x - 10) 8 := by rw [vp_iff, e]; omega
      refine ⟨v8, v8, h.1.1 _ (by rw [n_tn, e]; omega), h⟩
end
