/-! ask, tell, comerOf, looks, seed, trace, rest -/
section
variable {P : pT} {N : nT} {R Q : rT} {V : vT} {F : fT} {M : mT}
/-- the road has changed, and in the reference what belongs to it -/
theorem RA_road (h : RA P N R Q V F M) {R' : rT} {M' : mT} (e1 : ∀ i, (i = 7 ∨ i = 36 ∨ i = 43 ∨ i = 44) → M'.1 i = M.1 i) (e0 : ∀ x, isC M.1 x → isC M'.1 x) (e2 : ∀ j, (j = 8 ∨ (16 ≤ j ∧ j < 25) ∨ j = 32 ∨ j = 42) → M'.2.1 j = M.2.1 j) (e3 : M'.2.2 20 = M.2.2 20) (hR : RR P R' M') : RA P N R' Q V F M' := by
  obtain ⟨⟨n1, n2, n3, n4⟩, hF, -, hQ, ⟨v1, v2, v3⟩, ⟨c1, c2, c3, c4⟩⟩ := h
  refine ⟨⟨fun j hj => by rw [e2 8 (by decide)]; exact n1 j hj, n2.trans (e1 7 (by decide)).symm, n3.trans (e1 44 (by decide)).symm, n4⟩, fun s hs => ?_, hR, fun hi => RD_congr (fun j _ c _ => by show M'.2.1 32 _ = _; rw [e2 32 (by decide)]) (fun i _ => by show M'.2.1 32 _ = _; rw [e2 32 (by decide)]) (hQ hi), ⟨v1.trans (e1 43 (by decide)).symm, by rw [e1 43 (by decide)]; exact v2, fun i hi hl => by rw [e1 43 (by decide)] at hl; rw [e2 42 (by decide)]; exact v3 i hi hl⟩, ⟨(e1 36 (by decide)).trans c1, fun i hi => by rw [e2 22 (by decide)]; exact c2 i hi, fun i hi => by rw [e2 23 (by decide)]; exact c3 i hi, fun i hi => by rw [e2 24 (by decide)]; exact c4 i hi⟩⟩
  rcases hF s hs with ⟨a, b, c⟩ | ⟨a, b, c, d, e, f⟩ | ⟨a, b, c, d⟩
  · exact Or.inl ⟨by rw [e2 16 (by decide)]; exact a, b, c⟩
  · exact Or.inr (Or.inl ⟨by rw [e2 16 (by decide)]; exact a, by rw [e2 17 (by decide)]; exact b, by rw [e2 17 (by decide)]; exact c, by rw [e2 18 (by decide)]; exact d, by rw [e2 18 (by decide)]; exact e, fun i hi => by rw [e2 18 (by decide)] at hi; rw [e3]; exact f i hi⟩)
  · exact Or.inr (Or.inr ⟨by rw [e2 16 (by decide)]; exact a, by rw [e2 19 (by decide)]; exact b, by rw [e2 19 (by decide)]; exact e0 _ c, d⟩)
/-- one setting -/
theorem RD_set {D : Nat → Nat → Int32} {E : Nat → Int32} (k : Nat) (hk : 1 ≤ k ∧ k ≤ 6) (v : Int32) (hv : OKe (va_up E k v)) (h : RD P R D E) : RD P (rsf R (4 + k) v) D (va_up E k v) := by
  obtain ⟨⟨a4, a5, a6, a7, a8, a9, a10⟩, hok, hc, hq⟩ := h
  have key : ∀ i, i < 7 → R.1 (4 + i) = E i → (rsf R (4 + k) v).1 (4 + i) = va_up E k v i := fun i _ e => by
    show va_up R.1 (4 + k) v (4 + i) = _
    by_cases q : i = k
    · subst q; rw [up_at, up_at]
    · rw [up_ne (by omega), up_ne q]; exact e
  refine ⟨⟨key 0 (by decide) a4, key 1 (by decide) a5, key 2 (by decide) a6, key 3 (by decide) a7, key 4 (by decide) a8, key 5 (by decide) a9, key 6 (by decide) a10⟩, hv, fun c hlt => hc c ?_, hq⟩
  rw [up_ne (by omega)] at hlt
  exact hlt
theorem RA_set (h : RA P N R Q V F M) (k : Nat) (hk : 1 ≤ k ∧ k ≤ 6) (v : Int32) (hv : OKe (va_up M.1 k v)) : RA P N (rsf R (4 + k) v) Q V F (msf M k v) := by
  refine RA_road h (fun i hi => up_ne (by omega)) (fun x hx => ?_) (fun _ _ => rfl) rfl (RD_set k hk v hv h.2.2.1)
  unfold isC at hx ⊢
  show 0 ≤ x.toInt ∧ x.toInt < (va_up M.1 k v 0).toInt
  rw [up_ne (by omega)]
  exact hx
theorem OKe_up {E : Nat → Int32} (h : OKe E) {k : Nat} {v : Int32} (hk : k = 1 ∧ (1 ≤ v.toInt ∧ v.toInt ≤ 20) ∨ k = 2 ∧ (0 ≤ v.toInt ∧ v.toInt ≤ 9) ∨ k = 3 ∧ (1 ≤ v.toInt ∧ v.toInt ≤ 99) ∨ k = 4 ∧ (1 ≤ v.toInt ∧ v.toInt ≤ 99) ∨ k = 5 ∨ k = 6) : OKe (va_up E k v) := by
  obtain ⟨h0, h1, h2, h3, h4⟩ := h
  rcases hk with ⟨rfl, b⟩ | ⟨rfl, b⟩ | ⟨rfl, b⟩ | ⟨rfl, b⟩ | rfl | rfl
  · exact ⟨h0, b, h2, h3, h4⟩
  · exact ⟨h0, h1, b, h3, h4⟩
  · exact ⟨h0, h1, h2, b, h4⟩
  · exact ⟨h0, h1, h2, h3, b⟩
  · exact ⟨h0, h1, h2, h3, h4⟩
  · exact ⟨h0, h1, h2, h3, h4⟩
theorem op_seed (h : RA P N R Q V F M) (x : Int32) : (v_X6_seed N R x).1 = (v_X7_seed M x).1 ∧ RA P N (v_X6_seed N R x).2 Q V F (v_X7_seed M x).2 :=
  ⟨h.2.2.1.1.2.2.2.2.2.2, RA_set h 6 (by decide) x (OKe_up h.E (by simp))⟩
theorem wneg {x a b : Int32} (h : ¬ v_X6_within x a b = 0) : a.toInt ≤ x.toInt ∧ x.toInt ≤ b.toInt := by
  rw [within_iff] at h
  omega
theorem op_ask (h : RA P N R Q V F M) (x1 x2 : Int32) : p_X6_ask N R x1 x2 ∧ p_X7_ask M x1 x2 ∧ (v_X6_ask N R x1 x2).1 = (v_X7_ask M x1 x2).1 ∧ RA P (v_X6_ask N R x1 x2).2.1 (v_X6_ask N R x1 x2).2.2 Q V F (v_X7_ask M x1 x2).2 := by
  have r6 := RA_refuse h (b := 6) (by decide) (by decide)
  have p6 := p_refuse N 6
  have n6 : p_X7_no M (-6) := p_no (b := 6) (by decide) (by decide)
  obtain ⟨a4, a5, a6, a7, a8, a9, a10⟩ := h.2.2.1.1
  unfold p_X6_ask p_X7_ask v_X6_ask v_X7_ask v_X7_asks v_X7_asked v_X7_isAsked
  simp only [kk, from_eq]
  by_cases c0 : x1 = 0
  · subst c0
    simp +decide only [if_true, if_false]
    by_cases w : v_X6_within x2 1 20 = 0
    · simp +decide only [w, if_true, if_false]
      exact ⟨p6, n6, r6⟩
    · simp +decide only [w, if_true, if_false]
      exact ⟨trivial, trivial, a5, RA_set h 1 (by decide) x2 (OKe_up h.E (Or.inl ⟨rfl, wneg w⟩))⟩
  by_cases c1 : x1 = 1
  · subst c1
    simp +decide only [if_true, if_false]
    by_cases w : v_X6_within x2 0 9 = 0
    · simp +decide only [w, if_true, if_false]
      exact ⟨p6, n6, r6⟩
    · simp +decide only [w, if_true, if_false]
      exact ⟨trivial, trivial, a6, RA_set h 2 (by decide) x2 (OKe_up h.E (Or.inr (Or.inl ⟨rfl, wneg w⟩)))⟩
  by_cases c2 : x1 = 2
  · subst c2
    simp +decide only [if_true, if_false]
    by_cases w : v_X6_within x2 1 99 = 0
    · simp +decide only [w, if_true, if_false]
      exact ⟨p6, n6, r6⟩
    · simp +decide only [w, if_true, if_false]
      exact ⟨trivial, trivial, a7, RA_set h 3 (by decide) x2 (OKe_up h.E (Or.inr (Or.inr (Or.inl ⟨rfl, wneg w⟩))))⟩
  by_cases c3 : x1 = 3
  · subst c3
    simp +decide only [if_true, if_false]
    by_cases w : v_X6_within x2 1 99 = 0
    · simp +decide only [w, if_true, if_false]
      exact ⟨p6, n6, r6⟩
    · simp +decide only [w, if_true, if_false]
      exact ⟨trivial, trivial, a8, RA_set h 4 (by decide) x2 (OKe_up h.E (Or.inr (Or.inr (Or.inr (Or.inl ⟨rfl, wneg w⟩)))))⟩
  simp +decide only [c0, c1, c2, c3, if_true, if_false]
  by_cases d : x1 < 0
  · simp +decide only [d, if_true, if_false]
    exact ⟨p6, n6, r6⟩
  · have d3 : 3 < x1 := by
      rw [n_eq] at c0 c1 c2 c3
      rw [n_lt] at d ⊢
      rw [n_0] at c0 d; rw [n_1] at c1; rw [n_2] at c2; rw [n_3] at c3 ⊢
      omega
    simp +decide only [d, d3, if_true, if_false]
    exact ⟨p6, n6, r6⟩
/-- one number of one comer: row a of the road, row b of the reference -/
theorem RA_tell (h : RA P N R Q V F M) {x : Int32} (hx : isC M.1 x) (a b : Nat) (hab : (a = 1 ∧ b = 2) ∨ (a = 2 ∧ b = 5) ∨ (a = 3 ∧ b = 6)) (v : Int32) (hv : ∀ D : Nat → Nat → Int32, OKc D x.toNatClampNeg → OKc (va_up D b (upd (D b) x.toNatClampNeg v)) x.toNatClampNeg) : RA P N (rsa R a (upd (R.2.1 a) x.toNatClampNeg v)) Q V F (msa M (9 + b) (upd (M.2.1 (9 + b)) x.toNatClampNeg v)) := by
  have hR := h.2.2.1
  refine RA_road h (fun _ _ => rfl) (fun _ hx => hx) (fun j hj => up_ne (by omega)) rfl ?_
  obtain ⟨a0, hok, hc, hq⟩ := hR
  refine ⟨a0, hok, fun c hlt => ?_, hq⟩
  have hlt' : (c : Int) < (M.1 0).toInt := hlt
  obtain ⟨⟨q, q1, q2, q3⟩, ⟨r1, r2, r3⟩, ok⟩ := hc c hlt'
  have hD : ∀ j, mD (msa M (9 + b) (upd (M.2.1 (9 + b)) x.toNatClampNeg v)) j = va_up (mD M) b (upd (mD M b) x.toNatClampNeg v) j := fun j => by
    show va_up M.2.1 (9 + b) _ (9 + j) = _
    by_cases e : j = b
    · subst e; rw [up_at, up_at]
    · rw [up_ne (by omega), up_ne e]
  have hb : 2 ≤ b ∧ b ≤ 6 ∧ b ≠ 3 ∧ b ≠ 4 := by omega
  refine ⟨⟨q, q1, q2, ?_⟩, ?_, ?_⟩
  · rw [hD 0, hD 1, hD 3, hD 4, up_ne (by omega), up_ne (by omega), up_ne (by omega), up_ne (by omega)]
    exact q3
  · rw [hD 2, hD 5, hD 6]
    show va_up R.2.1 a _ 1 c = _ ∧ va_up R.2.1 a _ 2 c = _ ∧ va_up R.2.1 a _ 3 c = _
    rcases hab with ⟨rfl, rfl⟩ | ⟨rfl, rfl⟩ | ⟨rfl, rfl⟩
    · refine ⟨?_, r2, r3⟩
      rw [up_at, up_at]
      by_cases e : c = x.toNatClampNeg
      · rw [e, upd_at, upd_at]
      · rw [upd_ne e, upd_ne e]; exact r1
    · refine ⟨r1, ?_, r3⟩
      rw [up_at, up_at]
      by_cases e : c = x.toNatClampNeg
      · rw [e, upd_at, upd_at]
      · rw [upd_ne e, upd_ne e]; exact r2
    · refine ⟨r1, r2, ?_⟩
      rw [up_at, up_at]
      by_cases e : c = x.toNatClampNeg
      · rw [e, upd_at, upd_at]
      · rw [upd_ne e, upd_ne e]; exact r3
  · have e' : OKc (va_up (mD M) b (upd (mD M b) x.toNatClampNeg v)) c := by
      by_cases e : c = x.toNatClampNeg
      · rw [e] at ok ⊢; exact hv _ ok
      · refine OKc_congr (D := mD M) (fun j hj => ?_) ok
        by_cases e2 : j = b
        · subst e2; rw [up_at, upd_ne e]
        · rw [up_ne e2]
    exact OKc_congr (fun j hj => by rw [hD j]) e'
theorem hasne (h : RA P N R Q V F M) {x : Int32} (hx : isC M.1 x) : ¬ v_X4_has R x = 0 ∧ ¬ v_X7_isComer M x = 0 ∧ vp_in x 7 := ⟨by rw [has_iff h.2.2.1]; exact fun q => q hx, by rw [mcomer_iff]; exact fun q => q hx, h.2.2.1.vp hx⟩
theorem has0 (h : RA P N R Q V F M) {x : Int32} (hx : ¬ isC M.1 x) : v_X4_has R x = 0 ∧ v_X7_isComer M x = 0 := ⟨by rw [has_iff h.2.2.1]; exact hx, by rw [mcomer_iff]; exact hx⟩
theorem op_tell (h : RA P N R Q V F M) (x1 x2 x3 : Int32) : p_X6_tell N R x1 x2 x3 ∧ p_X7_tell M x1 x2 x3 ∧ (v_X6_tell N R x1 x2 x3).1 = (v_X7_tell M x1 x2 x3).1 ∧ RA P (v_X6_tell N R x1 x2 x3).2.1 (v_X6_tell N R x1 x2 x3).2.2 Q V F (v_X7_tell M x1 x2 x3).2 := by
  have r6 := RA_refuse h (b := 6) (by decide) (by decide)
  have p6 := p_refuse N 6
  have n6 : p_X7_no M (-6) := p_no (b := 6) (by decide) (by decide)
  have ph := p_has h.2.2.1 x1
  unfold p_X6_tell p_X7_tell v_X6_tell v_X7_tell
  simp only [kk, from_eq]
  by_cases hx : isC M.1 x1
  · obtain ⟨w1, w2, w3⟩ := hasne h hx
    obtain ⟨-, ⟨r1, r2, r3⟩, -⟩ := h.2.2.1.cm hx
    simp +decide only [w1, w2, if_true, if_false]
    by_cases c0 : x2 = 0
    · subst c0
      simp +decide only [if_true, if_false]
      by_cases w : v_X6_within x3 0 30 = 0
      · simp +decide only [w, if_true, if_false]
        exact ⟨⟨ph, p6⟩, n6, r6⟩
      · simp +decide only [w, if_true, if_false]
        refine ⟨⟨ph, w3, w3⟩, ⟨w3, w3⟩, r1, RA_tell h hx 1 2 (by decide) x3 (fun D ok => ?_)⟩
        obtain ⟨k0, k1, k2, k3, k4, k5, k6⟩ := ok
        refine ⟨k0, k1, ?_, k3, k4, k5, k6⟩
        rw [up_at, upd_at]; exact wneg w
    by_cases c1 : x2 = 1
    · subst c1
      simp +decide only [if_true, if_false]
      by_cases w : v_X6_within x3 0 999 = 0
      · simp +decide only [w, if_true, if_false]
        exact ⟨⟨ph, p6⟩, n6, r6⟩
      · simp +decide only [w, if_true, if_false]
        refine ⟨⟨ph, w3, w3⟩, ⟨w3, w3⟩, r2, RA_tell h hx 2 5 (by decide) x3 (fun D ok => ?_)⟩
        obtain ⟨k0, k1, k2, k3, k4, k5, k6⟩ := ok
        refine ⟨k0, k1, k2, k3, k4, ?_, k6⟩
        rw [up_at, upd_at]; exact wneg w
    by_cases c2 : x2 = 2
    · subst c2
      simp +decide only [if_true, if_false]
      by_cases w : v_X6_within x3 0 30 = 0
      · simp +decide only [w, if_true, if_false]
        exact ⟨⟨ph, p6⟩, n6, r6⟩
      · simp +decide only [w, if_true, if_false]
        refine ⟨⟨ph, w3, w3⟩, ⟨w3, w3⟩, r3, RA_tell h hx 3 6 (by decide) x3 (fun D ok => ?_)⟩
        obtain ⟨k0, k1, k2, k3, k4, k5, k6⟩ := ok
        refine ⟨k0, k1, k2, k3, k4, k5, ?_⟩
        rw [up_at, upd_at]; exact wneg w
    simp +decide only [c0, c1, c2, if_true, if_false]
    by_cases d : x2 < 0
    · simp +decide only [d, if_true, if_false]
      exact ⟨⟨ph, p6⟩, n6, r6⟩
    · have d3 : 2 < x2 := by
        rw [n_eq] at c0 c1 c2
        rw [n_lt] at d ⊢
        rw [n_0] at c0 d; rw [n_1] at c1; rw [n_2] at c2 ⊢
        omega
      simp +decide only [d, d3, if_true, if_false]
      exact ⟨⟨ph, p6⟩, n6, r6⟩
  · obtain ⟨w1, w2⟩ := has0 h hx
    simp +decide only [w1, w2, if_true, if_false]
    exact ⟨⟨ph, p_refuse N 1⟩, p_no (b := 1) (by decide) (by decide), RA_refuse h (b := 1) (by decide) (by decide)⟩
theorem op_comerOf (h : RA P N R Q V F M) (x1 x2 : Int32) : p_X6_comerOf P N R x1 x2 ∧ p_X7_comerOf M x1 x2 ∧ (v_X6_comerOf P N R x1 x2).1 = (v_X7_comerOf M x1 x2).1 ∧ RA P (v_X6_comerOf P N R x1 x2).2 R Q V F (v_X7_comerOf M x1 x2).2 := by
  have r5 := RA_refuse h (b := 5) (by decide) (by decide)
  have p5 := p_refuse N 5
  have n5 : p_X7_no M (-5) := p_no (b := 5) (by decide) (by decide)
  have pa := p_at h.2.2.1 x1
  unfold p_X6_comerOf p_X7_comerOf v_X6_comerOf v_X7_comerOf
  simp only [kk]
  by_cases hx : isC M.1 x1
  · obtain ⟨w1, w2, w3⟩ := hasne h hx
    obtain ⟨-, ⟨r1, r2, r3⟩, -⟩ := h.2.2.1.cm hx
    obtain ⟨q, e0, hq, -, e1, e2, e3, e4⟩ := at_in h.2.2.1 hx
    rw [e0]
    simp +decide only [w2, oc_some, oc_none, if_true, if_false]
    by_cases c0 : x2 = 0
    · simp +decide only [c0, if_true, if_false]; exact ⟨⟨pa, hq⟩, w3, e1, h⟩
    by_cases c1 : x2 = 1
    · simp +decide only [c0, c1, if_true, if_false]; exact ⟨⟨pa, hq⟩, w3, e2, h⟩
    by_cases c2 : x2 = 2
    · simp +decide only [c0, c1, c2, if_true, if_false]; exact ⟨⟨pa, w3⟩, w3, r1, h⟩
    by_cases c3 : x2 = 3
    · simp +decide only [c0, c1, c2, c3, if_true, if_false]; exact ⟨⟨pa, hq⟩, w3, e3, h⟩
    by_cases c4 : x2 = 4
    · simp +decide only [c0, c1, c2, c3, c4, if_true, if_false]; exact ⟨⟨pa, hq⟩, w3, e4, h⟩
    by_cases c5 : x2 = 5
    · simp +decide only [c0, c1, c2, c3, c4, c5, if_true, if_false]; exact ⟨⟨pa, w3⟩, w3, r2, h⟩
    by_cases c6 : x2 = 6
    · simp +decide only [c0, c1, c2, c3, c4, c5, c6, if_true, if_false]; exact ⟨⟨pa, w3⟩, w3, r3, h⟩
    simp +decide only [c0, c1, c2, c3, c4, c5, c6, if_true, if_false]
    exact ⟨⟨pa, p5⟩, n5, r5⟩
  · obtain ⟨w1, w2⟩ := has0 h hx
    rw [at_out h.2.2.1 hx]
    simp +decide only [w2, oc_some, oc_none, if_true, if_false]
    exact ⟨⟨pa, p5⟩, n5, r5⟩
theorem op_trace (h : RA P N R Q V F M) (x : Int32) : p_X6_trace N V x ∧ p_X7_trace M x ∧ v_X6_trace N V x = v_X7_trace M x := by
  obtain ⟨v1, v2, v3⟩ := h.2.2.2.2.1
  unfold p_X6_trace p_X7_trace v_X6_trace v_X7_trace p_X1_keptAt v_X1_keptAt
  rw [v1]
  by_cases c1 : x < 0
  · simp +decide only [c1, if_true, if_false]
  · simp +decide only [c1, if_true, if_false]
    by_cases c2 : (20 : Int32) ≤ x
    · simp only [if_pos c2, if_neg (show ¬ x < 20 by rw [n_lt]; rw [n_le] at c2; omega)]
      simp
    · simp only [if_neg c2, if_pos (show x < 20 by rw [n_lt]; rw [n_le] at c2; omega)]
      rw [n_lt, n_0] at c1; rw [n_le, n_20] at c2
      by_cases c3 : M.1 43 ≤ x
      · simp +decide only [c3, if_true, if_false]
      · simp +decide only [c3, if_true, if_false]
        rw [n_le] at c3
        refine ⟨by rw [vp_iff]; omega, by rw [vp_iff]; omega, v3 _ (by rw [n_tn]; omega) (by rw [n_tn]; omega)⟩
theorem op_rest (h : RA P N R Q V F M) (x : Int32) : p_X6_rest N R x ∧ p_X7_rest M x ∧ (v_X6_rest N R x).1 = (v_X7_rest M x).1 ∧ RA P (v_X6_rest N R x).2 R Q V F (v_X7_rest M x).2 := by
  have r6 := RA_refuse h (b := 6) (by decide) (by decide)
  have p6 := p_refuse N 6
  have n6 : p_X7_no M (-6) := p_no (b := 6) (by decide) (by decide)
  unfold p_X6_rest p_X7_rest v_X6_rest v_X7_rest
  simp only [kk, from_eq]
  rw [h.2.2.1.1.2.2.2.1]
  by_cases c1 : x < 2
  · have w : v_X6_within x 2 999 = 0 := by rw [within_iff]; rw [n_lt] at c1; omega
    simp +decide only [w, c1, if_true, if_false]
    exact ⟨p6, n6, r6⟩
  · by_cases c2 : x ≤ 999
    · have w : ¬ v_X6_within x 2 999 = 0 := by rw [within_iff]; rw [n_lt] at c1; rw [n_le] at c2; omega
      simp +decide only [w, c1, c2, if_true, if_false]
      have ne : ¬ x = 0 := by rw [n_eq, n_0]; rw [n_lt, n_2] at c1; omega
      refine ⟨?_, ?_, by trivial, h⟩
      · split
        · exact ne
        · trivial
      · split
        · exact ne
        · trivial
    · have w : v_X6_within x 2 999 = 0 := by rw [within_iff]; rw [n_le] at c2; omega
      simp +decide only [w, c1, c2, if_true, if_false]
      exact ⟨p6, n6, r6⟩
end
