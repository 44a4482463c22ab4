/-! the two states, side by side -/
abbrev kD (M : mT) : Nat → Nat → Int32 := fun j c => M.2.1 32 (7 * j + c)
abbrev kE (M : mT) : Nat → Int32 := fun i => M.2.1 32 (49 + i)
theorem msl_at {M : mT} {f : Nat → Int64} : (msl M 20 f).2.2 20 = f := rfl
theorem msl_2021 {M : mT} {f : Nat → Int64} : (msl M 20 f).2.2 21 = M.2.2 21 := rfl
theorem msl_2120 {M : mT} {f : Nat → Int64} : (msl M 21 f).2.2 20 = M.2.2 20 := rfl
theorem msl_2121 {M : mT} {f : Nat → Int64} : (msl M 21 f).2.2 21 = f := rfl
def RN (N : nT) (M : mT) : Prop := (∀ j, j < 8 → N.2 j = M.2.1 8 j) ∧ N.1 10 = M.1 7 ∧ N.1 11 = M.1 44 ∧ (N.1 11 = 0 ∨ N.1 11 = 1)
def RS0 (S : sT) (M : mT) (s : Nat) : Prop := M.2.1 16 s = 0 ∧ S.1 1 = -1 ∧ S.1 2 = 0
def RS1 (S : sT) (M : mT) (s : Nat) : Prop := M.2.1 16 s = 1 ∧ S.1 1 = 100 + M.2.1 17 s ∧ (0 ≤ (M.2.1 17 s).toInt ∧ (M.2.1 17 s).toInt ≤ 3) ∧ S.1 2 = M.2.1 18 s ∧ (0 ≤ (M.2.1 18 s).toInt ∧ (M.2.1 18 s).toInt ≤ 160) ∧ ∀ i : Nat, (i : Int) < (M.2.1 18 s).toInt → S.2 i = M.2.2 20 (160 * s + i)
def RS2 (S : sT) (M : mT) (s : Nat) : Prop := M.2.1 16 s = 2 ∧ S.1 1 = M.2.1 19 s ∧ isC M.1 (M.2.1 19 s) ∧ S.1 2 = 0
def RS (S : sT) (M : mT) (s : Nat) : Prop := RS0 S M s ∨ RS1 S M s ∨ RS2 S M s
def RF (F : fT) (M : mT) : Prop := ∀ s, s < 8 → RS (F s) M s
def RV (V : vT) (M : mT) : Prop := V.1 1 = M.1 43 ∧ 0 ≤ (M.1 43).toInt ∧ ∀ i : Nat, i < 20 → (i : Int) < (M.1 43).toInt → V.2.1 i = M.2.1 42 i
def MC (M : mT) : Prop := M.1 36 = 0 ∧ (∀ i, i < 36 → M.2.1 22 i = t_words i) ∧ (∀ i, i < 6 → M.2.1 23 i = t_numbers i) ∧ ∀ i, i < 6 → M.2.1 24 i = t_mosts i
def RA (P : pT) (N : nT) (R Q : rT) (V : vT) (F : fT) (M : mT) : Prop := RN N M ∧ RF F M ∧ RR P R M ∧ (N.1 11 = 1 → RD P Q (kD M) (kE M)) ∧ RV V M ∧ MC M
/-- what the reference keeps from call to call is the same -/
def MEQ (M M' : mT) : Prop := (∀ i, (i < 8 ∨ i = 36 ∨ i = 43 ∨ i = 44) → M'.1 i = M.1 i) ∧ (∀ j, ((8 ≤ j ∧ j < 25) ∨ j = 32 ∨ j = 42) → M'.2.1 j = M.2.1 j) ∧ M'.2.2 20 = M.2.2 20
theorem MEQ.rf (M : mT) : MEQ M M := ⟨fun _ _ => rfl, fun _ _ => rfl, rfl⟩
theorem MEQ.tr {M M1 M2 : mT} (h1 : MEQ M M1) (h2 : MEQ M1 M2) : MEQ M M2 := ⟨fun i hi => (h2.1 i hi).trans (h1.1 i hi), fun j hj => (h2.2.1 j hj).trans (h1.2.1 j hj), h2.2.2.trans h1.2.2⟩
theorem MEQ.f {M : mT} (k : Nat) (v : Int32) (hk : decide (¬ (k < 8 ∨ k = 36 ∨ k = 43 ∨ k = 44)) = true) : MEQ M (msf M k v) := ⟨fun i hi => up_ne (fun e => of_decide_eq_true hk (e ▸ hi)), fun _ _ => rfl, rfl⟩
theorem MEQ.a {M : mT} (k : Nat) (v : Nat → Int32) (hk : decide (¬ ((8 ≤ k ∧ k < 25) ∨ k = 32 ∨ k = 42)) = true) : MEQ M (msa M k v) := ⟨fun _ _ => rfl, fun i hi => up_ne (fun e => of_decide_eq_true hk (e ▸ hi)), rfl⟩
theorem MEQ.l {M : mT} (v : Nat → Int64) : MEQ M (msl M 21 v) := ⟨fun _ _ => rfl, fun _ _ => rfl, rfl⟩
theorem RQ_congr {P : pT} {R : rT} {D D' : Nat → Nat → Int32} {c : Nat} (h : ∀ j, j < 7 → D' j c = D j c) (hq : RQ P R D c) : RQ P R D' c := by
  obtain ⟨q, h1, h2, a0, a1, a2, a3, a4⟩ := hq
  exact ⟨q, h1, h2, a0, a1.trans (h 0 (by decide)).symm, a2.trans (h 1 (by decide)).symm, a3.trans (h 3 (by decide)).symm, a4.trans (h 4 (by decide)).symm⟩
theorem OKc_congr {D D' : Nat → Nat → Int32} {c : Nat} (h : ∀ j, j < 7 → D' j c = D j c) (hq : OKc D c) : OKc D' c := by
  unfold OKc at hq ⊢
  rw [h 0 (by decide), h 1 (by decide), h 2 (by decide), h 3 (by decide), h 4 (by decide), h 5 (by decide), h 6 (by decide)]
  exact hq
theorem RD_congr {P : pT} {R : rT} {D D' : Nat → Nat → Int32} {E E' : Nat → Int32} (hD : ∀ j, j < 7 → ∀ c, c < 7 → D' j c = D j c) (hE : ∀ i, i < 7 → E' i = E i) (h : RD P R D E) : RD P R D' E' := by
  obtain ⟨⟨a4, a5, a6, a7, a8, a9, a10⟩, hok, hc, hq⟩ := h
  have hok' : OKe E' := by
    unfold OKe at hok ⊢
    rw [hE 0 (by decide), hE 1 (by decide), hE 2 (by decide), hE 3 (by decide), hE 4 (by decide)]
    exact hok
  refine ⟨⟨a4.trans (hE 0 (by decide)).symm, a5.trans (hE 1 (by decide)).symm, a6.trans (hE 2 (by decide)).symm, a7.trans (hE 3 (by decide)).symm, a8.trans (hE 4 (by decide)).symm, a9.trans (hE 5 (by decide)).symm, a10.trans (hE 6 (by decide)).symm⟩, hok', fun c hlt => ?_, hq⟩
  rw [hE 0 (by decide)] at hlt
  have hc7 : c < 7 := by have := hok.1; omega
  obtain ⟨r1, ⟨r2, r3, r4⟩, r5⟩ := hc c hlt
  have hj : ∀ j, j < 7 → D' j c = D j c := fun j hj => hD j hj c hc7
  exact ⟨RQ_congr hj r1, ⟨r2.trans (hj 2 (by decide)).symm, r3.trans (hj 5 (by decide)).symm, r4.trans (hj 6 (by decide)).symm⟩, OKc_congr hj r5⟩
theorem RS_congr {S : sT} {M M' : mT} {s : Nat} (h16 : M'.2.1 16 s = M.2.1 16 s) (h17 : M'.2.1 17 s = M.2.1 17 s) (h18 : M'.2.1 18 s = M.2.1 18 s) (h19 : M'.2.1 19 s = M.2.1 19 s) (hc : ∀ i, i < 160 → M'.2.2 20 (160 * s + i) = M.2.2 20 (160 * s + i)) (h0 : M'.1 0 = M.1 0) (h : RS S M s) : RS S M' s := by
  rcases h with ⟨a, b, c⟩ | ⟨a, b, c, d, e, f⟩ | ⟨a, b, c, d⟩
  · exact Or.inl ⟨h16.trans a, b, c⟩
  · refine Or.inr (Or.inl ⟨h16.trans a, by rw [h17]; exact b, by rw [h17]; exact c, d.trans h18.symm, by rw [h18]; exact e, fun i hi => ?_⟩)
    rw [h18] at hi
    rw [hc i (by omega)]
    exact f i hi
  · refine Or.inr (Or.inr ⟨h16.trans a, b.trans h19.symm, ?_, d⟩)
    unfold isC
    rw [h19, h0]
    exact c
theorem RA_congr {P : pT} {N : nT} {R Q : rT} {V : vT} {F : fT} {M M' : mT} (e : MEQ M M') (h : RA P N R Q V F M) : RA P N R Q V F M' := by
  obtain ⟨⟨n1, n2, n3, n4⟩, hF, hR, hQ, ⟨v1, v2, v3⟩, ⟨c1, c2, c3, c4⟩⟩ := h
  obtain ⟨e1, e2, e3⟩ := e
  refine ⟨⟨fun j hj => by rw [e2 8 (by decide)]; exact n1 j hj, n2.trans (e1 7 (by decide)).symm, n3.trans (e1 44 (by decide)).symm, n4⟩, fun s hs => RS_congr (by rw [e2 16 (by decide)]) (by rw [e2 17 (by decide)]) (by rw [e2 18 (by decide)]) (by rw [e2 19 (by decide)]) (fun i _ => by rw [e3]) (e1 0 (by decide)) (hF s hs), RD_congr (fun j hj c _ => by show M'.2.1 (9 + j) c = _; rw [e2 (9 + j) (by omega)]) (fun i hi => e1 i (by omega)) hR, fun hi => RD_congr (fun j _ c _ => by show M'.2.1 32 _ = _; rw [e2 32 (by decide)]) (fun i _ => by show M'.2.1 32 _ = _; rw [e2 32 (by decide)]) (hQ hi), ⟨v1.trans (e1 43 (by decide)).symm, by rw [e1 43 (by decide)]; exact v2, fun i hi hl => by rw [e1 43 (by decide)] at hl; rw [e2 42 (by decide)]; exact v3 i hi hl⟩, ⟨(e1 36 (by decide)).trans c1, fun i hi => by rw [e2 22 (by decide)]; exact c2 i hi, fun i hi => by rw [e2 23 (by decide)]; exact c3 i hi, fun i hi => by rw [e2 24 (by decide)]; exact c4 i hi⟩⟩
/-! refusals -/
theorem refuse_eq {N : nT} {b : Int32} (h1 : 1 ≤ b.toInt) (h2 : b.toInt ≤ 7) : v_X6_refuse N b = (-b, nsa N (upd N.2 b.toNatClampNeg (N.2 b.toNatClampNeg + 1))) := by
  unfold v_X6_refuse kk
  rw [if_neg (by rw [n_lt, n_0]; omega), if_neg (by rw [n_le, n_8]; omega)]
theorem p_refuse (N : nT) (b : Int32) : p_X6_refuse N b := by
  unfold p_X6_refuse
  split
  · trivial
  · split
    · trivial
    · rename_i h1 h2
      rw [n_lt, n_0] at h1
      rw [n_le, n_8] at h2
      have : vp_in b 8 := by rw [vp_iff]; omega
      exact ⟨this, this⟩
theorem p_no {M : mT} {b : Int32} (h1 : 1 ≤ b.toInt) (h2 : b.toInt ≤ 7) : p_X7_no M (-b) := by
  unfold p_X7_no
  rw [Int32.neg_neg]
  have : vp_in b 8 := by rw [vp_iff]; omega
  exact ⟨this, this⟩
theorem no_eq {M : mT} {b : Int32} : v_X7_no M (-b) = (-b, msa M 8 (upd (M.2.1 8) b.toNatClampNeg (M.2.1 8 b.toNatClampNeg + 1))) := by
  unfold v_X7_no
  rw [Int32.neg_neg]
theorem noTen_eq {M : mT} {b : Int32} : v_X7_noTen M (-b) = (-b - 10, msa M 8 (upd (M.2.1 8) b.toNatClampNeg (M.2.1 8 b.toNatClampNeg + 1))) := by
  unfold v_X7_noTen
  rw [Int32.neg_neg]
theorem RA_no {P : pT} {N : nT} {R Q : rT} {V : vT} {F : fT} {M : mT} (k : Nat) (h : RA P N R Q V F M) : RA P (nsa N (upd N.2 k (N.2 k + 1))) R Q V F (msa M 8 (upd (M.2.1 8) k (M.2.1 8 k + 1))) := by
  obtain ⟨⟨n1, n2, n3, n4⟩, hF, hR, hQ, hV, hC⟩ := h
  refine ⟨⟨fun j hj => ?_, n2, n3, n4⟩, fun s hs => RS_congr rfl rfl rfl rfl (fun _ _ => rfl) rfl (hF s hs), RD_congr (fun j hj c _ => ?_) (fun i hi => rfl) hR, fun hi => RD_congr (fun j _ c _ => rfl) (fun i _ => rfl) (hQ hi), hV, hC⟩
  · show upd N.2 k (N.2 k + 1) j = va_up M.2.1 8 (upd (M.2.1 8) k (M.2.1 8 k + 1)) 8 j
    rw [up_at]
    by_cases e : j = k
    · subst e
      rw [upd_at, upd_at, n1 j hj]
    · rw [upd_ne e, upd_ne e]
      exact n1 j hj
  · show va_up M.2.1 8 _ (9 + j) c = _
    rw [up_ne (by omega)]
theorem RA_refuse {P : pT} {N : nT} {R Q : rT} {V : vT} {F : fT} {M : mT} (h : RA P N R Q V F M) {b : Int32} (h1 : 1 ≤ b.toInt) (h2 : b.toInt ≤ 7) : (v_X6_refuse N b).1 = (v_X7_no M (-b)).1 ∧ RA P (v_X6_refuse N b).2 R Q V F (v_X7_no M (-b)).2 := by
  rw [refuse_eq h1 h2, no_eq]
  exact ⟨rfl, RA_no _ h⟩
theorem RA_ten {P : pT} {N : nT} {R Q : rT} {V : vT} {F : fT} {M : mT} (h : RA P N R Q V F M) {b : Int32} (h1 : 1 ≤ b.toInt) (h2 : b.toInt ≤ 7) : (v_X6_refuse N b).1 - 10 = (v_X7_noTen M (-b)).1 ∧ RA P (v_X6_refuse N b).2 R Q V F (v_X7_noTen M (-b)).2 := by
  rw [refuse_eq h1 h2, noTen_eq]
  exact ⟨rfl, RA_no _ h⟩
/-! shelves by number -/
theorem shelf_cases (N : nT) (M : mT) (x : Int32) : (v_X6_shelfAt N x = none ∧ v_X7_isShelf M x = 0) ∨ (v_X6_shelfAt N x = some x.toNatClampNeg ∧ v_X7_isShelf M x = 1 ∧ x.toNatClampNeg < 8 ∧ vp_in x 8) := by
  unfold v_X6_shelfAt v_X7_isShelf
  by_cases h1 : x < 0
  · exact Or.inl ⟨if_pos h1, if_pos h1⟩
  · by_cases h2 : x < 8
    · refine Or.inr ⟨by rw [if_neg h1, if_pos h2], ?_, ?_, ?_⟩
      · rw [if_neg h1, if_neg (by rw [n_le, n_8]; rw [n_lt, n_8] at h2; omega)]
      · rw [n_lt, n_8] at h2; rw [n_lt, n_0] at h1; rw [n_tn]; omega
      · rw [vp_iff]; rw [n_lt, n_8] at h2; rw [n_lt, n_0] at h1; omega
    · refine Or.inl ⟨by rw [if_neg h1, if_neg h2], ?_⟩
      rw [if_neg h1, if_pos (by rw [n_le, n_8]; rw [n_lt, n_8] at h2; omega)]
theorem p_shelfAt (N : nT) (x : Int32) : p_X6_shelfAt N x := by
  unfold p_X6_shelfAt
  split
  · trivial
  · split
    · rename_i h1 h2
      rw [n_lt, n_8] at h2; rw [n_lt, n_0] at h1; rw [vp_iff]; omega
    · trivial
/-- what a shelf is, to both -/
theorem RS.kind {S : sT} {M : mT} {s : Nat} {R : rT} (h : RS S M s) (hE : OKe M.1) : (M.2.1 16 s = 0 ∧ v_X5_isRow S = 0 ∧ v_X5_isComer S = 0) ∨ (M.2.1 16 s = 1 ∧ v_X5_isRow S = 1 ∧ v_X5_isComer S = 0) ∨ (M.2.1 16 s = 2 ∧ v_X5_isRow S = 0 ∧ v_X5_isComer S = 1) := by
  unfold v_X5_isRow v_X5_isComer
  rcases h with ⟨a, b, c⟩ | ⟨a, b, c, d, e, f⟩ | ⟨a, b, c, d⟩
  · refine Or.inl ⟨a, ?_, ?_⟩
    · rw [b]; rfl
    · rw [b]; rfl
  · have h1 : (S.1 1).toInt = 100 + (M.2.1 17 s).toInt := by rw [b, n_add (by rw [n_100]; omega) (by rw [n_100]; omega), n_100]
    refine Or.inr (Or.inl ⟨a, ?_, ?_⟩)
    · rw [if_neg (by rw [n_lt, n_100]; omega)]
    · rw [if_neg (by rw [n_lt, n_0]; omega), if_pos (by rw [n_le, n_100]; omega)]
  · have h1 := c.1
    have h2 := c.2
    have h3 := hE.1
    refine Or.inr (Or.inr ⟨a, ?_, ?_⟩)
    · rw [if_pos (by rw [b, n_lt, n_100]; omega)]
    · rw [if_neg (by rw [b, n_lt, n_0]; omega), if_neg (by rw [b, n_le, n_100]; omega)]
