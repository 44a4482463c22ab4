/-! at which look one slows: the loop and the division -/
section
variable {M : mT} {x : Int32}
theorem slow_loop {has : Int32} {B s L : Int} (hB : 0 ≤ B) (hB2 : B ≤ 1000) (hs : (v_X7_step M x).toInt = s) (hs0 : 0 ≤ s) (hs1 : s ≤ 20) (hL : (v_X7_looksOf M x).toInt = L) (hL2 : L ≤ 30) : ∀ (n : Nat) (k : Int) (is kk : Int32), 1 ≤ k → k ≤ L + 1 → L + 1 - k < n → kk.toInt = k → is.toInt = B + (k - 1) * s → is.toInt ≤ 1000 + 20 * (k - 1) →
    (v_X7_slowsAt_r M n x has is kk = -1 ∧ ∀ j : Int, k ≤ j → j ≤ L → B + j * s ≤ has.toInt) ∨ ∃ j : Int, k ≤ j ∧ j ≤ L ∧ (v_X7_slowsAt_r M n x has is kk).toInt = j ∧ has.toInt < B + j * s ∧ ∀ i : Int, k ≤ i → i < j → B + i * s ≤ has.toInt := by
  intro n
  induction n with
  | zero => intro k is kk h1 h2 h3; omega
  | succ n ih =>
    intro k is kk h1 h2 h3 hk his hisb
    rw [v_X7_slowsAt_r]
    have hms : (k - 1) * s = k * s - s := by rw [Int.sub_mul, Int.one_mul]
    by_cases c1 : v_X7_looksOf M x < kk
    · rw [if_pos c1]
      rw [n_lt, hL, hk] at c1
      exact Or.inl ⟨rfl, fun j a b => by omega⟩
    · rw [if_neg c1]
      rw [n_lt, hL, hk] at c1
      have hks0 : 0 ≤ (k - 1) * s := Int.mul_nonneg (by omega) hs0
      have e : (is + v_X7_step M x).toInt = B + k * s := by
        rw [n_add (by rw [his, hs]; omega) (by rw [hs]; omega), his, hs]
        omega
      by_cases c2 : is + v_X7_step M x ≤ has
      · rw [if_pos c2]
        rw [n_le, e] at c2
        have ek : (kk + 1).toInt = k + 1 := by rw [n_add (by rw [hk, n_1]; omega) (by rw [hk, n_1]; omega), hk, n_1]
        rcases ih (k + 1) (is + v_X7_step M x) (kk + 1) (by omega) (by omega) (by omega) ek (by rw [e, show k + 1 - 1 = k by omega]) (by rw [e]; omega) with ⟨r1, r2⟩ | ⟨j, r1, r2, r3, r4, r5⟩
        · refine Or.inl ⟨r1, fun j a b => ?_⟩
          by_cases ej : j = k
          · rw [ej]; exact c2
          · exact r2 j (by omega) b
        · refine Or.inr ⟨j, by omega, r2, r3, r4, fun i a b => ?_⟩
          by_cases ei : i = k
          · rw [ei]; exact c2
          · exact r5 i (by omega) b
      · rw [if_neg c2]
        rw [n_le, e] at c2
        exact Or.inr ⟨k, by omega, by omega, hk, by omega, fun i a b => by omega⟩
/-- the division says the same -/
theorem slow_div {res lk room st : Int32} {B s L C : Int} (hs : st.toInt = s) (hs0 : 0 ≤ s) (hL : lk.toInt = L) (hL1 : 1 ≤ L) (hr : room.toInt = C - B) (hC : C - B ≤ 1000)
    (h : (res = -1 ∧ ∀ j : Int, 1 ≤ j → j ≤ L → B + j * s ≤ C) ∨ ∃ j : Int, 1 ≤ j ∧ j ≤ L ∧ res.toInt = j ∧ C < B + j * s ∧ ∀ i : Int, 1 ≤ i → i < j → B + i * s ≤ C) : (if 0 ≤ room then if 0 < st then (if lk < (room / st) + 1 then (-1) else (room / st) + 1) else (-1) else 1) = res := by
  by_cases c1 : (0 : Int32) ≤ room
  · rw [if_pos c1]
    rw [n_le, n_0, hr] at c1
    by_cases c2 : (0 : Int32) < st
    · rw [if_pos c2]
      rw [n_lt, n_0, hs] at c2
      have hd : (room / st).toInt = (C - B) / s := by rw [n_div (by rw [hr]; exact c1) (by rw [hs]; exact c2), hr, hs]
      have hq0 : 0 ≤ (C - B) / s := Int.ediv_nonneg c1 (by omega)
      have hq1 : (C - B) / s ≤ C - B := Int.ediv_le_self _ c1
      have hd1 : (room / st + 1).toInt = (C - B) / s + 1 := by rw [n_add (by rw [hd, n_1]; omega) (by rw [hd, n_1]; omega), hd, n_1]
      have key : ∀ i : Int, i ≤ (C - B) / s ↔ B + i * s ≤ C := fun i => by
        rw [Int.le_ediv_iff_mul_le c2]
        omega
      by_cases c3 : lk < room / st + 1
      · rw [if_pos c3]
        rw [n_lt, hL, hd1] at c3
        rcases h with ⟨h1, -⟩ | ⟨j, h1, h2, h3, h4, -⟩
        · exact h1.symm
        · have := (key j).mp (by omega)
          omega
      · rw [if_neg c3]
        rw [n_lt, hL, hd1] at c3
        rcases h with ⟨h1, h2⟩ | ⟨j, h1, h2, h3, h4, h5⟩
        · have h6 := (key _).mpr (h2 ((C - B) / s + 1) (by omega) (by omega))
          omega
        · rw [n_eq, hd1, h3]
          rcases Int.lt_trichotomy j ((C - B) / s + 1) with a | a | a
          · have := (key j).mp (by omega)
            omega
          · omega
          · have := (key _).mpr (h5 ((C - B) / s + 1) (by omega) a)
            omega
    · rw [if_neg c2]
      rw [n_lt, n_0, hs] at c2
      have e : s = 0 := by omega
      subst e
      rcases h with ⟨h1, -⟩ | ⟨j, h1, h2, h3, h4, -⟩
      · exact h1.symm
      · rw [Int.mul_zero] at h4
        omega
  · rw [if_neg c1]
    rw [n_le, n_0, hr] at c1
    rcases h with ⟨h1, h2⟩ | ⟨j, h1, h2, h3, h4, h5⟩
    · have := h2 1 (by omega) hL1
      rw [Int.one_mul] at this
      omega
    · rw [n_eq, n_1, h3]
      by_cases e : j = 1
      · omega
      · have := h5 1 (by omega) (by omega)
        rw [Int.one_mul] at this
        omega
theorem mstep_b {D : Nat → Nat → Int32} (hD : D = mD M) (h : OKc D x.toNatClampNeg) : 0 ≤ (v_X7_step M x).toInt ∧ (v_X7_step M x).toInt ≤ 11 := by
  subst hD
  obtain ⟨-, ⟨a1, a2⟩, -⟩ := h
  have e : mD M 1 x.toNatClampNeg = (M.2.1 10) x.toNatClampNeg := rfl
  rw [e] at a1 a2
  unfold v_X7_step
  have hs : (2 + (M.2.1 10) x.toNatClampNeg).toInt = 2 + ((M.2.1 10) x.toNatClampNeg).toInt := by rw [n_add (by rw [n_2]; omega) (by rw [n_2]; omega), n_2]
  repeat' split
  all_goals first | (rw [hs]; omega) | (constructor <;> omega) | decide
theorem mlooks_b (hk : 1 ≤ (mD M 3 x.toNatClampNeg).toInt ∧ (mD M 3 x.toNatClampNeg).toInt ≤ 9) (hw : 1 ≤ (M.1 1).toInt ∧ (M.1 1).toInt ≤ 20) : 1 ≤ (v_X7_looksOf M x).toInt ∧ (v_X7_looksOf M x).toInt ≤ 30 := by
  have e : mD M 3 x.toNatClampNeg = (M.2.1 12) x.toNatClampNeg := rfl
  rw [e] at hk
  unfold v_X7_looksOf
  split
  · decide
  · have h1 : (M.1 1 + M.2.1 12 x.toNatClampNeg).toInt = (M.1 1).toInt + (M.2.1 12 x.toNatClampNeg).toInt := n_add (by omega) (by omega)
    have h2 : (M.1 1 + M.2.1 12 x.toNatClampNeg - 1).toInt = (M.1 1).toInt + (M.2.1 12 x.toNatClampNeg).toInt - 1 := by rw [n_sub (by rw [h1, n_1]; omega) (by rw [h1, n_1]; omega), h1, n_1]
    rw [n_div (by rw [h2]; omega) (by omega), h2]
    constructor
    · rw [Int.le_ediv_iff_mul_le (by omega)]
      omega
    · have := Int.ediv_le_self (b := (M.2.1 12 x.toNatClampNeg).toInt) (show 0 ≤ (M.1 1).toInt + (M.2.1 12 x.toNatClampNeg).toInt - 1 by omega)
      omega
theorem mburden_b {f : Int32} (h4 : 0 ≤ (mD M 4 x.toNatClampNeg).toInt ∧ (mD M 4 x.toNatClampNeg).toInt ≤ 9) (hf : 0 ≤ f.toInt ∧ f.toInt ≤ 9) : 0 ≤ (v_X7_burden M x f).toInt ∧ (v_X7_burden M x f).toInt ≤ 18 := by
  have e : mD M 4 x.toNatClampNeg = (M.2.1 13) x.toNatClampNeg := rfl
  rw [e] at h4
  unfold v_X7_burden
  split
  · rw [n_add (by omega) (by omega)]
    omega
  · rw [n_mul (by rw [n_2]; omega) (by rw [n_2]; omega), n_2]
    omega
theorem nv_b {y : Int32} (h : ¬ y = -1 → 0 ≤ (M.2.1 11 y.toNatClampNeg).toInt ∧ (M.2.1 11 y.toNatClampNeg).toInt ≤ 30) : 0 ≤ (nvOf M y).toInt ∧ (nvOf M y).toInt ≤ 30 := by
  unfold nvOf
  split
  · decide
  · exact h ‹_›
theorem courage_b {o : Nat → Int32} {a b c : Int32} (ha : 0 ≤ a.toInt ∧ a.toInt ≤ 30) (hb : 0 ≤ b.toInt ∧ b.toInt ≤ 30) (hc : 0 ≤ c.toInt ∧ c.toInt ≤ 30) : 0 ≤ (v_X0_courage o a b c).toInt ∧ (v_X0_courage o a b c).toInt ≤ 60 := by
  have hm : 0 ≤ (if a < b then b else a).toInt ∧ (if a < b then b else a).toInt ≤ 30 := by split <;> assumption
  unfold v_X0_courage
  split
  · omega
  · split
    · have h2 : (c / 2).toInt = c.toInt / 2 := by rw [n_div (by omega) (by rw [n_2]; omega), n_2]
      rw [n_add (by rw [h2]; omega) (by rw [h2]; omega), h2]
      omega
    · omega
end
/-- a comer at x as both have him; the reference may hold another nerve for him just now -/
def SC (P : pT) (R : rT) (M : mT) (x : Int32) : Prop := (∃ q, v_X4_at R x = some q ∧ q ∈ P.1 ∧ (P.2 q 1 = mD M 0 x.toNatClampNeg ∧ P.2 q 2 = mD M 1 x.toNatClampNeg ∧ P.2 q 3 = mD M 3 x.toNatClampNeg ∧ P.2 q 4 = mD M 4 x.toNatClampNeg)) ∧ R.2.1 3 x.toNatClampNeg = mD M 6 x.toNatClampNeg ∧ R.1 5 = M.1 1 ∧ OKc (mD M) x.toNatClampNeg ∧ (1 ≤ (M.1 1).toInt ∧ (M.1 1).toInt ≤ 20) ∧ vp_in x 7 ∧ p_X4_at R x
/-- one who may be nobody -/
def NB7 (M : mT) (y : Int32) : Prop := ¬ y = -1 → vp_in y 7 ∧ 0 ≤ (M.2.1 11 y.toNatClampNeg).toInt ∧ (M.2.1 11 y.toNatClampNeg).toInt ≤ 30
theorem nb_m1 (M : mT) : NB7 M (-1) := fun h => absurd rfl h
theorem slow_eq {P : pT} {R : rT} {M : mT} {x y z f sn : Int32} (h : SC P R M x) (hy : NB7 M y) (hz : NB7 M z) (hf : 0 ≤ f.toInt ∧ f.toInt ≤ 9) (hsn : 0 ≤ sn.toInt ∧ sn.toInt ≤ 7) : v_X4_slowAt P R x f (M.2.1 11 x.toNatClampNeg) (nvOf M y) (nvOf M z) sn = v_X7_slowsAt M x y z sn f := by
  obtain ⟨⟨q, e0, -, e1, e2, e3, e4⟩, e5, e6, hok, hw, -, -⟩ := h
  have hn : 0 ≤ (M.2.1 11 x.toNatClampNeg).toInt ∧ (M.2.1 11 x.toNatClampNeg).toInt ≤ 30 := hok.2.2.1
  have hd : 0 ≤ (M.2.1 15 x.toNatClampNeg).toInt ∧ (M.2.1 15 x.toNatClampNeg).toInt ≤ 30 := hok.2.2.2.2.2.2
  have hcb := courage_b (o := P.2 q) hn (nv_b (M := M) (y := y) (fun h => (hy h).2)) (nv_b (M := M) (y := z) (fun h => (hz h).2))
  have hbb := mburden_b (M := M) (x := x) (f := f) hok.2.2.2.2.1 hf
  have hsb := mstep_b (M := M) (x := x) rfl hok
  have hlb := mlooks_b (M := M) (x := x) hok.2.2.2.1 hw
  unfold v_X4_slowAt
  rw [e0]
  rw [oc_some]
  rw [e5, e6, step_eq (M := M) (x := x) e1 e2, looks_eq (M := M) (x := x) e1 e3 hok.2.2.2.1.1 rfl, burden_eq (M := M) (x := x) e1 e4]
  rw [courage_eq (M := M) (x := x) e1 hn.1] at hcb ⊢
  unfold kk v_X7_slowsAt
  have hb1 : ((M.2.1 15 x.toNatClampNeg) + sn).toInt = (M.2.1 15 x.toNatClampNeg).toInt + sn.toInt := n_add (by omega) (by omega)
  have hb2 : (((M.2.1 15 x.toNatClampNeg) + sn) + v_X7_burden M x f).toInt = (M.2.1 15 x.toNatClampNeg).toInt + sn.toInt + (v_X7_burden M x f).toInt := by rw [n_add (by rw [hb1]; omega) (by rw [hb1]; omega), hb1]
  have hr1 : (v_X7_courage M x y z - mD M 6 x.toNatClampNeg).toInt = (v_X7_courage M x y z).toInt - (M.2.1 15 x.toNatClampNeg).toInt := n_sub (show _ ≤ (v_X7_courage M x y z).toInt - (M.2.1 15 x.toNatClampNeg).toInt by omega) (show (v_X7_courage M x y z).toInt - (M.2.1 15 x.toNatClampNeg).toInt < _ by omega)
  have hr2 : (v_X7_courage M x y z - mD M 6 x.toNatClampNeg - sn).toInt = (v_X7_courage M x y z).toInt - (M.2.1 15 x.toNatClampNeg).toInt - sn.toInt := by rw [n_sub (by rw [hr1]; omega) (by rw [hr1]; omega), hr1]
  have hr3 : (v_X7_courage M x y z - mD M 6 x.toNatClampNeg - sn - v_X7_burden M x f).toInt = (v_X7_courage M x y z).toInt - ((M.2.1 15 x.toNatClampNeg).toInt + sn.toInt + (v_X7_burden M x f).toInt) := by rw [n_sub (by rw [hr2]; omega) (by rw [hr2]; omega), hr2]; omega
  exact slow_div (B := (M.2.1 15 x.toNatClampNeg).toInt + sn.toInt + (v_X7_burden M x f).toInt) rfl hsb.1 rfl hlb.1 hr3 (by omega) (slow_loop (x := x) (by omega) (by omega) rfl hsb.1 (by omega) rfl (by omega) 40 1 _ 1 (by omega) (by omega) (by omega) rfl (by rw [hb2]; omega) (by rw [hb2]; omega))
theorem p_slow_loop {M : mT} {x has : Int32} (hx : vp_in x 7) (hp : 1 ≤ (mD M 3 x.toNatClampNeg).toInt) {L : Int} (hL : (v_X7_looksOf M x).toInt = L) (hL2 : L ≤ 30) : ∀ (n : Nat) (k : Int) (is kk : Int32), 1 ≤ k → k ≤ L + 1 → L + 1 - k < n → kk.toInt = k → p_X7_slowsAt_r M n x has is kk := by
  have hlk : p_X7_looksOf M x := by
    refine ⟨hx, ?_⟩
    split
    · trivial
    · exact ⟨hx, hx, fun e => by have e' : (mD M 3 x.toNatClampNeg) = 0 := e; rw [e', n_0] at hp; omega⟩
  have hst : p_X7_step M x := by
    refine ⟨hx, ?_⟩
    repeat' split
    all_goals first | exact hx | trivial
  intro n
  induction n with
  | zero => intro k is kk h1 h2 h3; omega
  | succ n ih =>
    intro k is kk h1 h2 h3 hk
    rw [p_X7_slowsAt_r]
    refine ⟨hlk, ?_⟩
    by_cases c1 : v_X7_looksOf M x < kk
    · rw [if_pos c1]; trivial
    · rw [if_neg c1]
      rw [n_lt, hL, hk] at c1
      refine ⟨hst, ?_⟩
      split
      · exact ih (k + 1) _ (kk + 1) (by omega) (by omega) (by omega) (by rw [n_add (by rw [hk, n_1]; omega) (by rw [hk, n_1]; omega), hk, n_1])
      · trivial
theorem p_courage {M : mT} {x y z : Int32} (hx : vp_in x 7) (hy : NB7 M y) (hz : NB7 M z) : p_X7_courage M x y z := by
  have py : (if y = (-1) then True else vp_in y 7 ∧ (if ((M.2.1 11) y.toNatClampNeg) ≤ ((M.2.1 11) x.toNatClampNeg) then True else vp_in y 7)) := by
    split
    · trivial
    · refine ⟨(hy ‹_›).1, ?_⟩
      split
      · trivial
      · exact (hy ‹_›).1
  have pz : (if z = (-1) then True else vp_in z 7) := by
    split
    · trivial
    · exact (hz ‹_›).1
  refine ⟨hx, hx, ?_⟩
  split
  · refine ⟨py, hx, ?_⟩
    (repeat' split) <;> first | trivial | exact (hz ‹_›).1
  · refine ⟨hx, ?_⟩
    split
    · refine ⟨py, hx, ?_⟩
      (repeat' split) <;> first | trivial | exact (hz ‹_›).1
    · trivial
theorem p_slowm {P : pT} {R : rT} {M : mT} {x y z f sn : Int32} (h : SC P R M x) (hy : NB7 M y) (hz : NB7 M z) : p_X7_slowsAt M x y z sn f := by
  obtain ⟨-, -, -, hok, hw, hx, -⟩ := h
  have hlb := mlooks_b (M := M) (x := x) hok.2.2.2.1 hw
  refine ⟨p_courage hx hy hz, hx, ?_, p_slow_loop hx hok.2.2.2.1.1 rfl (by omega) 40 1 _ 1 (by omega) (by omega) (by omega) rfl⟩
  unfold p_X7_burden p_X7_isBlind
  refine ⟨⟨hx, ?_⟩, ?_⟩
  · split
    · trivial
    · exact hx
  · split <;> exact hx
theorem p_slowx {P : pT} {R : rT} {M : mT} {x f a b c d : Int32} (h : SC P R M x) : p_X4_slowAt P R x f a b c d := by
  obtain ⟨⟨q, e0, hq, e1, e2, e3, e4⟩, e5, e6, hok, hw, hx, hpa⟩ := h
  unfold p_X4_slowAt
  refine ⟨hpa, ?_⟩
  rw [e0]
  refine ⟨hq, hx, ?_⟩
  show (if 0 ≤ _ then _ else True)
  split
  · refine ⟨hq, ?_⟩
    split
    · refine ⟨fun e => ?_, hq, ?_⟩
      · have hlt : (0 : Int32) < v_X0_step (P.2 q) := ‹_›
        rw [e, n_lt] at hlt
        omega
      · unfold p_X0_looksOn
        split
        · trivial
        · split
          · intro e
            rw [e3] at e
            have := hok.2.2.2.1.1
            rw [e, n_0] at this
            omega
          · trivial
    · trivial
  · trivial
