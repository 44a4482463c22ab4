/-! moves -/
theorem p_body_any {x y : Int32} : p_X1_bodyOf x y := by
  unfold p_X1_bodyOf
  by_cases c : (3 * x + y) < 0
  · rw [if_pos c]; trivial
  · rw [if_neg c]
    by_cases d : (3 * x + y) < 21
    · rw [if_pos d, vp_iff]
      rw [n_lt, n_0] at c
      rw [n_lt, n_21] at d
      omega
    · rw [if_neg d]; trivial
theorem p_with_loop : ∀ (n v : Nat) (x y : Int32), v ≤ 21 → 21 - v < n → p_X1_withBody_r n y x (Int32.ofNat v) := by
  intro n
  induction n with
  | zero => intro v x y _ h; omega
  | succ n ih =>
    intro v x y hv hn
    rw [p_X1_withBody_r]
    by_cases c : (21 : Int32) ≤ Int32.ofNat v
    · rw [if_pos c]; trivial
    · rw [if_neg c]
      have hv2 : v < 21 := by rw [n_le, n_of (by omega), n_21] at c; omega
      by_cases d : x = -1
      · rw [if_pos d]; trivial
      · rw [if_neg d]
        refine ⟨p_body_any, ?_⟩
        by_cases e : v_X1_bodyOf x y = 0
        · rw [if_pos e, nat1 (by omega)]
          exact ⟨p_above x, ih (v + 1) _ y (by omega) (by omega)⟩
        · rw [if_neg e]; trivial
theorem p_with (x y : Int32) : p_X1_withBody x y := p_with_loop 200 0 x y (by omega) (by omega)
theorem p_began {V : vT} {b : Int32} : p_X1_began V b := by
  unfold p_X1_began
  by_cases c : V.1 1 < 0
  · rw [if_pos c]; trivial
  · rw [if_neg c]
    by_cases d : (20 : Int32) ≤ V.1 1
    · rw [if_pos d]; trivial
    · rw [if_neg d, vp_iff]
      rw [n_lt, n_0] at c
      rw [n_le, n_20] at d
      omega
/-- the last moves, to both -/
def BV (q : Nat) (V : vT) (M : mT) (k : Nat) : Prop := V.1 1 = Int32.ofNat k ∧ M.1 43 = Int32.ofNat k ∧ (∀ i, i < k → V.2.1 i = M.2.1 42 i) ∧ V.2.2 = some q
def CB (M M' : mT) : Prop := (∀ i, i ≠ 43 → M'.1 i = M.1 i) ∧ (∀ j, j ≠ 42 → M'.2.1 j = M.2.1 j) ∧ M'.2.2 = M.2.2
theorem CB.rf (M : mT) : CB M M := ⟨fun _ _ => rfl, fun _ _ => rfl, rfl⟩
theorem CB.tr {M1 M2 M3 : mT} (h1 : CB M1 M2) (h2 : CB M2 M3) : CB M1 M3 := ⟨fun i a => (h2.1 i a).trans (h1.1 i a), fun j a => (h2.2.1 j a).trans (h1.2.1 j a), h2.2.2.trans h1.2.2⟩
theorem vsf_at {V : vT} {j : Nat} {v : Int32} : (vsf V j v).1 j = v := up_at
theorem one_body {q : Nat} {V : vT} {M : mT} {k : Nat} {b : Int32} (h : BV q V M k) (hk : k < 20) : BV q (v_X1_began V b) (v_X7_body M b) (k + 1) ∧ CB M (v_X7_body M b) ∧ p_X7_body M b := by
  obtain ⟨h1, h2, h3, h4⟩ := h
  have w0 : ¬ Int32.ofNat k < 0 := by rw [n_lt, n_of (by omega), n_0]; omega
  have w20 : ¬ (20 : Int32) ≤ Int32.ofNat k := by rw [n_le, n_of (by omega), n_20]; omega
  unfold v_X1_began v_X7_body p_X7_body
  rw [kk_def, kk_def, h1, h2, if_neg w0, if_neg w20, if_neg w20, if_neg w20, tn_of (by omega)]
  refine ⟨⟨?_, ?_, fun i hi => ?_, h4⟩, ⟨fun i hi => msf_ne hi, fun j hj => msa_ne hj, rfl⟩, nat_in (by omega) (by omega)⟩
  · rw [vsf_at]
    show V.1 1 + 1 = _
    rw [h1, nat1 (by omega)]
  · rw [msf_at]
    show M.1 43 + 1 = _
    rw [h2, nat1 (by omega)]
  · show upd V.2.1 k b i = (msa M 42 (upd (M.2.1 42) k b)).2.1 42 i
    rw [msa_at]
    by_cases z : i = k
    · rw [z, upd_at, upd_at]
    · rw [upd_ne z, upd_ne z]; exact h3 i (by omega)
def bg (V : vT) : List Int32 → vT
  | [] => V
  | b :: l => bg (v_X1_began V b) l
def bd (M : mT) : List Int32 → mT
  | [] => M
  | b :: l => bd (v_X7_body M b) l
theorem bg_app (V : vT) (l1 l2 : List Int32) : bg V (l1 ++ l2) = bg (bg V l1) l2 := by
  induction l1 generalizing V with
  | nil => rfl
  | cons b l ih => exact ih _
theorem bd_app (M : mT) (l1 l2 : List Int32) : bd M (l1 ++ l2) = bd (bd M l1) l2 := by
  induction l1 generalizing M with
  | nil => rfl
  | cons b l ih => exact ih _
theorem bodies {q : Nat} : ∀ (l : List Int32) (V : vT) (M : mT) (k : Nat), BV q V M k → k + l.length ≤ 20 → BV q (bg V l) (bd M l) (k + l.length) ∧ CB M (bd M l) := by
  intro l
  induction l with
  | nil => intro V M k h _; exact ⟨h, CB.rf M⟩
  | cons b l ih =>
    intro V M k h hl
    rw [List.length_cons] at hl
    obtain ⟨h1, h2, -⟩ := one_body (b := b) h (by omega)
    obtain ⟨h3, h4⟩ := ih _ _ (k + 1) h1 (by omega)
    rw [List.length_cons, show k + (l.length + 1) = k + 1 + l.length by omega]
    exact ⟨h3, h2.tr h4⟩
theorem began_q {V : vT} {b : Int32} : (v_X1_began V b).2.2 = V.2.2 := by
  unfold v_X1_began
  rw [kk_def]
  by_cases c : V.1 1 < 0
  · rw [if_pos c]; rfl
  · rw [if_neg c]
    by_cases d : (20 : Int32) ≤ V.1 1
    · rw [if_pos d]; rfl
    · rw [if_neg d]; rfl
theorem bg_q : ∀ (l : List Int32) (V : vT), (bg V l).2.2 = V.2.2 := by
  intro l
  induction l with
  | nil => intro V; rfl
  | cons b l ih => intro V; exact (ih _).trans began_q
/-- what a walk goes through, and its answer -/
def wl (t : Nat) : List Int32 := if t = 2 then [30, 10] else if t = 3 then [40, 30, 10] else if t = 4 then [51, 10] else if t = 5 then [51, 10] else if t = 6 then [70, 10] else [10]
def wv (t : Nat) (x c : Int32) : Int32 := if t = 2 then (x + c) * 3 else if t = 3 then (x + 1 + c) * 3 else if t = 4 then x + c - c else if t = 5 then x + c - c else if t = 6 then (x + c) * 2 else x + c
section
variable {P : pT} {q d : Nat} {V : vT} {x1 x2 x3 x4 w : Int32}
theorem run_10 (hq : V.2.2 = some q) (hm : q ∈ P.1) (hw : v_X1_withBody x1 x2 = w) (hn : ¬ w = -1) (hb : v_X1_bodyOf w x2 = 10) (h4 : x4 ≤ 12) : v_X1_run P (d + 1) V x1 x2 x3 x4 = (x3 + P.2 q 0, v_X1_began V 10) ∧ p_X1_run P (d + 1) V x1 x2 x3 x4 := by
  rw [v_X1_run, p_X1_run, hq, oc_some, oc_some, hw, if_neg hn, if_neg hn, if_pos h4, if_pos h4, hb]
  have pw := p_with x1 x2
  simp +decide only [if_true, if_false, kk_def]
  exact ⟨trivial, pw, p_body_any, p_began, p_above _, hm⟩
theorem run_11 (hq : V.2.2 = some q) (hm : q ∈ P.1) (hw : v_X1_withBody x1 x2 = w) (hn : ¬ w = -1) (hb : v_X1_bodyOf w x2 = 11) (h4 : x4 ≤ 12) {r : Int32 × vT} (hr : v_X1_run P d (v_X1_began V 11) (P.2 q 1) 0 x3 (x4 + 1) = r ∧ p_X1_run P d (v_X1_began V 11) (P.2 q 1) 0 x3 (x4 + 1)) : v_X1_run P (d + 1) V x1 x2 x3 x4 = (r.1 * 2, r.2) ∧ p_X1_run P (d + 1) V x1 x2 x3 x4 := by
  rw [v_X1_run, p_X1_run, hq, oc_some, oc_some, hw, if_neg hn, if_neg hn, if_pos h4, if_pos h4, hb]
  have pw := p_with x1 x2
  simp +decide only [if_true, if_false, kk_def]
  rw [hr.1]
  exact ⟨rfl, pw, p_body_any, p_began, p_above _, hm, hr.2⟩
theorem run_12 (hq : V.2.2 = some q) (hm : q ∈ P.1) (hw : v_X1_withBody x1 x2 = w) (hn : ¬ w = -1) (hb : v_X1_bodyOf w x2 = 12) (h4 : x4 ≤ 12) {r r' : Int32 × vT} (hr : v_X1_run P d (v_X1_began V 12) (P.2 q 1) 1 x3 (x4 + 1) = r ∧ p_X1_run P d (v_X1_began V 12) (P.2 q 1) 1 x3 (x4 + 1)) (hr' : v_X1_run P d r.2 (P.2 q 1) 0 (x3 - P.2 q 2) (x4 + 1) = r' ∧ p_X1_run P d r.2 (P.2 q 1) 0 (x3 - P.2 q 2) (x4 + 1)) : v_X1_run P (d + 1) V x1 x2 x3 x4 = (r.1 ^^^ r'.1, r'.2) ∧ p_X1_run P (d + 1) V x1 x2 x3 x4 := by
  rw [v_X1_run, p_X1_run, hq, oc_some, oc_some, hw, if_neg hn, if_neg hn, if_pos h4, if_pos h4, hb]
  have pw := p_with x1 x2
  simp +decide only [if_true, if_false, kk_def]
  rw [hr.1, hr'.1]
  exact ⟨rfl, pw, p_body_any, p_began, p_above _, hm, hr.2, hr'.2⟩
/-- a body that goes on above: what it makes of the answer -/
def UP (b : Int32) (mv : Int32) (x' : Int32) (g : Int32 → Int32) (P : pT) (q : Nat) (x3 : Int32) : Prop := (b = 20 ∧ mv = 1 ∧ x' = x3 ∧ ∀ v, g v = v + P.2 q 2) ∨ (b = 30 ∧ mv = 0 ∧ x' = x3 ∧ ∀ v, g v = v * 3) ∨ (b = 40 ∧ mv = 0 ∧ x' = x3 + 1 ∧ ∀ v, g v = v) ∨ (b = 50 ∧ mv = 2 ∧ x' = x3 ∧ ∀ v, g v = -v) ∨ (b = 51 ∧ mv = 0 ∧ x' = x3 ∧ ∀ v, g v = v - P.2 q 0) ∨ (b = 60 ∧ mv = 2 ∧ x' = x3 ∧ ∀ v, g v = v ^^^ 5) ∨ (b = 70 ∧ mv = 0 ∧ x' = x3 ∧ ∀ v, g v = v * 2) ∨ (b = 71 ∧ mv = 1 ∧ x' = x3 - P.2 q 2 ∧ ∀ v, g v = v)
theorem run_up {b mv x' u : Int32} {g : Int32 → Int32} (hU : UP b mv x' g P q x3) (hq : V.2.2 = some q) (hm : q ∈ P.1) (hw : v_X1_withBody x1 x2 = w) (hn : ¬ w = -1) (hb : v_X1_bodyOf w x2 = b) (hu : v_X0_above w = u) (h4 : x4 ≤ 12) {r : Int32 × vT} (hr : v_X1_run P d (v_X1_began V b) u mv x' (x4 + 1) = r ∧ p_X1_run P d (v_X1_began V b) u mv x' (x4 + 1)) : v_X1_run P (d + 1) V x1 x2 x3 x4 = (g r.1, r.2) ∧ p_X1_run P (d + 1) V x1 x2 x3 x4 := by
  rw [v_X1_run, p_X1_run, hq, oc_some, oc_some, hw, if_neg hn, if_neg hn, if_pos h4, if_pos h4, hb, hu, kk_def, kk_def]
  have pw := p_with x1 x2
  rw [← hu] at hr
  rw [← hu]
  rcases hU with ⟨rfl, rfl, rfl, hg⟩ | ⟨rfl, rfl, rfl, hg⟩ | ⟨rfl, rfl, rfl, hg⟩ | ⟨rfl, rfl, rfl, hg⟩ | ⟨rfl, rfl, rfl, hg⟩ | ⟨rfl, rfl, rfl, hg⟩ | ⟨rfl, rfl, rfl, hg⟩ | ⟨rfl, rfl, rfl, hg⟩
  all_goals
    simp +decide only [if_true, if_false, kk_def]
    rw [hr.1, hg]
  · exact ⟨rfl, pw, p_body_any, p_began, p_above _, hr.2, hm⟩
  · exact ⟨rfl, pw, p_body_any, p_began, p_above _, hr.2⟩
  · exact ⟨rfl, pw, p_body_any, p_began, p_above _, hr.2⟩
  · exact ⟨rfl, pw, p_body_any, p_began, p_above _, hr.2⟩
  · exact ⟨rfl, pw, p_body_any, p_began, p_above _, hr.2, hm⟩
  · exact ⟨rfl, pw, p_body_any, p_began, p_above _, hr.2⟩
  · exact ⟨rfl, pw, p_body_any, p_began, p_above _, hr.2⟩
  · exact ⟨rfl, pw, p_body_any, p_began, p_above _, hm, hr.2⟩
end
