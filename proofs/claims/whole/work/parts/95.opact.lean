/-! the reference's moves -/
theorem cb_body {M : mT} {b : Int32} : CB M (v_X7_body M b) := by
  unfold v_X7_body
  rw [kk_def]
  by_cases c : (20 : Int32) ≤ M.1 43
  · rw [if_pos c]
    exact ⟨fun i hi => msf_ne hi, fun _ _ => rfl, rfl⟩
  · rw [if_neg c]
    exact ⟨fun i hi => msf_ne hi, fun j hj => msa_ne hj, rfl⟩
theorem cb_bd : ∀ (l : List Int32) (M : mT), CB M (bd M l) := by
  intro l
  induction l with
  | nil => intro M; exact CB.rf M
  | cons b l ih => intro M; exact cb_body.tr (ih _)
theorem mk_body {M : mT} {k : Nat} {b : Int32} (h : M.1 43 = Int32.ofNat k) (hk : k < 900) : p_X7_body M b ∧ (v_X7_body M b).1 43 = Int32.ofNat (k + 1) := by
  unfold p_X7_body v_X7_body
  rw [kk_def, h]
  by_cases c : (20 : Int32) ≤ Int32.ofNat k
  · rw [if_pos c, if_pos c]
    exact ⟨trivial, by rw [msf_at, h, nat1 (by omega)]⟩
  · rw [if_neg c, if_neg c]
    rw [n_le, n_of (by omega), n_20] at c
    exact ⟨nat_in (by omega) (by omega), by
      rw [msf_at]
      show M.1 43 + 1 = _
      rw [h, nat1 (by omega)]⟩
theorem mk_bd : ∀ (l : List Int32) (M : mT) (k : Nat), M.1 43 = Int32.ofNat k → k + l.length < 900 → (bd M l).1 43 = Int32.ofNat (k + l.length) := by
  intro l
  induction l with
  | nil => intro M k h _; exact h
  | cons b l ih =>
    intro M k h hl
    rw [List.length_cons] at hl
    have := ih _ (k + 1) (mk_body (b := b) h (by omega)).2 (by omega)
    rw [List.length_cons, show k + (l.length + 1) = k + 1 + l.length by omega]
    exact this
section
variable {M : mT} {x c : Int32} {t k : Nat}
theorem walkm (h9 : M.2.1 9 c.toNatClampNeg = Int32.ofNat t) (ht : t < 7) : v_X7_walking M c x = (wv t x c, bd M (wl t)) := by
  unfold v_X7_walking
  rw [h9]
  simp only [kk_def]
  rcases (show t = 0 ∨ t = 1 ∨ t = 2 ∨ t = 3 ∨ t = 4 ∨ t = 5 ∨ t = 6 by omega) with e | e | e | e | e | e | e <;> subst e
  · rfl
  · rfl
  · rfl
  · rfl
  · rfl
  · rfl
  · rfl
theorem walkp (h9 : M.2.1 9 c.toNatClampNeg = Int32.ofNat t) (ht : t < 7) (hc : vp_in c 7) (hk : M.1 43 = Int32.ofNat k) (hk2 : k < 800) : p_X7_walking M c x := by
  unfold p_X7_walking
  rw [h9]
  simp only [kk_def]
  have p1 : ∀ a, p_X7_body M a := fun a => (mk_body (b := a) hk (by omega)).1
  have p2 : ∀ a a', p_X7_body (v_X7_body M a) a' := fun a a' => (mk_body (b := a') (mk_body (b := a) hk (by omega)).2 (by omega)).1
  have p3 : ∀ a a' a'', p_X7_body (v_X7_body (v_X7_body M a) a') a'' := fun a a' a'' => (mk_body (b := a'') (mk_body (b := a') (mk_body (b := a) hk (by omega)).2 (by omega)).2 (by omega)).1
  rcases (show t = 0 ∨ t = 1 ∨ t = 2 ∨ t = 3 ∨ t = 4 ∨ t = 5 ∨ t = 6 by omega) with e | e | e | e | e | e | e <;> subst e
  · exact ⟨hc, trivial, trivial, trivial, trivial, p1 10⟩
  · exact ⟨hc, trivial, trivial, trivial, trivial, p1 10⟩
  · exact ⟨hc, trivial, p1 30, trivial, trivial, p2 30 10⟩
  · exact ⟨hc, p1 40, p2 40 30, trivial, trivial, p3 40 30 10⟩
  · exact ⟨hc, trivial, trivial, p1 51, trivial, p2 51 10⟩
  · exact ⟨hc, trivial, trivial, p1 51, trivial, p2 51 10⟩
  · exact ⟨hc, trivial, trivial, trivial, p1 70, p2 70 10⟩
theorem blind_t (h9 : M.2.1 9 c.toNatClampNeg = Int32.ofNat t) : v_X7_isBlind M c = (if Int32.ofNat t = 1 then 1 else if Int32.ofNat t = 6 then 1 else 0) := by
  unfold v_X7_isBlind
  rw [h9]
theorem lookm (h9 : M.2.1 9 c.toNatClampNeg = Int32.ofNat t) (ht : t < 7) : v_X7_looking M c x = (lv t x c (M.2.1 10 c.toNatClampNeg), bd M (ll t)) := by
  have g : ∀ l, (bd M l).2.1 9 c.toNatClampNeg = Int32.ofNat t := fun l => by rw [(cb_bd l M).2.1 9 (by decide)]; exact h9
  have g10 : ∀ l, (bd M l).2.1 10 = M.2.1 10 := fun l => (cb_bd l M).2.1 10 (by decide)
  have gb : ∀ l, v_X7_isBlind (bd M l) c = (if Int32.ofNat t = 1 then 1 else if Int32.ofNat t = 6 then 1 else 0) := fun l => blind_t (g l)
  have gw : ∀ l x, v_X7_walking (bd M l) c x = (wv t x c, bd M (l ++ wl t)) := fun l x => by rw [walkm (g l) ht, bd_app]
  unfold v_X7_looking
  rw [h9]
  simp only [kk_def]
  rcases (show t = 0 ∨ t = 1 ∨ t = 2 ∨ t = 3 ∨ t = 4 ∨ t = 5 ∨ t = 6 by omega) with e | e | e | e | e | e | e <;> subst e
  · simp +decide only [if_true, if_false]
    rw [show v_X7_isBlind M c = v_X7_isBlind (bd M []) c from rfl, gb []]
    simp +decide only [if_true, if_false]
    rw [show v_X7_body M 11 = bd M [11] from rfl, gw [11], gb ([11] ++ wl 0)]
    simp +decide only [if_true, if_false]
    rfl
  · simp +decide only [if_true, if_false]
    rw [show v_X7_isBlind M c = v_X7_isBlind (bd M []) c from rfl, gb []]
    simp +decide only [if_true, if_false]
    rw [show v_X7_body (v_X7_body M 20) 11 = bd M [20, 11] from rfl, gw [20, 11], gb ([20, 11] ++ wl 1), g10]
    simp +decide only [if_true, if_false]
    rfl
  · simp +decide only [if_true, if_false]
    rw [show v_X7_isBlind M c = v_X7_isBlind (bd M []) c from rfl, gb []]
    simp +decide only [if_true, if_false]
    rw [show v_X7_body M 11 = bd M [11] from rfl, gw [11], gb ([11] ++ wl 2)]
    simp +decide only [if_true, if_false]
    rfl
  · simp +decide only [if_true, if_false]
    rw [show v_X7_isBlind M c = v_X7_isBlind (bd M []) c from rfl, gb []]
    simp +decide only [if_true, if_false]
    rw [show v_X7_body M 11 = bd M [11] from rfl, gw [11], gb ([11] ++ wl 3)]
    simp +decide only [if_true, if_false]
    rfl
  · simp +decide only [if_true, if_false]
    rw [show v_X7_isBlind M c = v_X7_isBlind (bd M []) c from rfl, gb []]
    simp +decide only [if_true, if_false]
    rw [show v_X7_body M 11 = bd M [11] from rfl, gw [11], gb ([11] ++ wl 4)]
    simp +decide only [if_true, if_false]
    rfl
  · simp +decide only [if_true, if_false]
    rw [show v_X7_isBlind M c = v_X7_isBlind (bd M []) c from rfl, gb []]
    simp +decide only [if_true, if_false]
    rw [show v_X7_body M 11 = bd M [11] from rfl, gw [11], gb ([11] ++ wl 5)]
    simp +decide only [if_true, if_false]
    rfl
  · simp +decide only [if_true, if_false]
    rw [show v_X7_isBlind (v_X7_body M 71) c = v_X7_isBlind (bd M [71]) c from rfl, gb [71]]
    simp +decide only [if_true, if_false]
    rw [show v_X7_body (v_X7_body (v_X7_body M 71) 20) 11 = bd M [71, 20, 11] from rfl, gw [71, 20, 11], gb ([71, 20, 11] ++ wl 6), g10, show (v_X7_body M 71).2.1 10 = M.2.1 10 from g10 [71]]
    simp +decide only [if_true, if_false]
    rfl
end
