section
variable {M : mT} {x c : Int32} {t k : Nat}
theorem ll_len : ∀ t, t < 7 → (ll t).length ≤ 6 ∧ (wl t).length ≤ 3 ∧ (sl t).length ≤ 12 := by decide
theorem p_blind (hc : vp_in c 7) : p_X7_isBlind M c := by
  refine ⟨hc, ?_⟩
  split
  · trivial
  · exact hc
theorem lookp (h9 : M.2.1 9 c.toNatClampNeg = Int32.ofNat t) (ht : t < 7) (hc : vp_in c 7) (hk : M.1 43 = Int32.ofNat k) (hk2 : k < 700) : p_X7_looking M c x := by
  have g : ∀ l, (bd M l).2.1 9 c.toNatClampNeg = Int32.ofNat t := fun l => by rw [(cb_bd l M).2.1 9 (by decide)]; exact h9
  have gb : ∀ l, v_X7_isBlind (bd M l) c = (if Int32.ofNat t = 1 then 1 else if Int32.ofNat t = 6 then 1 else 0) := fun l => blind_t (g l)
  have pb : ∀ (l : List Int32) b, l.length ≤ 20 → p_X7_body (bd M l) b := fun l b hl => (mk_body (b := b) (mk_bd l M k hk (by omega)) (by omega)).1
  have pw : ∀ (l : List Int32) x, l.length ≤ 20 → p_X7_walking (bd M l) c x := fun l x hl => walkp (g l) ht hc (mk_bd l M k hk (by omega)) (by omega)
  have pbl : ∀ (b : Prop) [Decidable b], (if b then True else vp_in c 7) := fun b _ => by
    split
    · trivial
    · exact hc
  unfold p_X7_looking
  rw [h9]
  simp only [kk_def]
  rcases (show t = 0 ∨ t = 1 ∨ t = 2 ∨ t = 3 ∨ t = 4 ∨ t = 5 ∨ t = 6 by omega) with e | e | e | e | e | e | e <;> subst e
  · simp +decide only [if_true, if_false]
    rw [show v_X7_isBlind M c = v_X7_isBlind (bd M []) c from rfl, gb []]
    simp +decide only [if_true, if_false]
    exact ⟨hc, trivial, p_blind hc, trivial, pb [] 11 (by decide), pw [11] x (by decide), p_blind hc, pbl _⟩
  · simp +decide only [if_true, if_false]
    rw [show v_X7_isBlind M c = v_X7_isBlind (bd M []) c from rfl, gb []]
    simp +decide only [if_true, if_false]
    exact ⟨hc, trivial, p_blind hc, pb [] 20 (by decide), pb [20] 11 (by decide), pw [20, 11] x (by decide), p_blind hc, pbl _⟩
  · simp +decide only [if_true, if_false]
    rw [show v_X7_isBlind M c = v_X7_isBlind (bd M []) c from rfl, gb []]
    simp +decide only [if_true, if_false]
    exact ⟨hc, trivial, p_blind hc, trivial, pb [] 11 (by decide), pw [11] x (by decide), p_blind hc, pbl _⟩
  · simp +decide only [if_true, if_false]
    rw [show v_X7_isBlind M c = v_X7_isBlind (bd M []) c from rfl, gb []]
    simp +decide only [if_true, if_false]
    exact ⟨hc, trivial, p_blind hc, trivial, pb [] 11 (by decide), pw [11] x (by decide), p_blind hc, pbl _⟩
  · simp +decide only [if_true, if_false]
    rw [show v_X7_isBlind M c = v_X7_isBlind (bd M []) c from rfl, gb []]
    simp +decide only [if_true, if_false]
    exact ⟨hc, trivial, p_blind hc, trivial, pb [] 11 (by decide), pw [11] x (by decide), p_blind hc, pbl _⟩
  · simp +decide only [if_true, if_false]
    rw [show v_X7_isBlind M c = v_X7_isBlind (bd M []) c from rfl, gb []]
    simp +decide only [if_true, if_false]
    exact ⟨hc, trivial, p_blind hc, trivial, pb [] 11 (by decide), pw [11] x (by decide), p_blind hc, pbl _⟩
  · simp +decide only [if_true, if_false]
    rw [show v_X7_isBlind (v_X7_body M 71) c = v_X7_isBlind (bd M [71]) c from rfl, gb [71]]
    simp +decide only [if_true, if_false]
    have q1 : p_X7_body M 71 := pb [] 71 (by decide)
    have q2 : p_X7_body (v_X7_body M 71) 20 := pb [71] 20 (by decide)
    have q3 : p_X7_body (v_X7_body (v_X7_body M 71) 20) 11 := pb [71, 20] 11 (by decide)
    have q4 : ∀ x, p_X7_walking (v_X7_body (v_X7_body (v_X7_body M 71) 20) 11) c x := fun x => pw [71, 20, 11] x (by decide)
    have q5 : ∀ x, v_X7_walking (v_X7_body (v_X7_body (v_X7_body M 71) 20) 11) c x = (wv 6 x c, bd M ([71, 20, 11] ++ wl 6)) := fun x => by
      rw [show v_X7_body (v_X7_body (v_X7_body M 71) 20) 11 = bd M [71, 20, 11] from rfl, walkm (g [71, 20, 11]) (by decide), bd_app]
    rw [q5]
    dsimp only
    rw [gb]
    exact ⟨hc, ⟨q1, hc⟩, p_blind hc, q2, q3, q4 _, p_blind hc, hc⟩
theorem stopm (h9 : M.2.1 9 c.toNatClampNeg = Int32.ofNat t) (ht : t < 7) : v_X7_stopping M c x = (sv t x c (M.2.1 10 c.toNatClampNeg), bd M (sl t)) := by
  have g : ∀ l, (bd M l).2.1 9 c.toNatClampNeg = Int32.ofNat t := fun l => by rw [(cb_bd l M).2.1 9 (by decide)]; exact h9
  have g10 : ∀ l, (bd M l).2.1 10 = M.2.1 10 := fun l => (cb_bd l M).2.1 10 (by decide)
  have gl : ∀ l x, v_X7_looking (bd M l) c x = (lv t x c (M.2.1 10 c.toNatClampNeg), bd M (l ++ ll t)) := fun l x => by rw [lookm (g l) ht, g10, bd_app]
  have gw : ∀ l x, v_X7_walking (bd M l) c x = (wv t x c, bd M (l ++ wl t)) := fun l x => by rw [walkm (g l) ht, bd_app]
  unfold v_X7_stopping
  rw [h9]
  simp only [kk_def]
  by_cases e5 : t = 5
  · subst e5
    simp +decide only [if_true, if_false]
    rw [show v_X7_body (v_X7_body (v_X7_body M 60) 50) 12 = bd M [60, 50, 12] from rfl, gl [60, 50, 12]]
    dsimp only
    rw [g10, gw, List.append_assoc]
    rfl
  · by_cases e4 : t = 4
    · subst e4
      simp +decide only [if_true, if_false]
      rw [show v_X7_body (v_X7_body M 50) 12 = bd M [50, 12] from rfl, gl [50, 12]]
      dsimp only
      rw [g10, gw, List.append_assoc]
      rfl
    · have h5 : ¬ Int32.ofNat t = 5 := fun q => by rw [n_eq, n_of (by omega), n_5] at q; omega
      have h4 : ¬ Int32.ofNat t = 4 := fun q => by rw [n_eq, n_of (by omega), n_4] at q; omega
      simp only [if_neg h5, if_neg h4]
      rw [show v_X7_body M 12 = bd M [12] from rfl, gl [12]]
      dsimp only
      rw [g10, gw, List.append_assoc]
      unfold sv sl
      rw [if_neg e5, if_neg e4, if_neg e5, if_neg e4]
theorem stopp (h9 : M.2.1 9 c.toNatClampNeg = Int32.ofNat t) (ht : t < 7) (hc : vp_in c 7) (hk : M.1 43 = Int32.ofNat k) (hk2 : k < 600) : p_X7_stopping M c x := by
  have g : ∀ l, (bd M l).2.1 9 c.toNatClampNeg = Int32.ofNat t := fun l => by rw [(cb_bd l M).2.1 9 (by decide)]; exact h9
  have g10 : ∀ l, (bd M l).2.1 10 = M.2.1 10 := fun l => (cb_bd l M).2.1 10 (by decide)
  have gl : ∀ l x, v_X7_looking (bd M l) c x = (lv t x c (M.2.1 10 c.toNatClampNeg), bd M (l ++ ll t)) := fun l x => by rw [lookm (g l) ht, g10, bd_app]
  have pb : ∀ (l : List Int32) b, l.length ≤ 20 → p_X7_body (bd M l) b := fun l b hl => (mk_body (b := b) (mk_bd l M k hk (by omega)) (by omega)).1
  have pw : ∀ (l : List Int32) x, l.length ≤ 20 → p_X7_walking (bd M l) c x := fun l x hl => walkp (g l) ht hc (mk_bd l M k hk (by omega)) (by omega)
  have pl : ∀ (l : List Int32) x, l.length ≤ 20 → p_X7_looking (bd M l) c x := fun l x hl => lookp (g l) ht hc (mk_bd l M k hk (by omega)) (by omega)
  obtain ⟨n1, -, -⟩ := ll_len t ht
  unfold p_X7_stopping
  rw [h9]
  simp only [kk_def]
  by_cases e5 : t = 5
  · subst e5
    simp +decide only [if_true, if_false]
    rw [show v_X7_body (v_X7_body (v_X7_body M 60) 50) 12 = bd M [60, 50, 12] from rfl, gl [60, 50, 12]]
    exact ⟨hc, pb [] 60 (by decide), pb [60] 50 (by decide), pb [60, 50] 12 (by decide), pl [60, 50, 12] x (by decide), hc, pw _ _ (by decide)⟩
  · by_cases e4 : t = 4
    · subst e4
      simp +decide only [if_true, if_false]
      rw [show v_X7_body (v_X7_body M 50) 12 = bd M [50, 12] from rfl, gl [50, 12]]
      exact ⟨hc, trivial, pb [] 50 (by decide), pb [50] 12 (by decide), pl [50, 12] x (by decide), hc, pw _ _ (by decide)⟩
    · have h5 : ¬ Int32.ofNat t = 5 := fun q => by rw [n_eq, n_of (by omega), n_5] at q; omega
      have h4 : ¬ Int32.ofNat t = 4 := fun q => by rw [n_eq, n_of (by omega), n_4] at q; omega
      simp only [if_neg h5, if_neg h4]
      rw [show v_X7_body M 12 = bd M [12] from rfl, gl [12]]
      exact ⟨hc, trivial, trivial, pb [] 12 (by decide), pl [12] x (by decide), hc, pw _ _ (by rw [List.length_append]; show 1 + _ ≤ _; omega)⟩
end
section
variable {P : pT} {N : nT} {R Q : rT} {V : vT} {F : fT} {M : mT}
theorem RA_cb {V' : vT} {M' : mT} (h : RA P N R Q V F M) (c : CB M M') (hV : RV V' M') : RA P N R Q V' F M' := by
  obtain ⟨⟨n1, n2, n3, n4⟩, hF, hR, hQ, -, ⟨c1, c2, c3, c4⟩⟩ := h
  obtain ⟨e1, e2, e3⟩ := c
  refine ⟨⟨fun j hj => by rw [e2 8 (by decide)]; exact n1 j hj, n2.trans (e1 7 (by decide)).symm, n3.trans (e1 44 (by decide)).symm, n4⟩, fun s hs => RS_congr (by rw [e2 16 (by decide)]) (by rw [e2 17 (by decide)]) (by rw [e2 18 (by decide)]) (by rw [e2 19 (by decide)]) (fun i _ => by rw [e3]) (e1 0 (by decide)) (hF s hs), RD_congr (fun j hj c _ => by show M'.2.1 (9 + j) c = _; rw [e2 (9 + j) (by omega)]) (fun i hi => e1 i (by omega)) hR, fun hi => RD_congr (fun j _ c _ => by show M'.2.1 32 _ = _; rw [e2 32 (by decide)]) (fun i _ => by show M'.2.1 32 _ = _; rw [e2 32 (by decide)]) (hQ hi), hV, ⟨(e1 36 (by decide)).trans c1, fun i hi => by rw [e2 22 (by decide)]; exact c2 i hi, fun i hi => by rw [e2 23 (by decide)]; exact c3 i hi, fun i hi => by rw [e2 24 (by decide)]; exact c4 i hi⟩⟩
theorem BV.rv {q k : Nat} {V : vT} {M : mT} (h : BV q V M k) (hk : k ≤ 20) : RV V M := by
  obtain ⟨h1, h2, h3, -⟩ := h
  refine ⟨by rw [h1, h2], by rw [h2, n_of (by omega)]; omega, fun i _ hi => h3 i ?_⟩
  rw [h2, n_of (by omega)] at hi
  omega
theorem cb43 {v : Int32} : CB M (msf M 43 v) := ⟨fun i hi => msf_ne hi, fun _ _ => rfl, rfl⟩
theorem rv0 (o : Option Nat) : RV (vso (vsf V 1 0) o) (msf M 43 0) := ⟨rfl, by rw [msf_at]; decide, fun i _ hi => by rw [msf_at, n_0] at hi; omega⟩
theorem op_act (h : RA P N R Q V F M) (x1 x2 x3 : Int32) : p_X6_act P N R V x1 x2 x3 ∧ p_X7_act M x1 x2 x3 ∧ (v_X6_act P N R V x1 x2 x3).1 = (v_X7_act M x1 x2 x3).1 ∧ RA P N R Q (v_X6_act P N R V x1 x2 x3).2 F (v_X7_act M x1 x2 x3).2 := by
  have hR := h.2.2.1
  have pa := p_at hR x1
  have r0 := fun o => RA_cb (V' := vso (vsf V 1 0) o) h cb43 (rv0 o)
  have ic : v_X7_isComer (msf M 43 0) x1 = v_X7_isComer M x1 := rfl
  unfold p_X6_act p_X7_act v_X6_act v_X7_act
  rw [ic]
  by_cases z : isC M.1 x1
  · obtain ⟨q, a1, a2, a3, a4, a5, -⟩ := at_in hR z
    obtain ⟨-, h2, h7⟩ := hasne h z
    rw [a1, oc_some, oc_some, kk_def, if_neg h2, if_neg h2]
    unfold p_X1_start v_X1_start
    rw [oc_some, oc_some, kk_def]
    by_cases w : v_X6_within x2 0 2 = 0
    · rw [if_pos w, if_pos w, if_pos w]
      rw [within_iff, n_0, n_2] at w
      by_cases d : x2 < 0
      · rw [if_pos d, if_pos d]
        exact ⟨⟨pa, trivial⟩, trivial, rfl, r0 _⟩
      · have d2 : ¬ x2 ≤ 2 := by rw [n_lt, n_0] at d; rw [n_le, n_2]; omega
        rw [if_neg d, if_neg d, if_neg d2, if_neg d2]
        exact ⟨⟨pa, trivial⟩, trivial, rfl, r0 _⟩
    · rw [if_neg w, if_neg w, if_neg w]
      have hb := wneg w
      rw [n_0, n_2] at hb
      have d : ¬ x2 < 0 := by rw [n_lt, n_0]; omega
      have d2 : x2 ≤ 2 := by rw [n_le, n_2]; omega
      rw [if_neg d, if_neg d, if_pos d2, if_pos d2, kk_def]
      -- the kind
      have hk := (hR.cm z).2.2.1
      obtain ⟨t, ht, et⟩ : ∃ t : Nat, t < 7 ∧ mD M 0 x1.toNatClampNeg = Int32.ofNat t := ⟨(mD M 0 x1.toNatClampNeg).toNatClampNeg, by rw [n_tn]; omega, n_back hk.1⟩
      rw [et] at a4
      rw [isC_eq z] at a3
      have h9 : (msf M 43 0).2.1 9 x1.toNatClampNeg = Int32.ofNat t := et
      have hbv : BV q (vso (vsf V 1 0) (some q)) (msf M 43 0) 0 := ⟨rfl, msf_at, fun i hi => absurd hi (by omega), rfl⟩
      have hq : (vso (vsf V 1 0) (some q)).2.2 = some q := rfl
      have hk0 : (msf M 43 0).1 43 = Int32.ofNat 0 := msf_at
      obtain ⟨n1, n2, n3⟩ := ll_len t ht
      have fin : ∀ l : List Int32, l.length ≤ 20 → RA P N R Q (bg (vso (vsf V 1 0) (some q)) l) F (bd (msf M 43 0) l) := fun l hl => by
        obtain ⟨g1, g2⟩ := bodies l _ _ 0 hbv (by omega)
        exact RA_cb h (cb43.tr g2) (g1.rv (by omega))
      rw [a4]
      by_cases w0 : x2 = 0
      · subst w0
        obtain ⟨e1, e2⟩ := walkx (d := 13) (k := 0) (t := t) (V := vso (vsf V 1 0) (some q)) (x := x3) a2 hq a3 ht (by omega)
        have e3 := walkm (x := x3) h9 ht
        have e4 := walkp (x := x3) h9 ht h7 hk0 (by omega)
        rw [if_pos rfl, if_pos rfl, if_pos rfl, show v_X1_run P 16 (vso (vsf V 1 0) (some q)) (Int32.ofNat t) 0 x3 0 = _ from e1, e3]
        exact ⟨⟨pa, a2, e2⟩, e4, rfl, fin _ (by omega)⟩
      · rw [if_neg w0, if_neg w0, if_neg w0]
        by_cases w1 : x2 = 1
        · subst w1
          obtain ⟨e1, e2⟩ := lookx (d := 10) (k := 0) (t := t) (V := vso (vsf V 1 0) (some q)) (x := x3) a2 hq a3 a4 a5 ht (by omega)
          have e3 := lookm (x := x3) h9 ht
          have e4 := lookp (x := x3) h9 ht h7 hk0 (by omega)
          rw [if_pos rfl, if_pos rfl, if_pos rfl, show v_X1_run P 16 (vso (vsf V 1 0) (some q)) (Int32.ofNat t) 1 x3 0 = _ from e1, e3]
          exact ⟨⟨pa, a2, e2⟩, e4, rfl, fin _ (by omega)⟩
        · have w2 : x2 = 2 := by
            rw [n_eq, n_0] at w0
            rw [n_eq, n_1] at w1
            rw [n_eq, n_2]
            omega
          subst w2
          obtain ⟨e1, e2⟩ := stopx (d := 7) (k := 0) (t := t) (V := vso (vsf V 1 0) (some q)) (x := x3) a2 hq a3 a4 a5 ht (by omega)
          have e3 := stopm (x := x3) h9 ht
          have e4 := stopp (x := x3) h9 ht h7 hk0 (by omega)
          rw [if_neg w1, if_neg w1, if_neg w1, show v_X1_run P 16 (vso (vsf V 1 0) (some q)) (Int32.ofNat t) 2 x3 0 = _ from e1, e3]
          exact ⟨⟨pa, a2, e2⟩, e4, rfl, fin _ (by omega)⟩
  · obtain ⟨-, h2⟩ := has0 h z
    rw [at_out hR z, oc_none, oc_none, kk_def, if_pos h2, if_pos h2]
    exact ⟨⟨pa, trivial⟩, trivial, rfl, r0 none⟩
end
