/-! new comers -/
def PE (P1 P2 : pT) : Prop := ∀ q, q ∈ P1.1 → q ∈ P2.1 ∧ P2.2 q = P1.2 q
theorem PE.rf (P : pT) : PE P P := fun q h => ⟨h, rfl⟩
theorem PE.tr {P1 P2 P3 : pT} (h1 : PE P1 P2) (h2 : PE P2 P3) : PE P1 P3 := fun q h => ⟨(h2 q (h1 q h).1).1, (h2 q (h1 q h).1).2.trans (h1 q h).2⟩
theorem RQ_ext {P1 P2 : pT} {R : rT} {D : Nat → Nat → Int32} {c : Nat} (h : PE P1 P2) (hq : RQ P1 R D c) : RQ P2 R D c := by
  obtain ⟨q, m, e, a⟩ := hq
  exact ⟨q, (h q m).1, e, by rw [(h q m).2]; exact a⟩
theorem RD_ext {P1 P2 : pT} {R : rT} {D : Nat → Nat → Int32} {E : Nat → Int32} (h : PE P1 P2) (hR : RD P1 R D E) : RD P2 R D E := by
  obtain ⟨a, b, c, d⟩ := hR
  exact ⟨a, b, fun k hk => ⟨RQ_ext h (c k hk).1, (c k hk).2⟩, fun k hk q e => (h q (d k hk q e)).1⟩
theorem RA_ext {P1 P2 : pT} {N : nT} {R Q : rT} {V : vT} {F : fT} {M : mT} (h : PE P1 P2) (hA : RA P1 N R Q V F M) : RA P2 N R Q V F M := by
  obtain ⟨a, b, c, d, e⟩ := hA
  exact ⟨a, b, RD_ext h c, fun hi => RD_ext h (d hi), e⟩
/-- new ones: none of them was there, and no two are one -/
def FR (P : pT) (L : LL) : Prop := (∀ e, e ∈ L → e.1 ∉ P.1) ∧ (L.map Prod.fst).Nodup
theorem FR.nil (P : pT) : FR P [] := ⟨fun e h => absurd h (List.not_mem_nil), List.nodup_nil⟩
theorem FR.left {P : pT} {L1 L2 : LL} (h : FR P (L1 ++ L2)) : FR P L1 := by
  refine ⟨fun e he => h.1 e (List.mem_append_left _ he), ?_⟩
  have h2 := h.2
  rw [List.map_append] at h2
  exact (List.nodup_append.mp h2).1
theorem pAdd_in (P : pT) (L : LL) (q : Nat) : q ∈ (pAdd P L).1 ↔ (∃ e, e ∈ L ∧ e.1 = q) ∨ q ∈ P.1 := by
  show q ∈ L.map Prod.fst ++ P.1 ↔ _
  rw [List.mem_append, List.mem_map]
theorem pAdd_old {P : pT} {L : LL} {q : Nat} (h : ∀ e, e ∈ L → e.1 ≠ q) : (pAdd P L).2 q = P.2 q := by
  show (match L.find? (fun e => e.1 == q) with | some e => e.2 | none => P.2 q) = P.2 q
  rw [List.find?_eq_none.mpr (fun e he => by
    have := h e he
    intro hh
    exact this (by simpa using hh))]
theorem pAdd_new {P : pT} {L : LL} (hn : (L.map Prod.fst).Nodup) {e : Nat × (Nat → Int32)} (he : e ∈ L) : (pAdd P L).2 e.1 = e.2 := by
  show (match L.find? (fun x => x.1 == e.1) with | some e => e.2 | none => P.2 e.1) = e.2
  have key : ∀ L : LL, (L.map Prod.fst).Nodup → e ∈ L → L.find? (fun x => x.1 == e.1) = some e := by
    intro L
    induction L with
    | nil => intro _ h; exact absurd h List.not_mem_nil
    | cons a L ih =>
      intro hn he
      rw [List.map_cons, List.nodup_cons] at hn
      rcases List.mem_cons.mp he with h | h
      · rw [← h, List.find?_cons_of_pos]
        exact beq_self_eq_true e.1
      · rw [List.find?_cons_of_neg]
        · exact ih hn.2 h
        · intro hh
          have e1 : a.1 = e.1 := by simpa using hh
          exact hn.1 (e1 ▸ List.mem_map_of_mem h)
  rw [key L hn he]
theorem PE_add {P : pT} {L : LL} (h : ∀ e, e ∈ L → e.1 ∉ P.1) : PE P (pAdd P L) := fun q hq => ⟨(pAdd_in P L q).mpr (Or.inr hq), pAdd_old (fun e he c => h e he (c ▸ hq))⟩
theorem PE_app {P : pT} {L1 L2 : LL} (h : FR P (L1 ++ L2)) : PE (pAdd P L1) (pAdd P (L1 ++ L2)) := by
  intro q hq
  refine ⟨?_, ?_⟩
  · rw [pAdd_in] at hq ⊢
    rcases hq with ⟨e, h1, h2⟩ | hq
    · exact Or.inl ⟨e, List.mem_append_left _ h1, h2⟩
    · exact Or.inr hq
  · rw [pAdd_in] at hq
    rcases hq with ⟨e, h1, h2⟩ | hq
    · rw [← h2, pAdd_new h.2 (List.mem_append_left _ h1), pAdd_new h.left.2 h1]
    · rw [pAdd_old (fun e he c => h.1 e he (c ▸ hq)), pAdd_old (fun e he c => h.left.1 e he (c ▸ hq))]
/-- one comer more -/
theorem RD_more {P1 P2 : pT} {R : rT} {D : Nat → Nat → Int32} {E : Nat → Int32} (hP : PE P1 P2) (h : RD P1 R D E) {x1 x2 x3 x4 x5 x6 : Int32} {q : Nat} (hlt : (E 0).toInt < 7) (hq : q ∈ P2.1) (hv : P2.2 q = v_X0_init (fun _ => 0) (R.1 4) x1 x2 x4 x5) (b1 : 0 ≤ x1.toInt ∧ x1.toInt ≤ 6) (b2 : 0 ≤ x2.toInt ∧ x2.toInt ≤ 9) (b3 : 0 ≤ x3.toInt ∧ x3.toInt ≤ 30) (b4 : 1 ≤ x4.toInt ∧ x4.toInt ≤ 9) (b5 : 0 ≤ x5.toInt ∧ x5.toInt ≤ 9) (b6 : 0 ≤ x6.toInt ∧ x6.toInt ≤ 999) {D' : Nat → Nat → Int32} {E' : Nat → Int32} (hD : ∀ j, j < 7 → ∀ c, c < 7 → D' j c = if c = (E 0).toNatClampNeg then (if j = 0 then x1 else if j = 1 then x2 else if j = 2 then x3 else if j = 3 then x4 else if j = 4 then x5 else if j = 5 then x6 else 0) else D j c) (hE : ∀ i, i < 7 → E' i = if i = 0 then E 0 + 1 else E i) : RD P2 (rsf (rsa (rsa (rsa (rsc R (va_up R.2.2 (R.1 4).toNatClampNeg (some q))) 1 (upd (R.2.1 1) (R.1 4).toNatClampNeg x3)) 2 (upd (R.2.1 2) (R.1 4).toNatClampNeg x6)) 3 (upd (R.2.1 3) (R.1 4).toNatClampNeg 0)) 4 ((R.1 4) + 1)) D' E' := by
  obtain ⟨⟨a4, a5, a6, a7, a8, a9, a10⟩, ⟨o0, o1, o2, o3, o4⟩, hc, hr⟩ := h
  have en : (R.1 4).toNatClampNeg = (E 0).toNatClampNeg := by rw [a4]
  have e1 : (E 0 + 1).toInt = (E 0).toInt + 1 := by rw [n_add (by rw [n_1]; omega) (by rw [n_1]; omega), n_1]
  have hE0 : E' 0 = E 0 + 1 := by rw [hE 0 (by omega), if_pos rfl]
  have hEi : ∀ i, i < 7 → i ≠ 0 → E' i = E i := fun i h1 h2 => by rw [hE i h1, if_neg h2]
  rw [en]
  generalize hk : (E 0).toNatClampNeg = k at *
  have hk2 : (E 0).toInt = (k : Int) := by rw [← hk, n_tn]; omega
  have ek : R.1 4 = Int32.ofNat k := by rw [a4, n_eq, n_of (by omega)]; exact hk2
  refine ⟨⟨?_, ?_, ?_, ?_, ?_, ?_, ?_⟩, ⟨?_, ?_, ?_, ?_, ?_⟩, fun c hlt => ?_, fun c hc7 q' e => ?_⟩
  · rw [hE0, ← a4]; rfl
  · rw [hEi 1 (by omega) (by omega), ← a5]; rfl
  · rw [hEi 2 (by omega) (by omega), ← a6]; rfl
  · rw [hEi 3 (by omega) (by omega), ← a7]; rfl
  · rw [hEi 4 (by omega) (by omega), ← a8]; rfl
  · rw [hEi 5 (by omega) (by omega), ← a9]; rfl
  · rw [hEi 6 (by omega) (by omega), ← a10]; rfl
  · rw [hE0, e1]; omega
  · rw [hEi 1 (by omega) (by omega)]; exact o1
  · rw [hEi 2 (by omega) (by omega)]; exact o2
  · rw [hEi 3 (by omega) (by omega)]; exact o3
  · rw [hEi 4 (by omega) (by omega)]; exact o4
  · rw [hE0, e1] at hlt
    by_cases z : c = k
    · subst z
      have d : ∀ j, j < 7 → D' j c = (if j = 0 then x1 else if j = 1 then x2 else if j = 2 then x3 else if j = 3 then x4 else if j = 4 then x5 else if j = 5 then x6 else 0) := fun j hj => by rw [hD j hj c (by omega), if_pos rfl]
      have d0 : D' 0 c = x1 := d 0 (by omega)
      have d1 : D' 1 c = x2 := d 1 (by omega)
      have d2 : D' 2 c = x3 := d 2 (by omega)
      have d3 : D' 3 c = x4 := d 3 (by omega)
      have d4 : D' 4 c = x5 := d 4 (by omega)
      have d5 : D' 5 c = x6 := d 5 (by omega)
      have d6 : D' 6 c = 0 := d 6 (by omega)
      refine ⟨⟨q, hq, up_at, ?_⟩, ⟨?_, ?_, ?_⟩, ?_⟩
      · rw [hv, d0, d1, d3, d4, ek]
        exact ⟨rfl, rfl, rfl, rfl, rfl⟩
      · rw [d2]; exact upd_at
      · rw [d5]; exact upd_at
      · rw [d6]; exact upd_at
      · unfold OKc
        rw [d0, d1, d2, d3, d4, d5, d6, n_0]
        exact ⟨b1, b2, b3, b4, b5, b6, by omega, by omega⟩
    · have hc7 : c < 7 := by omega
      have d : ∀ j, j < 7 → D' j c = D j c := fun j hj => by rw [hD j hj c hc7, if_neg z]
      obtain ⟨⟨q', m, e, a⟩, ⟨r1, r2, r3⟩, r4⟩ := hc c (by omega)
      refine ⟨RQ_congr d ⟨q', (hP q' m).1, (up_ne z).trans e, by rw [(hP q' m).2]; exact a⟩, ⟨?_, ?_, ?_⟩, OKc_congr d r4⟩
      · rw [d 2 (by omega), ← r1]; exact upd_ne z
      · rw [d 5 (by omega), ← r2]; exact upd_ne z
      · rw [d 6 (by omega), ← r3]; exact upd_ne z
  · have e' : va_up R.2.2 k (some q) c = some q' := e
    by_cases z : c = k
    · rw [z, up_at] at e'
      cases e'
      exact hq
    · rw [up_ne z] at e'
      exact (hP q' (hr c hc7 q' e')).1
/-- what adds leaves in the reference -/
theorem adds_D {M : mT} {x1 x2 x3 x4 x5 x6 : Int32} : (∀ j, j < 7 → ∀ c, (v_X7_adds M x1 x2 x3 x4 x5 x6).2.2.1 (9 + j) c = if c = (M.1 0).toNatClampNeg then (if j = 0 then x1 else if j = 1 then x2 else if j = 2 then x3 else if j = 3 then x4 else if j = 4 then x5 else if j = 5 then x6 else 0) else M.2.1 (9 + j) c) ∧ (∀ j, ¬ (9 ≤ j ∧ j ≤ 15) → (v_X7_adds M x1 x2 x3 x4 x5 x6).2.2.1 j = M.2.1 j) ∧ (v_X7_adds M x1 x2 x3 x4 x5 x6).2.2.2 = M.2.2 ∧ (v_X7_adds M x1 x2 x3 x4 x5 x6).2.1 0 = M.1 0 + 1 ∧ ∀ i, i ≠ 0 → (v_X7_adds M x1 x2 x3 x4 x5 x6).2.1 i = M.1 i := by
  have key : ∀ (f : Nat → Int32) (k c : Nat) (x : Int32), upd f k x c = if c = k then x else f c := fun _ _ _ _ => rfl
  refine ⟨fun j hj c => ?_, fun j hj => ?_, rfl, rfl, fun i hi => up_ne hi⟩
  · rcases (show j = 0 ∨ j = 1 ∨ j = 2 ∨ j = 3 ∨ j = 4 ∨ j = 5 ∨ j = 6 by omega) with e | e | e | e | e | e | e <;> subst e <;> rfl
  · show (msa (msa (msa (msa (msa (msa (msa M 9 _) 10 _) 11 _) 12 _) 13 _) 14 _) 15 _).2.1 j = _
    rw [msa_ne (by omega), msa_ne (by omega), msa_ne (by omega), msa_ne (by omega), msa_ne (by omega), msa_ne (by omega), msa_ne (by omega)]
theorem add_ok {P1 P2 : pT} {R : rT} {M : mT} (hP : PE P1 P2) (h : RR P1 R M) {x1 x2 x3 x4 x5 x6 : Int32} {q : Nat} (hlt : (M.1 0).toInt < 7) (hq : q ∈ P2.1) (hv : P2.2 q = v_X0_init (fun _ => 0) (R.1 4) x1 x2 x4 x5) (b1 : 0 ≤ x1.toInt ∧ x1.toInt ≤ 6) (b2 : 0 ≤ x2.toInt ∧ x2.toInt ≤ 9) (b3 : 0 ≤ x3.toInt ∧ x3.toInt ≤ 30) (b4 : 1 ≤ x4.toInt ∧ x4.toInt ≤ 9) (b5 : 0 ≤ x5.toInt ∧ x5.toInt ≤ 9) (b6 : 0 ≤ x6.toInt ∧ x6.toInt ≤ 999) : p_X7_adds M x1 x2 x3 x4 x5 x6 ∧ RR P2 (rsf (rsa (rsa (rsa (rsc R (va_up R.2.2 (R.1 4).toNatClampNeg (some q))) 1 (upd (R.2.1 1) (R.1 4).toNatClampNeg x3)) 2 (upd (R.2.1 2) (R.1 4).toNatClampNeg x6)) 3 (upd (R.2.1 3) (R.1 4).toNatClampNeg 0)) 4 ((R.1 4) + 1)) (v_X7_adds M x1 x2 x3 x4 x5 x6).2 := by
  obtain ⟨g1, g2, g3, g4, g5⟩ := adds_D (M := M) (x1 := x1) (x2 := x2) (x3 := x3) (x4 := x4) (x5 := x5) (x6 := x6)
  have v7 : vp_in (M.1 0) 7 := by rw [vp_iff]; have := h.2.1.1; omega
  refine ⟨⟨v7, v7, v7, v7, v7, v7, v7⟩, RD_more hP h hlt hq hv b1 b2 b3 b4 b5 b6 (fun j hj c _ => g1 j hj c) (fun i hi => ?_)⟩
  by_cases z : i = 0
  · rw [if_pos z, z]; exact g4
  · rw [if_neg z]; exact g5 i z
theorem p_addx {R : rT} (x1 x2 x3 x4 x5 x6 : Int32) : p_X4_add R x1 x2 x3 x4 x5 x6 := by
  unfold p_X4_add
  split
  · trivial
  · split
    · rename_i h1 h2
      rw [n_lt, n_0] at h1
      rw [n_lt, n_7] at h2
      have v7 : vp_in (R.1 4) 7 := by rw [vp_iff]; omega
      exact fun q _ => ⟨v7, v7, v7, v7⟩
    · trivial
section
variable {P : pT} {N : nT} {R Q : rT} {V : vT} {F : fT} {M : mT}
theorem op_comer (h : RA P N R Q V F M) (x1 x2 x3 x4 x5 x6 : Int32) : p_X6_comer N R x1 x2 x3 x4 x5 x6 ∧ p_X7_comer M x1 x2 x3 x4 x5 x6 ∧ ∀ res, g_X6_comer N R x1 x2 x3 x4 x5 x6 res → FR P res.2.2.2 → res.1 = (v_X7_comer M x1 x2 x3 x4 x5 x6).1 ∧ RA (pAdd P res.2.2.2) res.2.1 res.2.2.1 Q V F (v_X7_comer M x1 x2 x3 x4 x5 x6).2 := by
  have n1 : p_X7_no M (-1) := p_no (b := 1) (by decide) (by decide)
  have n6 : p_X7_no M (-6) := p_no (b := 6) (by decide) (by decide)
  have n7 : p_X7_no M (-7) := p_no (b := 7) (by decide) (by decide)
  have r1 := RA_refuse h (b := 1) (by decide) (by decide)
  have r6 := RA_refuse h (b := 6) (by decide) (by decide)
  have r7 := RA_refuse h (b := 7) (by decide) (by decide)
  have fin : ∀ (b : Int32) (M' : mT × Int32) (res : Int32 × nT × rT × LL), ((v_X6_refuse N b).1 = M'.2 ∧ RA P (v_X6_refuse N b).2 R Q V F M'.1) → res = ((v_X6_refuse N b).1, (v_X6_refuse N b).2, R, []) → FR P res.2.2.2 → res.1 = M'.2 ∧ RA (pAdd P res.2.2.2) res.2.1 res.2.2.1 Q V F M'.1 := fun b M' res e1 e2 fr => by
    subst e2
    exact ⟨e1.1, RA_ext (PE_add fr.1) e1.2⟩
  unfold p_X6_comer p_X7_comer v_X7_comer g_X6_comer
  simp only [kk_def, from_eq]
  by_cases c1 : v_X6_within x1 0 6 = 0
  · by_cases d1 : x1 < 0
    · simp only [c1, d1, if_true]
      exact ⟨p_refuse N 1, n1, fun res e fr => fin 1 ((v_X7_no M (-1)).2, (v_X7_no M (-1)).1) res r1 e fr⟩
    · have d2 : ¬ x1 ≤ 6 := by
        rw [within_iff, n_0, n_6] at c1
        rw [n_lt, n_0] at d1
        rw [n_le, n_6]
        omega
      simp only [c1, d1, d2, if_true, if_false]
      exact ⟨p_refuse N 1, n1, fun res e fr => fin 1 ((v_X7_no M (-1)).2, (v_X7_no M (-1)).1) res r1 e fr⟩
  have b1 := wneg c1
  rw [n_0, n_6] at b1
  have d1 : ¬ x1 < 0 := by rw [n_lt, n_0]; omega
  have d2 : x1 ≤ 6 := by rw [n_le, n_6]; omega
  simp only [c1, d1, d2, if_true, if_false]
  have f6 := fun res e fr => fin 6 ((v_X7_no M (-6)).2, (v_X7_no M (-6)).1) res r6 e fr
  by_cases c2 : v_X6_within x2 0 9 = 0
  · simp only [c2, if_true]
    exact ⟨p_refuse N 6, n6, f6⟩
  by_cases c3 : v_X6_within x3 0 30 = 0
  · simp only [c2, c3, if_true, if_false]
    exact ⟨p_refuse N 6, n6, f6⟩
  by_cases c4 : v_X6_within x4 1 9 = 0
  · simp only [c2, c3, c4, if_true, if_false]
    exact ⟨p_refuse N 6, n6, f6⟩
  by_cases c5 : v_X6_within x5 0 9 = 0
  · simp only [c2, c3, c4, c5, if_true, if_false]
    exact ⟨p_refuse N 6, n6, f6⟩
  by_cases c6 : v_X6_within x6 0 999 = 0
  · simp only [c2, c3, c4, c5, c6, if_true, if_false]
    exact ⟨p_refuse N 6, n6, f6⟩
  simp only [c2, c3, c4, c5, c6, n10f, if_false]
  have b2 := wneg c2
  have b3 := wneg c3
  have b4 := wneg c4
  have b5 := wneg c5
  have b6 := wneg c6
  have e4 := h.2.2.1.1.1
  have e7 := h.2.2.1.2.1.1
  unfold v_X4_isFull
  by_cases z : M.1 0 = 7
  · have z2 : ¬ R.1 4 < 7 := by rw [e4, z]; decide
    simp only [z, z2, n10f, if_true, if_false]
    exact ⟨p_refuse N 7, n7, fun res e fr => fin 7 ((v_X7_no M (-7)).2, (v_X7_no M (-7)).1) res r7 e fr⟩
  · have z1 : ¬ (M.1 0).toInt = 7 := fun e => z (by rw [n_eq, n_7]; exact e)
    have z2 : R.1 4 < 7 := by rw [e4, n_lt, n_7]; omega
    have z3 : ¬ R.1 4 < 0 := by rw [e4, n_lt, n_0]; omega
    simp only [z, z2, if_true, if_false]
    have v7 : vp_in (M.1 0) 7 := by rw [vp_iff]; omega
    refine ⟨p_addx _ _ _ _ _ _, ⟨v7, v7, v7, v7, v7, v7, v7⟩, fun res hg fr => ?_⟩
    obtain ⟨q15, g1, g2⟩ := hg
    subst g2
    unfold g_X4_add at g1
    rw [if_neg z3, if_pos z2] at g1
    obtain ⟨q3, -, g3⟩ := g1
    subst g3
    dsimp only at fr ⊢
    rw [List.nil_append] at fr ⊢
    have hq : q3 ∈ (pAdd P [(q3, v_X0_init (fun _ => 0) (R.1 4) x1 x2 x4 x5)]).1 := (pAdd_in _ _ _).mpr (Or.inl ⟨_, List.mem_singleton.mpr rfl, rfl⟩)
    have hv := pAdd_new (P := P) fr.2 (List.mem_singleton.mpr rfl)
    obtain ⟨-, hR⟩ := add_ok (PE_add fr.1) h.2.2.1 (by omega) hq hv b1 b2 b3 b4 b5 b6
    refine ⟨?_, ?_⟩
    · show (R.1 4 + 1) - 1 = M.1 0
      rw [e4]
      rw [n_eq, n_sub (by rw [n_add (by rw [n_1]; omega) (by rw [n_1]; omega), n_1]; omega) (by rw [n_add (by rw [n_1]; omega) (by rw [n_1]; omega), n_1]; omega), n_add (by rw [n_1]; omega) (by rw [n_1]; omega), n_1]
      omega
    · obtain ⟨g1, g2, g3, g4, g5⟩ := adds_D (M := M) (x1 := x1) (x2 := x2) (x3 := x3) (x4 := x4) (x5 := x5) (x6 := x6)
      refine RA_road (RA_ext (PE_add fr.1) h) (fun i hi => g5 i (by omega)) (fun x hx => ?_) (fun j hj => g2 j (by omega)) (by rw [g3]) hR
      unfold isC at hx ⊢
      rw [g4, n_add (by rw [n_1]; omega) (by rw [n_1]; omega), n_1]
      omega
end
