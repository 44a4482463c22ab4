/-! a road from a text -/
theorem msf_twice {M : mT} {k : Nat} {v w : Int32} : msf (msf M k v) k w = msf M k w := by
  show (va_up (va_up M.1 k v) k w, M.2) = (va_up M.1 k w, M.2)
  rw [up_twice]
theorem msf_self {M : mT} {k : Nat} {v : Int32} (h : M.1 k = v) : msf M k v = M := by
  show (va_up M.1 k v, M.2) = M
  rw [← h, up_self]
section
variable {P : pT} {N : nT} {R Q : rT} {V : vT} {F : fT} {M : mT}
theorem RA_fault (h : RA P N R Q V F M) (v : Int32) : RA P (nsf N 10 v) R Q V F (msf M 7 v) := by
  obtain ⟨⟨n1, n2, n3, n4⟩, hF, hR, hQ, ⟨v1, v2, v3⟩, ⟨c1, c2⟩⟩ := h
  refine ⟨⟨n1, ?_, n3, n4⟩, fun s hs => RS_congr rfl rfl rfl rfl (fun _ _ => rfl) (msf_ne (by decide)) (hF s hs), RD_congr (fun _ _ _ _ => rfl) (fun i hi => msf_ne (by omega)) hR, hQ, ⟨v1, v2, v3⟩, ⟨c1, c2⟩⟩
  show va_up N.1 10 v 10 = va_up M.1 7 v 7
  rw [up_at, up_at]
/-- behind a reading: what was kept stands, the fault is told -/
theorem RA_read {M' : mT} {R' : rT} {v : Int32} (h : RA P N R Q V F M) (h7 : M'.1 7 = v) (e1 : ∀ i, (i = 36 ∨ i = 43 ∨ i = 44) → M'.1 i = M.1 i) (e0 : ∀ x, isC M.1 x → isC M'.1 x) (e2 : ∀ j, (j = 8 ∨ (16 ≤ j ∧ j < 25) ∨ j = 32 ∨ j = 42) → M'.2.1 j = M.2.1 j) (e3 : M'.2.2 20 = M.2.2 20) (hR : RR P R' M') : RA P (nsf N 10 v) R' Q V F M' := by
  have k : RA P N R' Q V F (msf M' 7 (M.1 7)) := RA_road h (fun i hi => by
    by_cases z : i = 7
    · rw [z, msf_at]
    · rw [msf_ne z]; exact e1 i (by omega)) (fun x hx => e0 x hx) e2 e3 (RD_congr (fun _ _ _ _ => rfl) (fun i hi => msf_ne (by omega)) hR)
  have k2 := RA_fault k v
  rw [msf_twice, msf_self h7] at k2
  exact k2
theorem kn_become {P0 : pT} {D : rT} (hR : RR P R M) {S : sT} {n : Nat} {E : e2T} {v : Int32} {res : Int32 × e2T × rT × LL} (hg : g_X3_readAll_r S n E (v_X4_become P0 D R) [] v res) (hB : BC (v_X4_become P0 D R) R) : ∀ c, c < 7 → ∀ q, res.2.2.1.2.2 c = some q → q ∈ (pAdd P res.2.2.2).1 := fun c hc q e => by
  rw [pAdd_in]
  rcases kn_read _ _ _ _ _ _ _ (KN.rf _ _) hg c q e with k | k
  · rw [hB.2.2 c hc] at k
    exact Or.inr (hR.2.2.2 c hc q k)
  · exact Or.inl k
theorem op_road (h : RA P N R Q V F M) (a : Nat → Nat) (q : Nat) (D : rT) (E : e2T) (x : Int32) : p_X6_road P a q N R D E F x ∧ ∀ res, g_X6_road P a q N R D E F x res → FR P res.2.2.2.2.2.2 → p_X7_road M x ∧ res.1 = (v_X7_road M x).1 ∧ RA (pAdd P res.2.2.2.2.2.2) res.2.1 res.2.2.1 Q V F (v_X7_road M x).2 := by
  have ps := p_shelfAt N x
  have rf : ∀ (b : Int32), 1 ≤ b.toInt → b.toInt ≤ 7 → ∀ res : Int32 × nT × rT × rT × e2T × Nat × LL, res = ((v_X6_refuse N b).1, (v_X6_refuse N b).2, R, D, E, q, []) → FR P res.2.2.2.2.2.2 → v_X7_wanted M x = -b → p_X7_wanted M x → p_X7_road M x ∧ res.1 = (v_X7_road M x).1 ∧ RA (pAdd P res.2.2.2.2.2.2) res.2.1 res.2.2.1 Q V F (v_X7_road M x).2 := fun b h1 h2 res e fr hw pw => by
    subst e
    have hb : ¬ -b = 0 := by rw [n_eq, n_neg (by omega), n_0]; omega
    have r := RA_refuse h h1 h2
    unfold p_X7_road v_X7_road
    rw [hw, if_neg hb, if_neg hb]
    exact ⟨⟨pw, p_no h1 h2⟩, r.1, RA_ext (PE_add fr.1) r.2⟩
  have pw : p_X7_wanted M x := by
    unfold p_X7_wanted
    rcases shelf_cases N M x with ⟨e1, e2⟩ | ⟨e1, e2, e3, e4⟩
    · rw [if_pos e2]; trivial
    · rw [if_neg (by rw [e2]; decide)]
      refine ⟨e4, ?_⟩
      by_cases z : M.2.1 16 x.toNatClampNeg = 2
      · rw [if_pos z]; trivial
      · rw [if_neg z]; exact e4
  unfold p_X6_road g_X6_road
  rcases ref_cases h x with ⟨a1, a2, a3, a4⟩ | ⟨a1, a2, a3, a4, hc⟩
  · rw [a1, a3]
    refine ⟨⟨ps, ps, ?_⟩, fun res hg fr => ?_⟩
    · rw [oc_none, if_neg (show ¬ (1 : Int32) = 0 by decide)]
      exact p_refuse N 1
    · rw [oc_none, if_neg (show ¬ (1 : Int32) = 0 by decide)] at hg
      exact rf 1 (by decide) (by decide) res hg fr a4 pw
  rcases hc with ⟨b1, b2, b3⟩ | ⟨b1, b2, b3⟩ | ⟨b1, b2, b3⟩
  · rw [a1, b2]
    refine ⟨⟨ps, ps, ?_⟩, fun res hg fr => ?_⟩
    · rw [oc_some, if_neg (show ¬ (3 : Int32) = 0 by decide)]
      exact p_refuse N 3
    · rw [oc_some, if_neg (show ¬ (3 : Int32) = 0 by decide)] at hg
      exact rf 3 (by decide) (by decide) res hg fr b3 pw
  · rw [a1, b2]
    obtain ⟨c1, c2⟩ := become_ok (P := P) (R := D) (Q := R) h.2.2.1.2.2.2
    generalize hs : x.toNatClampNeg = s at *
    rw [oc_some, if_pos n00, kk_def]
    refine ⟨⟨ps, ps, c1, p_read_any 162 0 _ _ _ (by omega) (by omega), fun q15 hq => ?_⟩, fun res hg fr => ?_⟩
    · by_cases z : q15.1 = 0
      · rw [if_pos z]; exact p_refuse _ _
      · rw [if_neg z]
        exact (become_ok (kn_become h.2.2.1 hq c2)).1
    · rw [oc_some, if_pos n00, kk_def] at hg
      obtain ⟨q15, g1, g2⟩ := hg
      obtain ⟨len, hlen⟩ : ∃ len : Nat, (M.2.1 18 s).toInt = (len : Int) := ⟨(M.2.1 18 s).toInt.toNat, by have := b1.2.2.2.2.1; omega⟩
      have hl := b1.2.2.2.2.1
      have e18 : M.2.1 18 s = Int32.ofNat len := by rw [n_eq, n_of (by omega)]; exact hlen
      have hxs : x = Int32.ofNat s := by
        rw [← hs]
        refine n_back ?_
        rw [vp_iff] at a4
        omega
      obtain ⟨d1, d2, d3, d4, d5, d6⟩ := all0 (j2 := 31) (Or.inl rfl) M
      unfold p_X7_road v_X7_road
      rw [b3, if_pos n00, if_pos n00]
      simp only [kk_def]
      generalize hX : v_X7_all M 31 0 = X at *
      have e26 : (160 : Int32) * x = Int32.ofNat (160 * s) := by
        rw [hxs, n_eq, n_mul (by rw [n_160, n_of (by omega)]; omega) (by rw [n_160, n_of (by omega)]; omega), n_160, n_of (by omega), n_of (by omega)]
        omega
      have e18x : X.2.1 18 x.toNatClampNeg = Int32.ofNat len := by rw [hs, d4 18 (by decide)]; exact e18
      rw [e26, e18x]
      generalize hM1 : msf (msf (msf (msf X 26 (Int32.ofNat (160 * s))) 27 0) 28 (Int32.ofNat len)) 7 (-1) = M1
      have m2 : M1.2 = X.2 := by rw [← hM1]; rfl
      have m26 : M1.1 26 = Int32.ofNat (160 * s) := by rw [← hM1, msf_ne (by decide), msf_ne (by decide), msf_ne (by decide)]; exact msf_at
      have m27 : M1.1 27 = Int32.ofNat 0 := by rw [← hM1, msf_ne (by decide), msf_ne (by decide)]; exact msf_at
      have m28 : M1.1 28 = Int32.ofNat len := by rw [← hM1, msf_ne (by decide)]; exact msf_at
      have m7 : M1.1 7 = -1 := by rw [← hM1]; exact msf_at
      have mi : ∀ i, i ≠ 7 → i ≠ 26 → i ≠ 27 → i ≠ 28 → M1.1 i = M.1 i := fun i k1 k2 k3 k4 => by rw [← hM1, msf_ne k1, msf_ne k4, msf_ne k3, msf_ne k2, d2]
      have mc : M1.2.2 = M.2.2 := by rw [m2]; exact d3
      have mj : ∀ j, j ≠ 31 → M1.2.1 j = M.2.1 j := fun j hj => by rw [m2]; exact d4 j hj
      have hT : RT (F s).2 M1 (160 * s) len := ⟨m26, m28, by omega, by omega, fun i hi => by rw [mc]; exact b1.2.2.2.2.2 i (by omega)⟩
      have hMC := h.2.2.2.2.2
      have hB : RR P (v_X4_become P D R) M1 := RD_bc c2 (RD_congr (fun j hj c _ => by show M1.2.1 (9 + j) c = _; rw [mj (9 + j) (by omega)]) (fun i hi => mi i (by omega) (by omega) (by omega) (by omega)) h.2.2.1)
      have hB0 : RR (pAdd P []) (v_X4_become P D R) M1 := RD_ext (PE_add (fun e he => absurd he List.not_mem_nil)) hB
      have eL : (F s).1 2 = Int32.ofNat len := by rw [b1.2.2.2.1]; exact e18
      unfold g_X3_readAll at g1
      rw [eL] at g1
      generalize hE0 : e2f (e2f (e2f (e2f E 4 (Int32.ofNat len)) 5 0) 2 0) 1 (-1) = E0 at g1
      have E4 : E0.1 4 = Int32.ofNat len := by rw [← hE0, e2f_ne (by decide), e2f_ne (by decide), e2f_ne (by decide)]; exact e2f_at
      have E5 : E0.1 5 = Int32.ofNat 0 := by rw [← hE0, e2f_ne (by decide), e2f_ne (by decide)]; exact e2f_at
      have E2 : E0.1 2 = Int32.ofNat 0 := by rw [← hE0, e2f_ne (by decide)]; exact e2f_at
      have E1 : E0.1 1 = -1 := by rw [← hE0]; exact e2f_at
      have fr' : FR P q15.2.2.2 := by
        by_cases z : q15.1 = 0
        · rw [if_pos z, kk_def] at g2
          rw [g2] at fr
          exact fr
        · rw [if_neg z] at g2
          rw [g2] at fr
          exact fr
      obtain ⟨pi, r, M2, i1, i2, M3, i3, i4⟩ := read_loop (P := P) 162 0 0 200 E0 (v_X4_become P D R) [] M1 (by omega) (by omega) (by omega) (by omega) (by omega) hT (fun i hi => by rw [mj 22 (by decide)]; exact hMC.2.1 i hi) (fun i hi => by rw [mj 23 (by decide)]; exact hMC.2.2.1 i hi) (fun i hi => by rw [mj 24 (by decide)]; exact hMC.2.2.2 i hi) E4 E5 E2 m27 hB0 q15 g1 fr'
      rw [i1]
      refine ⟨⟨pw, d1, a4, pi, i2⟩, ?_⟩
      rcases i4 with ⟨k1, k2, k3⟩ | ⟨k1, cnt, k2, k3, k4⟩
      · rw [if_pos k1, kk_def] at g2
        subst g2
        dsimp only at fr ⊢
        rw [show v_X7_road_r 200 M2 1 r = RFAIL M3 from k3]
        unfold RFAIL
        obtain ⟨f1, f2, f3, f4, f5, f6⟩ := all1 (j2 := 31) (Or.inl rfl) M3
        rw [kk_def, kk_def]
        generalize v_X7_all M3 31 1 = Y at *
        have e30 : q15.2.1.1 1 = Y.1 30 := by rw [k2]; exact (f2 30 (by omega)).symm
        have k31 : M3.2.1 31 = X.2.1 31 := by rw [i3.2.1 31 (by decide) (by decide), m2]
        have hA : RA P (nsf N 10 (Y.1 30)) R Q V F (msf Y 7 (Y.1 30)) := RA_read h msf_at (fun i hi => by
            rw [msf_ne (by omega), f2 i (by omega), i3.1 i (by omega) (by omega) (by omega) (by omega), mi i (by omega) (by omega) (by omega) (by omega)]) (fun y hy => by
            unfold isC at hy ⊢
            rw [msf_ne (by decide), f6 0 (by decide), k31, d6 0 (by decide)]
            exact hy) (fun j hj => by
            show Y.2.1 j = _
            rw [f4 j (by omega), i3.2.1 j (by omega) (by omega), mj j (by omega)]) (by
            show Y.2.2 20 = _
            rw [f3, i3.2.2, mc]) (RD_congr (fun j hj c hc => by
            show Y.2.1 (9 + j) c = M.2.1 (9 + j) c
            rw [f5 j c hj hc, k31, d5 j c hj hc]) (fun i hi => by rw [msf_ne (by omega), f6 i hi, k31, d6 i hi]) h.2.2.1)
        rw [e30]
        have r6 := RA_refuse hA (b := 6) (by decide) (by decide)
        exact ⟨r6.1, RA_ext (PE_add fr.1) r6.2⟩
      · have z : ¬ q15.1 = 0 := by rw [k1]; exact n10
        rw [if_neg z] at g2
        subst g2
        dsimp only at fr ⊢
        rw [show v_X7_road_r 200 M2 1 r = (Int32.ofNat cnt, M3) from k2]
        refine ⟨k3, ?_⟩
        have kf := kf_read _ _ _ _ _ _ g1
        have b9 := become_ok (P := pAdd P q15.2.2.2) (R := R) (kn_become h.2.2.1 g1 c2)
        have e1 : q15.2.1.1 1 = -1 := by
          rcases kf.1 with y | y
          · exact absurd y z
          · rw [y, E1]
        rw [e1]
        refine RA_read (RA_ext (PE_add fr.1) h) ?_ (fun i hi => ?_) (fun y hy => ?_) (fun j hj => ?_) ?_ (RD_bc b9.2 k4)
        · rw [i3.1 7 (by omega) (by omega) (by omega) (by omega)]; exact m7
        · rw [i3.1 i (by omega) (by omega) (by omega) (by omega), mi i (by omega) (by omega) (by omega) (by omega)]
        · have hle := kf.2
          rw [k4.1.1, hB.1.1, mi 0 (by decide) (by decide) (by decide) (by decide)] at hle
          refine ⟨hy.1, ?_⟩
          have hy2 := hy.2
          show y.toInt < (M3.1 0).toInt
          omega
        · rw [i3.2.1 j (by omega) (by omega), mj j (by omega)]
        · rw [i3.2.2, mc]
  · rw [a1, b2]
    refine ⟨⟨ps, ps, ?_⟩, fun res hg fr => ?_⟩
    · rw [oc_some, if_neg (show ¬ (2 : Int32) = 0 by decide)]
      exact p_refuse N 2
    · rw [oc_some, if_neg (show ¬ (2 : Int32) = 0 by decide)] at hg
      exact rf 2 (by decide) (by decide) res hg fr b3 pw
theorem op_fault (h : RA P N R Q V F M) : v_X6_fault N = v_X7_fault M := h.1.2.1
end
