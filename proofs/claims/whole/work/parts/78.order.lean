/-! an order, read from a row, to both -/
def CLn (M M' : mT) : Prop := M'.1 = M.1 ∧ (∀ j, j ≠ 33 → M'.2.1 j = M.2.1 j) ∧ M'.2.2 = M.2.2
theorem CLn.rf (M : mT) : CLn M M := ⟨rfl, fun _ _ => rfl, rfl⟩
theorem CLn.tr {M1 M2 M3 : mT} (h1 : CLn M1 M2) (h2 : CLn M2 M3) : CLn M1 M3 := ⟨h2.1.trans h1.1, fun j a => (h2.2.1 j a).trans (h1.2.1 j a), h2.2.2.trans h1.2.2⟩
theorem CLn.a {M : mT} (v : Nat → Int32) : CLn M (msa M 33 v) := ⟨rfl, fun _ hj => msa_ne hj, rfl⟩
theorem CLn.q {M M' : mT} (h : CLn M M') : MEQ M M' := ⟨fun i _ => by rw [h.1], fun j hj => h.2.1 j (by omega), by rw [h.2.2]⟩
theorem RR_cl {P : pT} {R : rT} {M M' : mT} (f : CLn M M') (h : RR P R M) : RR P R M' := RD_congr (fun j hj c _ => by show M'.2.1 (9 + j) c = _; rw [f.2.1 (9 + j) (by omega)]) (fun i _ => by rw [f.1]) h
theorem RS1_cl {S : sT} {M M' : mT} {s : Nat} (f : CLn M M') (h : RS1 S M s) : RS1 S M' s := by
  obtain ⟨a, b, c, d, e, g⟩ := h
  refine ⟨by rw [f.2.1 16 (by decide)]; exact a, by rw [f.2.1 17 (by decide)]; exact b, by rw [f.2.1 17 (by decide)]; exact c, by rw [f.2.1 18 (by decide)]; exact d, by rw [f.2.1 18 (by decide)]; exact e, fun i hi => ?_⟩
  rw [f.2.1 18 (by decide)] at hi
  rw [f.2.2]
  exact g i hi
theorem osa_at {O : oT} {j : Nat} {f : Nat → Int32} : (osa O j f).2 j = f := up_at
theorem osa_ne {O : oT} {j k : Nat} {f : Nat → Int32} (h : k ≠ j) : (osa O j f).2 k = O.2 k := up_ne h
/-- what the reference answers when all stand -/
def ORD (M : mT) (v2 v3 : Int32) : Int32 × mT := kk (v_X7_comes M v2) (fun q29 : mT => if v3 = 0 then (q29.1 37, q29) else if v3 = 1 then (q29.1 38, q29) else if v3 = 2 then (q29.1 39, q29) else if v3 = 3 then ((q29.1 38) * (q29.1 3), q29) else ((v_X7_setOf q29 v2 (v3 - 3)), q29))
def pORD (M : mT) (v2 v3 : Int32) : Prop := p_X7_comes M v2 ∧ (kk (v_X7_comes M v2) (fun q29 : mT => if v3 = 0 then True else if v3 = 1 then True else if v3 = 2 then True else if v3 = 3 then True else p_X7_setOf q29 v2 (v3 - 3)))
theorem ord_bad {n : Nat} {M : mT} {v1 v2 v3 v5 v6 b : Int32} (h1 : 1 ≤ b.toInt) (h2 : b.toInt ≤ 7) : p_X7_order_r (n + 1) M v1 v2 v3 (-b) v5 v6 ∧ v_X7_order_r (n + 1) M v1 v2 v3 (-b) v5 v6 = v_X7_no M (-b) := by
  have hb : ¬ -b = 0 := by rw [n_eq, n_neg (by omega), n_0]; omega
  rw [p_X7_order_r, v_X7_order_r]
  have pn := p_no (M := M) h1 h2
  by_cases c : v2 ≤ v6
  · rw [if_pos c, if_pos c, if_neg hb, if_neg hb, kk_def]
    exact ⟨pn, rfl⟩
  · rw [if_neg c, if_neg c, if_neg hb, if_neg hb, if_neg hb, if_neg hb, kk_def]
    exact ⟨pn, rfl⟩
section
variable {P : pT} {R : rT} {n s : Nat} {S : sT} {w : Int32}
theorem order_loop (hs : s < 8) (hn : n ≤ 7) : ∀ (fu i : Nat) (f : Nat → Nat) (O : oT) (M : mT), i ≤ n → n - i + 1 < fu → RR P R M → RS1 S M s → (n : Int) ≤ (M.2.1 18 s).toInt → O.1 3 = Int32.ofNat n → (∀ j, j < i → O.2 1 j = Int32.ofNat (f j)) → (∀ j, j < i → M.2.1 33 j = Int32.ofNat (f j)) → DL f i → (∀ j, j < i → isC M.1 (Int32.ofNat (f j))) → p_X2_readFrom_r R S fu O (Int32.ofNat (kall f i)) (Int32.ofNat i) ∧ ∃ (r : Int32) (O' : oT) (M' : mT), v_X2_readFrom_r R S fu O (Int32.ofNat (kall f i)) (Int32.ofNat i) = (r, O') ∧ O'.1 = O.1 ∧ CLn M M' ∧ ((r = 0 ∧ p_X7_order_r fu M (Int32.ofNat s) (Int32.ofNat n) w 0 (Int32.ofNat (kall f i)) (Int32.ofNat i) ∧ v_X7_order_r fu M (Int32.ofNat s) (Int32.ofNat n) w 0 (Int32.ofNat (kall f i)) (Int32.ofNat i) = v_X7_no M' (-6)) ∨ (r = 1 ∧ (∃ f', LN f' n O' M') ∧ (pORD M' (Int32.ofNat n) w → p_X7_order_r fu M (Int32.ofNat s) (Int32.ofNat n) w 0 (Int32.ofNat (kall f i)) (Int32.ofNat i)) ∧ v_X7_order_r fu M (Int32.ofNat s) (Int32.ofNat n) w 0 (Int32.ofNat (kall f i)) (Int32.ofNat i) = ORD M' (Int32.ofNat n) w)) := by
  intro fu
  induction fu with
  | zero => intro i f O M _ h; omega
  | succ fu ih =>
    intro i f O M hi hfu hR hS hlen h3 hO hM hd hC
    rw [p_X2_readFrom_r, v_X2_readFrom_r, p_X7_order_r, v_X7_order_r, h3]
    by_cases c : i = n
    · have wl : Int32.ofNat n ≤ Int32.ofNat i := by rw [nat_le (by omega) (by omega)]; omega
      rw [if_pos wl, if_pos wl, if_pos wl, if_pos wl, if_pos n00, if_pos n00]
      subst c
      exact ⟨trivial, 1, O, M, rfl, rfl, CLn.rf M, Or.inr ⟨rfl, ⟨f, hn, h3, hO, hM, hd, hC⟩, fun h => h, rfl⟩⟩
    · have wl : ¬ Int32.ofNat n ≤ Int32.ofNat i := by rw [nat_le (by omega) (by omega)]; omega
      rw [if_neg wl, if_neg wl, if_neg wl, if_neg wl, if_pos n00, if_pos n00]
      obtain ⟨e1, e2⟩ := int_eq (i := i) hS hs (by omega)
      rw [e1]
      have ph : ∀ x, p_X4_has R x := p_has hR
      generalize hc : v_X7_intAt M (Int32.ofNat s) (Int32.ofNat i) = x at *
      obtain ⟨fu', rfl⟩ : ∃ m, fu = m + 1 := ⟨fu - 1, by omega⟩
      by_cases z : isC M.1 x
      · have hx1 : ¬ v_X4_has R x = 0 := by rw [has_iff hR]; exact fun q => q z
        have hx2 : ¬ v_X7_isComer M x = 0 := by rw [mcomer_iff]; exact fun q => q z
        obtain ⟨cn, hcn, rfl⟩ : ∃ cn : Nat, cn < 7 ∧ x = Int32.ofNat cn := by
          have h1 := z.1
          have h2 := z.2
          have h3 := hR.2.1.1
          refine ⟨x.toNatClampNeg, by rw [n_tn]; omega, n_back h1⟩
        obtain ⟨k1, k2⟩ := kall_ok (f := f) (i := i) (by omega) hd
        obtain ⟨b1, b2, b3⟩ := bits_all cn hcn (kall f i) k1
        by_cases t : (kall f i).testBit cn = true
        · have g1 := b1.mpr t
          have g0 : ¬ ((Int32.ofNat (kall f i) >>> (Int32.ofNat cn &&& 31)) &&& 1) = 0 := by rw [g1]; decide
          simp only [if_neg hx1, if_neg hx2, if_neg g0, if_pos g1, kk_def]
          obtain ⟨q1, q2⟩ := ord_bad (n := fu') (M := M) (v1 := Int32.ofNat s) (v2 := Int32.ofNat n) (v3 := w) (v5 := Int32.ofNat (kall f i)) (v6 := Int32.ofNat i + 1) (b := 6) (by decide) (by decide)
          exact ⟨⟨p_intx, ph _, trivial⟩, 0, O, M, rfl, rfl, CLn.rf M, Or.inl ⟨rfl, ⟨e2, trivial, q1⟩, q2⟩⟩
        · have t0 : (kall f i).testBit cn = false := by
            rcases hq : (kall f i).testBit cn with _ | _
            · rfl
            · exact absurd hq t
          have g0 := b2.mpr t0
          have g1 : ¬ ((Int32.ofNat (kall f i) >>> (Int32.ofNat cn &&& 31)) &&& 1) = 1 := by rw [g0]; decide
          obtain ⟨b4, b5, b6⟩ := b3 t0
          simp only [if_neg hx1, if_neg hx2, if_pos g0, if_neg g1, kk_def]
          rw [show ((1 : Int32) <<< (Int32.ofNat cn &&& 31)) = bit1 cn from rfl, b4, b5, nat1 (by omega), tn_of (by omega)]
          have v7 : vp_in (Int32.ofNat i) 7 := nat_in (by omega) (by omega)
          generalize hf : (fun j => if j = i then cn else f j) = f2
          have f2i : f2 i = cn := by rw [← hf]; exact if_pos rfl
          have f2n : ∀ j, j ≠ i → f2 j = f j := fun j hj => by rw [← hf]; exact if_neg hj
          have hk2 : kall f i + 2 ^ cn = kall f2 (i + 1) := by rw [kall, f2i, kall_congr i (fun j hj => f2n j (by omega))]
          have hd0 : DL f2 i := ⟨fun a ha => by rw [f2n a (by omega)]; exact hd.1 a ha, fun a b ha hb e => by rw [f2n a (by omega), f2n b (by omega)] at e; exact hd.2 a b ha hb e⟩
          have hd2 : DL f2 (i + 1) := DL_more (c := cn) (by omega) hd0 hcn (by rw [kall_congr i (fun j hj => f2n j (by omega))]; exact t0) f2i
          have cl : CLn M (msa M 33 (upd (M.2.1 33) i (Int32.ofNat cn))) := CLn.a _
          rw [hk2]
          obtain ⟨j1, r, O', M', j2, j3, j4, j5⟩ := ih (i + 1) f2 (osa O 1 (upd (O.2 1) i (Int32.ofNat cn))) (msa M 33 (upd (M.2.1 33) i (Int32.ofNat cn))) (by omega) (by omega) (RR_cl cl hR) (RS1_cl cl hS) hlen h3 (fun j hj => by
              rw [osa_at]
              by_cases z : j = i
              · rw [z, upd_at, f2i]
              · rw [upd_ne z, f2n j z]; exact hO j (by omega)) (fun j hj => by
              rw [msa_at]
              by_cases z : j = i
              · rw [z, upd_at, f2i]
              · rw [upd_ne z, f2n j z]; exact hM j (by omega)) hd2 (fun j hj => by
              by_cases y : j = i
              · rw [y, f2i]; exact z
              · rw [f2n j y]; exact hC j (by omega))
          refine ⟨⟨p_intx, ph _, v7, j1⟩, r, O', M', j2, j3, cl.tr j4, ?_⟩
          rcases j5 with ⟨r0, q1, q2⟩ | ⟨r1, q1, q2, q3⟩
          · exact Or.inl ⟨r0, ⟨e2, v7, q1⟩, q2⟩
          · exact Or.inr ⟨r1, q1, fun hp => ⟨e2, v7, q2 hp⟩, q3⟩
      · have hx1 : v_X4_has R x = 0 := by rw [has_iff hR]; exact z
        have hx2 : v_X7_isComer M x = 0 := by rw [mcomer_iff]; exact z
        simp only [if_pos hx1, if_pos hx2, kk_def]
        obtain ⟨q1, q2⟩ := ord_bad (n := fu') (M := M) (v1 := Int32.ofNat s) (v2 := Int32.ofNat n) (v3 := w) (v5 := Int32.ofNat (kall f i)) (v6 := Int32.ofNat i + 1) (b := 6) (by decide) (by decide)
        exact ⟨⟨p_intx, ph _, trivial⟩, 0, O, M, rfl, rfl, CLn.rf M, Or.inl ⟨rfl, ⟨e2, trivial, q1⟩, q2⟩⟩
end
