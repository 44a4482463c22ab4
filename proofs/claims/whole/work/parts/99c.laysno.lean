/-! orders that weigh no less change nothing -/
def NS (d : Nat) (M M' : mT) : Prop := CR M M' ∧ (∀ j, j < d → M'.2.1 33 j = M.2.1 33 j) ∧ M'.1 40 = M.1 40 ∧ M'.1 41 = M.1 41 ∧ M'.2.1 35 = M.2.1 35
theorem NS.rf (d : Nat) (M : mT) : NS d M M := ⟨CR.rf M, fun _ _ => rfl, rfl, rfl, rfl⟩
theorem NS.tr {d : Nat} {M1 M2 M3 : mT} (h1 : NS d M1 M2) (h2 : NS d M2 M3) : NS d M1 M3 := ⟨h1.1.tr h2.1, fun j hj => (h2.2.1 j hj).trans (h1.2.1 j hj), h2.2.2.1.trans h1.2.2.1, h2.2.2.2.1.trans h1.2.2.2.1, h2.2.2.2.2.trans h1.2.2.2.2⟩
theorem NS.le {d d' : Nat} {M M' : mT} (h : NS d' M M') (hd : d ≤ d') : NS d M M' := ⟨h.1, fun j hj => h.2.1 j (by omega), h.2.2⟩
theorem NS.a {d : Nat} {M : mT} (v : Int32) : NS d M (msa M 33 (upd (M.2.1 33) d v)) := ⟨⟨fun _ _ => rfl, fun j a _ _ => msa_ne a, rfl⟩, fun j hj => by rw [msa_at, upd_ne (by omega)], rfl, rfl, msa_ne (by decide)⟩
theorem NS.bk {d : Nat} {M M' : mT} {t K : Int} (h : NS d M M') (hK : BK M t K) : BK M' t K := by
  unfold BK at hK ⊢
  rw [h.2.2.1, h.2.2.2.1]
  exact hK
/-- one more at the end of the line -/
def ext (f : Nat → Nat) (d b : Nat) : Nat → Nat := fun j => if j = d then b else f j
theorem ext_at {f : Nat → Nat} {d b : Nat} : ext f d b d = b := if_pos rfl
theorem ext_ne {f : Nat → Nat} {d b j : Nat} (h : j ≠ d) : ext f d b j = f j := if_neg h
theorem ext_ok {f : Nat → Nat} {d b n : Nat} (hn : n ≤ 7) (hdn : d < n) (hd : DL f d) (hg : ∀ i, i < d → f i < n) (hb : b < n) (ht : (kall f d).testBit b = false) : DL (ext f d b) (d + 1) ∧ (∀ i, i < d + 1 → ext f d b i < n) ∧ kall (ext f d b) (d + 1) = kall f d + 2 ^ b := by
  have hd0 : DL (ext f d b) d := ⟨fun a ha => by rw [ext_ne (by omega)]; exact hd.1 a ha, fun a c ha hc e => by rw [ext_ne (by omega), ext_ne (by omega)] at e; exact hd.2 a c ha hc e⟩
  have hk : kall (ext f d b) d = kall f d := kall_congr d (fun j hj => ext_ne (by omega))
  refine ⟨DL_more (c := b) (by omega) hd0 (by omega) (by rw [hk]; exact ht) ext_at, fun i hi => ?_, by rw [kall, ext_at, hk]⟩
  by_cases z : i = d
  · rw [z, ext_at]; exact hb
  · rw [ext_ne z]; exact hg i (by omega)
section
variable {P : pT} {R : rT} {n : Nat}
theorem lays_no (hn : n ≤ 7) {K : Int} : ∀ (r d : Nat) (f : Nat → Nat) (fm : Nat) (M : mT), d + r = n → r < fm → RR P R M → M.1 36 = 0 → M.1 0 = Int32.ofNat n → DL f d → (∀ j, j < d → M.2.1 33 j = Int32.ofNat (f j)) → (∀ i, i < d → f i < n) → BK M (R.1 7).toInt K → (∀ g, DL g n → (∀ i, i < n → g i < n) → (∀ i, i < d → g i = f i) → K ≤ (st P R n g n).2.2) → p_X7_lays fm M (Int32.ofNat d) (Int32.ofNat (kall f d)) ∧ ∃ M', v_X7_lays fm M (Int32.ofNat d) (Int32.ofNat (kall f d)) = M' ∧ NS d M M' := by
  intro r
  induction r with
  | zero =>
    intro d f fm M hd hfm hR h36 h0 hD h33 hg hK hQ
    obtain ⟨fm, rfl⟩ : ∃ m, fm = m + 1 := ⟨fm - 1, by omega⟩
    have : d = n := by omega
    subst this
    obtain ⟨j1, M', j2, j3, j4, j5⟩ := leaf_ok (x := Int32.ofNat (kall f d)) (fm := fm) hn hR h36 h0 hD h33 hg hK
    have hle := hQ f hD hg (fun _ _ => rfl)
    rcases j5 with ⟨k1, -⟩ | ⟨-, k2, k3, k4⟩
    · omega
    · exact ⟨j1, M', j2, j3, fun j _ => by rw [j4], k2, k3, k4⟩
  | succ r ih =>
    intro d f fm M hd hfm hR h36 h0 hD h33 hg hK hQ
    obtain ⟨fm, rfl⟩ : ∃ m, fm = m + 1 := ⟨fm - 1, by omega⟩
    obtain ⟨k1, k2⟩ := kall_ok (f := f) (i := d) (by omega) hD
    have w : ¬ Int32.ofNat n ≤ Int32.ofNat d := by rw [nat_le (by omega) (by omega)]; omega
    rw [p_X7_lays, v_X7_lays, h0, if_neg w, if_neg w]
    have loop : ∀ (q b fl : Nat) (Mb : mT), b + q = n → q < fl → NS d M Mb → p_X7_lays_r (v_X7_lays fm) (p_X7_lays fm) fl 0 Mb (Int32.ofNat d) (Int32.ofNat (kall f d)) (Int32.ofNat b) ∧ ∃ M', v_X7_lays_r (v_X7_lays fm) fl 0 Mb (Int32.ofNat d) (Int32.ofNat (kall f d)) (Int32.ofNat b) = M' ∧ NS d M M' := by
      intro q
      induction q with
      | zero =>
        intro b fl Mb hb hfl hN
        obtain ⟨fl, rfl⟩ : ∃ m, fl = m + 1 := ⟨fl - 1, by omega⟩
        have wb : Int32.ofNat n ≤ Int32.ofNat b := by rw [nat_le (by omega) (by omega)]; omega
        have h0b : Mb.1 0 = Int32.ofNat n := (hN.1.1 0 (by omega)).trans h0
        rw [p_X7_lays_r, v_X7_lays_r, h0b]
        simp only [if_true, eq_self, if_pos wb]
        exact ⟨trivial, Mb, rfl, hN⟩
      | succ q ihq =>
        intro b fl Mb hb hfl hN
        obtain ⟨fl, rfl⟩ : ∃ m, fl = m + 1 := ⟨fl - 1, by omega⟩
        have wb : ¬ Int32.ofNat n ≤ Int32.ofNat b := by rw [nat_le (by omega) (by omega)]; omega
        have h0b : Mb.1 0 = Int32.ofNat n := (hN.1.1 0 (by omega)).trans h0
        rw [p_X7_lays_r, v_X7_lays_r, h0b]
        simp only [if_true, eq_self, if_neg wb, kk_def]
        rw [nat1 (by omega), nat1 (by omega), tn_of (by omega)]
        obtain ⟨b1, b0, b3⟩ := bits_all b (by omega) _ k1
        by_cases t : (kall f d).testBit b = true
        · have g1 := b1.mpr t
          simp only [if_pos g1]
          obtain ⟨j1, j2⟩ := ihq (b + 1) fl Mb (by omega) (by omega) hN
          exact ⟨⟨trivial, j1⟩, j2⟩
        · have t0 : (kall f d).testBit b = false := by
            rcases hq : (kall f d).testBit b with _ | _
            · rfl
            · exact absurd hq t
          have g1 : ¬ ((Int32.ofNat (kall f d) >>> (Int32.ofNat b &&& 31)) &&& 1) = 1 := fun e => t (b1.mp e)
          simp only [if_neg g1]
          obtain ⟨-, b5, -⟩ := b3 t0
          obtain ⟨e1, e2, e3⟩ := ext_ok (b := b) hn (by omega) hD hg (by omega) t0
          rw [show ((1 : Int32) <<< (Int32.ofNat b &&& 31)) = bit1 b from rfl, b5, ← e3]
          have hN2 : NS d M (msa Mb 33 (upd (Mb.2.1 33) d (Int32.ofNat b))) := hN.tr (NS.a _)
          obtain ⟨l1, M', l2, l3⟩ := ih (d + 1) (ext f d b) fm (msa Mb 33 (upd (Mb.2.1 33) d (Int32.ofNat b))) (by omega) (by omega) (RR_r hN2.1 hR) ((hN2.1.1 36 (by omega)).trans h36) ((hN2.1.1 0 (by omega)).trans h0) e1 (fun j hj => by
            rw [msa_at]
            by_cases z : j = d
            · rw [z, upd_at, ext_at]
            · rw [upd_ne z, ext_ne z, hN.2.1 j (by omega)]; exact h33 j (by omega)) e2 (hN2.bk hK) (fun g g1 g2 g3 => hQ g g1 g2 (fun i hi => by rw [g3 i (by omega), ext_ne (by omega)]))
          rw [l2]
          obtain ⟨j1, j2⟩ := ihq (b + 1) fl M' (by omega) (by omega) (hN2.tr (l3.le (by omega)))
          exact ⟨⟨⟨nat_in (by omega) (by omega), l1⟩, j1⟩, j2⟩
    exact loop n 0 200 M (by omega) (by omega) (NS.rf d M)
end
