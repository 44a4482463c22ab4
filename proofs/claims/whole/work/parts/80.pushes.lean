/-! all by their numbers -/
section
variable {P : pT} {R : rT} {M : mT}
theorem num_loop {e : Nat} (he : e ≤ 7) : ∀ (fu c : Nat) (O : oT), c ≤ e → e - c < fu → O.1 3 = Int32.ofNat e → (∀ j, j < c → O.2 1 j = Int32.ofNat j) → p_X2_byNumbers_r R fu O (Int32.ofNat c) ∧ ∃ O', v_X2_byNumbers_r R fu O (Int32.ofNat c) = O' ∧ O'.1 = O.1 ∧ (∀ j, j ≠ 1 → O'.2 j = O.2 j) ∧ ∀ j, j < e → O'.2 1 j = Int32.ofNat j := by
  intro fu
  induction fu with
  | zero => intro c O _ h; omega
  | succ fu ih =>
    intro c O hc hfu h3 hO
    rw [p_X2_byNumbers_r, v_X2_byNumbers_r, h3]
    by_cases z : c = e
    · have w : Int32.ofNat e ≤ Int32.ofNat c := by rw [nat_le (by omega) (by omega)]; omega
      rw [if_pos w, if_pos w]
      subst z
      exact ⟨trivial, O, rfl, rfl, fun _ _ => rfl, hO⟩
    · have w : ¬ Int32.ofNat e ≤ Int32.ofNat c := by rw [nat_le (by omega) (by omega)]; omega
      have w7 : ¬ (7 : Int32) ≤ Int32.ofNat c := by rw [n_le, n_of (by omega), n_7]; omega
      rw [if_neg w, if_neg w, if_neg w7, if_neg w7, tn_of (by omega), nat1 (by omega)]
      obtain ⟨j1, O', j2, j3, j4, j5⟩ := ih (c + 1) (osa O 1 (upd (O.2 1) c (Int32.ofNat c))) (by omega) (by omega) h3 (fun j hj => by
        rw [osa_at]
        by_cases y : j = c
        · rw [y, upd_at]
        · rw [upd_ne y]; exact hO j (by omega))
      exact ⟨⟨nat_in (by omega) (by omega), j1⟩, O', j2, j3, fun j hj => (j4 j hj).trans (osa_ne hj), j5⟩
theorem num_all {e : Nat} (he : e ≤ 7) (hR : R.1 4 = Int32.ofNat e) (O : oT) : p_X2_byNumbers O R ∧ ∃ O', v_X2_byNumbers O R = O' ∧ O'.1 3 = Int32.ofNat e ∧ (∀ i, i ≠ 3 → O'.1 i = O.1 i) ∧ (∀ j, j ≠ 1 → O'.2 j = O.2 j) ∧ ∀ j, j < e → O'.2 1 j = Int32.ofNat j := by
  unfold p_X2_byNumbers v_X2_byNumbers
  rw [hR]
  obtain ⟨j1, O', j2, j3, j4, j5⟩ := num_loop (R := R) he 200 0 (osf O 3 (Int32.ofNat e)) (by omega) (by omega) osf_at (fun j hj => absurd hj (by omega))
  exact ⟨j1, O', j2, by rw [j3]; exact osf_at, fun i hi => by rw [j3]; exact osf_ne hi, j4, j5⟩
theorem DL_id {e : Nat} (he : e ≤ 7) : DL (fun j => j) e := ⟨fun i hi => Nat.lt_of_lt_of_le hi he, fun i j _ _ h => h⟩
theorem isC_id {P : pT} {R : rT} {M : mT} {e : Nat} (h : RR P R M) (he : (M.1 0).toInt = (e : Int)) : ∀ j, j < e → isC M.1 (Int32.ofNat j) := fun j hj => (isC_nat h (by omega)).1
end
/-! pushes -/
def pc (k : Nat) : Nat → Nat
  | 0 => 0
  | c + 1 => pc k c + (if k.testBit c = true then 1 else 0)
theorem pc_bc : ∀ e, e < 8 → ∀ k, k < 128 → k < 2 ^ e → v_J6_bitCount_0f7a4 (Int32.ofNat k) = Int32.ofNat (pc k e) := by decide +kernel
theorem pc_le {k : Nat} : ∀ c, pc k c ≤ c := by
  intro c
  induction c with
  | zero => exact Nat.le_refl 0
  | succ c ih =>
    rw [pc]
    split <;> omega
theorem shl_e : ∀ e, e < 8 → ((1 : Int32) <<< (Int32.ofNat e &&& 31)) = Int32.ofNat (2 ^ e) ∧ 2 ^ e ≤ 128 := by decide +kernel
theorem push_inner {e k g : Nat} (he : e ≤ 7) (hk : k < 128) {v1 v2 v3 p : Int32} : ∀ (d c : Nat) (M : mT), c + d = e → M.1 0 = Int32.ofNat e → M.1 4 = p → (∀ j, j < c → M.2.1 33 j = Int32.ofNat j) → ∃ M', CLn M M' ∧ (∀ j, j < e → M'.2.1 33 j = Int32.ofNat j) ∧ v_X7_pushes_r (g + d) 1 M v1 v2 v3 (Int32.ofNat k) (p * Int32.ofNat (pc k c)) (Int32.ofNat c) = v_X7_pushes_r g 1 M' v1 v2 v3 (Int32.ofNat k) (p * Int32.ofNat (pc k e)) (Int32.ofNat e) ∧ (p_X7_pushes_r g 1 M' v1 v2 v3 (Int32.ofNat k) (p * Int32.ofNat (pc k e)) (Int32.ofNat e) → p_X7_pushes_r (g + d) 1 M v1 v2 v3 (Int32.ofNat k) (p * Int32.ofNat (pc k c)) (Int32.ofNat c)) := by
  intro d
  induction d with
  | zero =>
    intro c M hc _ _ hM
    have : c = e := by omega
    subst this
    exact ⟨M, CLn.rf M, hM, rfl, fun h => h⟩
  | succ d ih =>
    intro c M hc h0 h4 hM
    have w : ¬ Int32.ofNat e ≤ Int32.ofNat c := by rw [nat_le (by omega) (by omega)]; omega
    rw [show g + (d + 1) = (g + d) + 1 from rfl, v_X7_pushes_r, p_X7_pushes_r, if_neg (show ¬ (1 : Nat) = 0 by decide), if_neg (show ¬ (1 : Nat) = 0 by decide), h0, if_neg w, if_neg w, tn_of (by omega), nat1 (by omega), h4]
    have cl : CLn M (msa M 33 (upd (M.2.1 33) c (Int32.ofNat c))) := CLn.a _
    obtain ⟨M', j1, j2, j3, j4⟩ := ih (c + 1) (msa M 33 (upd (M.2.1 33) c (Int32.ofNat c))) (by omega) h0 h4 (fun j hj => by
      rw [msa_at]
      by_cases y : j = c
      · rw [y, upd_at]
      · rw [upd_ne y]; exact hM j (by omega))
    obtain ⟨b1, b2, -⟩ := bits_all c (by omega) k hk
    have es : (if ((Int32.ofNat k >>> (Int32.ofNat c &&& 31)) &&& 1) = 1 then p * Int32.ofNat (pc k c) + p else p * Int32.ofNat (pc k c)) = p * Int32.ofNat (pc k (c + 1)) := by
      by_cases t : k.testBit c = true
      · rw [if_pos (b1.mpr t), pc, if_pos t, ← nat1 (by have := pc_le (k := k) c; omega), Int32.mul_add, Int32.mul_one]
      · rw [if_neg (fun q => t (b1.mp q)), pc, if_neg t]; rfl
    rw [es]
    exact ⟨M', cl.tr j1, j2, j3, fun h => ⟨nat_in (by omega) (by omega), j4 h⟩⟩
/-- what the reference keeps while it tells pushes off -/
def CPu (M M' : mT) : Prop := (∀ i, i < 36 ∨ 39 < i → M'.1 i = M.1 i) ∧ (∀ j, j ≠ 33 → j ≠ 34 → M'.2.1 j = M.2.1 j) ∧ M'.2.2 = M.2.2
theorem CPu.rf (M : mT) : CPu M M := ⟨fun _ _ => rfl, fun _ _ _ => rfl, rfl⟩
theorem CPu.tr {M1 M2 M3 : mT} (h1 : CPu M1 M2) (h2 : CPu M2 M3) : CPu M1 M3 := ⟨fun i a => (h2.1 i a).trans (h1.1 i a), fun j a b => (h2.2.1 j a b).trans (h1.2.1 j a b), h2.2.2.trans h1.2.2⟩
theorem CM.u {M M' : mT} (h : CM M M') : CPu M M' := ⟨fun i hi => h.1 i (by omega) (by omega) (by omega), fun j _ b => h.2.1 j b, h.2.2⟩
theorem CLn.u {M M' : mT} (h : CLn M M') : CPu M M' := ⟨fun i _ => by rw [h.1], fun j a _ => h.2.1 j a, h.2.2⟩
theorem CPu.f {M : mT} (v : Int32) : CPu M (msf M 36 v) := ⟨fun i hi => msf_ne (by omega), fun _ _ _ => rfl, rfl⟩
theorem RR_u {P : pT} {R : rT} {M M' : mT} (f : CPu M M') (h : RR P R M) : RR P R M' := RD_congr (fun j hj c _ => by show M'.2.1 (9 + j) c = _; rw [f.2.1 (9 + j) (by omega) (by omega)]) (fun i hi => f.1 i (by omega)) h
theorem CPu.q {M M' : mT} (h : CPu M M') (h36 : M'.1 36 = M.1 36) : MEQ M M' := ⟨fun i hi => by
  by_cases z : i = 36
  · rw [z]; exact h36
  · exact h.1 i (by omega), fun j hj => h.2.1 j (by omega) (by omega), by rw [h.2.2]⟩
section
variable {P : pT} {N : nT} {R Q : rT} {V : vT} {F : fT}
theorem push_loop {e : Nat} (he : e ≤ 7) {v1 : Int32} (hRe : R.1 4 = Int32.ofNat e) : ∀ (n k fx fm : Nat) (O : oT) (M : mT) (v2 v3 m3 : Int32), k + n = 2 ^ e → n < fx → 9 * n < fm → O.1 3 = Int32.ofNat e → (∀ j, j < e → O.2 1 j = Int32.ofNat j) → RR P R M → M.1 0 = Int32.ofNat e → ((k = 0 ∧ m3 = -1) ∨ (0 < k ∧ m3 = v3 ∧ 0 ≤ v3.toInt)) → p_X6_pushes_r P R fx N O v1 v2 v3 (Int32.ofNat k) ∧ p_X7_pushes_r fm 0 M v1 v2 m3 (Int32.ofNat k) 0 0 ∧ ∃ r O' M', v_X6_pushes_r P R fx N O v1 v2 v3 (Int32.ofNat k) = (r, N, O') ∧ v_X7_pushes_r fm 0 M v1 v2 m3 (Int32.ofNat k) 0 0 = (r, M') ∧ CPu M M' ∧ M'.1 36 = 0 := by
  obtain ⟨se, s128⟩ := shl_e e (by omega)
  intro n
  induction n with
  | zero =>
    intro k fx fm O M v2 v3 m3 hk hfx hfm h3 hO hR h0 hv
    obtain ⟨fx, rfl⟩ : ∃ m, fx = m + 1 := ⟨fx - 1, by omega⟩
    obtain ⟨fm, rfl⟩ : ∃ m, fm = m + 1 := ⟨fm - 1, by omega⟩
    have w : Int32.ofNat (2 ^ e) ≤ Int32.ofNat k := by rw [nat_le (by omega) (by omega)]; omega
    rw [p_X6_pushes_r, p_X7_pushes_r, v_X6_pushes_r, v_X7_pushes_r, if_pos rfl, if_pos rfl, hRe, h0, se, if_pos w, if_pos w, if_pos w, if_pos w]
    refine ⟨trivial, trivial, _, O, _, rfl, ?_, CPu.f 0, msf_at⟩
    rcases hv with ⟨z, -⟩ | ⟨-, z, -⟩
    · have : 0 < 2 ^ e := Nat.two_pow_pos e
      omega
    · rw [z]
  | succ n ih =>
    intro k fx fm O M v2 v3 m3 hk hfx hfm h3 hO hR h0 hv
    obtain ⟨fx, rfl⟩ : ∃ m, fx = m + 1 := ⟨fx - 1, by omega⟩
    obtain ⟨g, rfl⟩ : ∃ g, fm = ((g + 1) + e) + 1 := ⟨fm - e - 2, by omega⟩
    have w : ¬ Int32.ofNat (2 ^ e) ≤ Int32.ofNat k := by rw [nat_le (by omega) (by omega)]; omega
    have hk128 : k < 128 := by omega
    rw [p_X6_pushes_r, p_X7_pushes_r, v_X6_pushes_r, v_X7_pushes_r, if_pos rfl, if_pos rfl, hRe, h0, se, if_neg w, if_neg w, if_neg w, if_neg w]
    obtain ⟨M1, i1, i2, i3, i4⟩ := push_inner (g := g + 1) (v1 := v1) (v2 := v2) (v3 := m3) (p := M.1 4) he hk128 e 0 M (by omega) h0 rfl (fun j hj => absurd hj (by omega))
    have z0 : M.1 4 * Int32.ofNat (pc k 0) = 0 := Int32.mul_zero
    rw [z0] at i3 i4
    rw [show v_X7_pushes_r (g + 1 + e) 1 M v1 v2 m3 (Int32.ofNat k) 0 0 = _ from i3]
    have h01 : M1.1 0 = Int32.ofNat e := by rw [i1.1]; exact h0
    have weq : Int32.ofNat e ≤ Int32.ofNat e := by rw [nat_le (by omega) (by omega)]; omega
    rw [v_X7_pushes_r, if_neg (show ¬ (1 : Nat) = 0 by decide), h01, if_pos weq]
    rw [p_X7_pushes_r, if_neg (show ¬ (1 : Nat) = 0 by decide), h01, if_pos weq] at i4
    have eI : (M.1 0).toInt = (e : Int) := by rw [h0, n_of (by omega)]
    have cu : CPu M (msf M1 36 (Int32.ofNat k)) := i1.u.tr (CPu.f _)
    have hR2 := RR_u cu hR
    have hL : LN (fun j => j) e O (msf M1 36 (Int32.ofNat k)) := ⟨he, h3, hO, i2, DL_id he, isC_id hR2 (by rw [cu.1 0 (by decide)]; exact eI)⟩
    obtain ⟨j1, j2, O2, M2, j3, j4, j5, j6, ⟨⟨a0, a1, a2⟩, ⟨b0, b1, b2⟩, -⟩⟩ := play_ok (P := P) (R := R) hk128 hL hR2 msf_at
    have cu2 := cu.tr j6.u
    have hR3 := RR_u cu2 hR
    rw [j3, j4]
    rw [j4] at i4
    simp only [kk_def] at i4 ⊢
    have bcs : ∀ hh, v_J6_bitCount_0f7a4 (Int32.ofNat (ksum (fun j => j) (M2.2.1 34) hh e)) = Int32.ofNat (kcnt (M2.2.1 34) hh e) := fun hh => (ksum_ok e he (DL_id he)).2.1
    have kl := fun hh => kcnt_le (w := M2.2.1 34) (h := hh) e
    have e8 : R.1 8 = M.1 4 := hR.1.2.2.2.2.1
    have e7 : R.1 7 = M2.1 3 := hR3.1.2.2.2.1
    have ey : ((R.1 8 * v_J6_bitCount_0f7a4 (Int32.ofNat k)) + v_X2_paid O2 R) + 1000 * v_J6_bitCount_0f7a4 (O2.1 6) = M.1 4 * Int32.ofNat (pc k e) + (M2.1 38 * M2.1 3 + 1000 * M2.1 39) := by
      unfold v_X2_paid
      rw [pc_bc e (by omega) k hk128 (by omega), a1, a2, bcs, bcs, b1, b2, e8, e7, Int32.mul_comm (M2.1 3), Int32.add_assoc]
    rw [ey]
    have y0 : 0 ≤ (M.1 4 * Int32.ofNat (pc k e) + (M2.1 38 * M2.1 3 + 1000 * M2.1 39)).toInt := by
      have p4 := hR.2.1.2.2.2.2
      have p3 := hR3.2.1.2.2.2.1
      have hpc := pc_le (k := k) e
      have k1 := kl 1
      have k2 := kl 2
      have pos : ∀ (x : Int32) (m : Nat), 1 ≤ x.toInt ∧ x.toInt ≤ 99 → m ≤ 7 → (x * Int32.ofNat m).toInt = x.toInt * m ∧ 0 ≤ x.toInt * m ∧ x.toInt * m ≤ 693 := fun x m hx hm => by
        have hm2 : (0 : Int) ≤ m := by omega
        have u1 : 0 ≤ x.toInt * m := Int.mul_nonneg (by omega) hm2
        have u2 : x.toInt * m ≤ 99 * 7 := Int.mul_le_mul hx.2 (by omega) hm2 (by omega)
        refine ⟨?_, u1, u2⟩
        rw [n_mul (by rw [n_of (by omega)]; omega) (by rw [n_of (by omega)]; omega), n_of (by omega)]
      obtain ⟨u1, u2, u3⟩ := pos (M.1 4) (pc k e) p4 (by omega)
      obtain ⟨t1, t2, t3⟩ := pos (M2.1 3) (kcnt (M2.2.1 34) 1 e) p3 (by omega)
      have q1 : ((1000 : Int32) * Int32.ofNat (kcnt (M2.2.1 34) 2 e)).toInt = 1000 * (kcnt (M2.2.1 34) 2 e : Int) := by rw [n_mul (by rw [n_1000, n_of (by omega)]; omega) (by rw [n_1000, n_of (by omega)]; omega), n_1000, n_of (by omega)]
      rw [b1, b2, Int32.mul_comm _ (M2.1 3)]
      have q2 : (M2.1 3 * Int32.ofNat (kcnt (M2.2.1 34) 1 e) + 1000 * Int32.ofNat (kcnt (M2.2.1 34) 2 e)).toInt = (M2.1 3).toInt * (kcnt (M2.2.1 34) 1 e : Int) + 1000 * (kcnt (M2.2.1 34) 2 e : Int) := by rw [n_add (by rw [t1, q1]; omega) (by rw [t1, q1]; omega), t1, q1]
      rw [n_add (by rw [u1, q2]; omega) (by rw [u1, q2]; omega), u1, q2]
      omega
    generalize hy : M.1 4 * Int32.ofNat (pc k e) + (M2.1 38 * M2.1 3 + 1000 * M2.1 39) = y at *
    rw [nat1 (by omega)] at i4 ⊢
    have h3' : O2.1 3 = Int32.ofNat e := (j5.1 3 (by decide) (by decide) (by decide)).trans h3
    have hO' : ∀ j, j < e → O2.2 1 j = Int32.ofNat j := fun j hj => by rw [j5.2]; exact hO j hj
    have h02 : M2.1 0 = Int32.ofNat e := (cu2.1 0 (by decide)).trans h0
    have fin : ∀ (a2 b2 : Int32), (if Int32.ofNat k = 0 then Int32.ofNat k else if v3 ≤ y then v2 else Int32.ofNat k) = a2 → (if Int32.ofNat k = 0 then y else if v3 ≤ y then v3 else y) = b2 → (if m3 = -1 then Int32.ofNat k else if y < m3 then Int32.ofNat k else v2) = a2 → (if m3 = -1 then y else if y < m3 then y else m3) = b2 → 0 ≤ b2.toInt → (p_X2_play P O R (Int32.ofNat k) ∧ p_X6_pushes_r P R fx N O2 v1 (if Int32.ofNat k = 0 then Int32.ofNat k else if v3 ≤ y then v2 else Int32.ofNat k) (if Int32.ofNat k = 0 then y else if v3 ≤ y then v3 else y) (Int32.ofNat (k + 1))) ∧ p_X7_pushes_r ((g + 1) + e) 1 M v1 v2 m3 (Int32.ofNat k) 0 0 ∧ ∃ r O' M', v_X6_pushes_r P R fx N O2 v1 (if Int32.ofNat k = 0 then Int32.ofNat k else if v3 ≤ y then v2 else Int32.ofNat k) (if Int32.ofNat k = 0 then y else if v3 ≤ y then v3 else y) (Int32.ofNat (k + 1)) = (r, N, O') ∧ v_X7_pushes_r g 0 M2 v1 (if m3 = -1 then Int32.ofNat k else if y < m3 then Int32.ofNat k else v2) (if m3 = -1 then y else if y < m3 then y else m3) (Int32.ofNat (k + 1)) 0 0 = (r, M') ∧ CPu M M' ∧ M'.1 36 = 0 := fun a2 b2 q1 q2 q3 q4 q5 => by
      rw [q3, q4] at i4
      rw [q1, q2, q3, q4]
      obtain ⟨l1, l2, r, O', M', l3, l4, l5, l6⟩ := ih (k + 1) fx g O2 M2 a2 b2 b2 (by omega) (by omega) (by omega) h3' hO' hR3 h02 (Or.inr ⟨by omega, rfl, q5⟩)
      exact ⟨⟨j1, l1⟩, i4 ⟨j2, l2⟩, r, O', M', l3, l4, cu2.tr l5, l6⟩
    rcases hv with ⟨z, hm⟩ | ⟨z, hm, h0v⟩
    · have zk : Int32.ofNat k = 0 := by rw [z]; rfl
      exact fin (Int32.ofNat k) y (by rw [if_pos zk]) (by rw [if_pos zk]) (by rw [if_pos hm]) (by rw [if_pos hm]) y0
    · have zk : ¬ Int32.ofNat k = 0 := by rw [n_eq, n_of (by omega), n_0]; omega
      have hm1 : ¬ m3 = -1 := by rw [hm, n_eq, n_m1]; omega
      by_cases q : v3 ≤ y
      · have q2 : ¬ y < m3 := by rw [hm, n_lt]; rw [n_le] at q; omega
        exact fin v2 v3 (by rw [if_neg zk, if_pos q]) (by rw [if_neg zk, if_pos q]) (by rw [if_neg hm1, if_neg q2]) (by rw [if_neg hm1, if_neg q2, hm]) h0v
      · have q2 : y < m3 := by rw [hm, n_lt]; rw [n_le] at q; omega
        exact fin (Int32.ofNat k) y (by rw [if_neg zk, if_neg q]) (by rw [if_neg zk, if_neg q]) (by rw [if_neg hm1, if_pos q2]) (by rw [if_neg hm1, if_pos q2]) y0
theorem op_pushes {M : mT} (h : RA P N R Q V F M) (O : oT) (x : Int32) : p_X6_pushes P N R O x ∧ p_X7_pushes M x ∧ (v_X6_pushes P N R O x).1 = (v_X7_pushes M x).1 ∧ RA P (v_X6_pushes P N R O x).2.1 R Q V F (v_X7_pushes M x).2 := by
  have n5 : p_X7_no M (-5) := p_no (b := 5) (by decide) (by decide)
  have r5 := RA_refuse h (b := 5) (by decide) (by decide)
  unfold p_X6_pushes p_X7_pushes v_X6_pushes v_X7_pushes
  by_cases c : v_X6_within x 0 1 = 0
  · rw [if_pos c, if_pos c, kk_def]
    rw [within_iff, n_0, n_1] at c
    by_cases d : x < 0
    · rw [if_pos d, if_pos d, kk_def]
      exact ⟨p_refuse N 5, n5, r5⟩
    · have d2 : ¬ x ≤ 1 := by rw [n_lt, n_0] at d; rw [n_le, n_1]; omega
      rw [if_neg d, if_neg d, if_neg d2, if_neg d2, kk_def]
      exact ⟨p_refuse N 5, n5, r5⟩
  · rw [if_neg c, if_neg c, kk_def, kk_def]
    have hb := wneg c
    rw [n_0, n_1] at hb
    have d : ¬ x < 0 := by rw [n_lt, n_0]; omega
    have d2 : x ≤ 1 := by rw [n_le, n_1]; omega
    rw [if_neg d, if_neg d, if_pos d2, if_pos d2]
    obtain ⟨e, he, hE, hRe, hI⟩ := h.2.2.1.e0
    obtain ⟨j1, O1, j2, j3, j4, j5, j6⟩ := num_all he hRe O
    rw [j2]
    have s128 := (shl_e e (by omega)).2
    obtain ⟨l1, l2, r, O', M', l3, l4, l5, l6⟩ := push_loop (P := P) (N := N) (R := R) (v1 := x) he hRe (2 ^ e) 0 200 1400 O1 M 0 0 (-1) (by omega) (by omega) (by omega) j3 j6 h.2.2.1 hE (Or.inl ⟨rfl, rfl⟩)
    rw [show v_X6_pushes_r P R 200 N O1 x 0 0 0 = (r, N, O') from l3, show v_X7_pushes_r 1400 0 M x 0 (-1) 0 0 0 = (r, M') from l4]
    exact ⟨⟨j1, l1⟩, l2, rfl, RA_congr (l5.q (by rw [l6]; exact h.2.2.2.2.2.1.symm)) h⟩
end
