/-! one order, to both -/
def na (R : rT) (f : Nat → Nat) (j : Nat) : Int32 := if j = 0 then 0 else v_X4_nerveOf R (Int32.ofNat (f (j - 1)))
def nb (R : rT) (f : Nat → Nat) (n j : Nat) : Int32 := if j + 1 = n then 0 else v_X4_nerveOf R (Int32.ofNat (f (j + 1)))
def WT (P : pT) (R : rT) (f : Nat → Nat) (n k : Nat) (w : Nat → Int32) (i : Nat) : Prop := ∀ j, j < i → w j = if k.testBit (f j) = true then 0 else v_X4_comesTo P R (Int32.ofNat (f j)) (na R f j) (nb R f n j) (Int32.ofNat (kcnt w 1 j - kcnt w 0 j))
def CM (M M' : mT) : Prop := (∀ i, i ≠ 37 → i ≠ 38 → i ≠ 39 → M'.1 i = M.1 i) ∧ (∀ j, j ≠ 34 → M'.2.1 j = M.2.1 j) ∧ M'.2.2 = M.2.2
def CO (O O' : oT) : Prop := (∀ i, i ≠ 4 → i ≠ 5 → i ≠ 6 → O'.1 i = O.1 i) ∧ O'.2 = O.2
theorem CM.rf (M : mT) : CM M M := ⟨fun _ _ _ _ => rfl, fun _ _ => rfl, rfl⟩
theorem CM.tr {M1 M2 M3 : mT} (h1 : CM M1 M2) (h2 : CM M2 M3) : CM M1 M3 := ⟨fun i a b c => (h2.1 i a b c).trans (h1.1 i a b c), fun j a => (h2.2.1 j a).trans (h1.2.1 j a), h2.2.2.trans h1.2.2⟩
theorem CM.f {M : mT} {k : Nat} (v : Int32) (hk : k = 37 ∨ k = 38 ∨ k = 39) : CM M (msf M k v) := ⟨fun i a b c => msf_ne (by omega), fun _ _ => rfl, rfl⟩
theorem CM.a {M : mT} (v : Nat → Int32) : CM M (msa M 34 v) := ⟨fun _ _ _ _ => rfl, fun j hj => msa_ne hj, rfl⟩
theorem CM.q {M M' : mT} (h : CM M M') : MEQ M M' := ⟨fun i hi => h.1 i (by omega) (by omega) (by omega), fun j hj => h.2.1 j (by omega), by rw [h.2.2]⟩
theorem CO.rf (O : oT) : CO O O := ⟨fun _ _ _ _ => rfl, rfl⟩
theorem CO.tr {O1 O2 O3 : oT} (h1 : CO O1 O2) (h2 : CO O2 O3) : CO O1 O3 := ⟨fun i a b c => (h2.1 i a b c).trans (h1.1 i a b c), h2.2.trans h1.2⟩
theorem osf_at {O : oT} {j : Nat} {v : Int32} : (osf O j v).1 j = v := up_at
theorem osf_ne {O : oT} {j k : Nat} {v : Int32} (h : k ≠ j) : (osf O j v).1 k = O.1 k := up_ne h
theorem CO.f {O : oT} {k : Nat} (v : Int32) (hk : k = 4 ∨ k = 5 ∨ k = 6) : CO O (osf O k v) := ⟨fun i a b c => osf_ne (by omega), rfl⟩
theorem RR_cm {P : pT} {R : rT} {M M' : mT} (f : CM M M') (h : RR P R M) : RR P R M' := RD_congr (fun j hj c _ => by show M'.2.1 (9 + j) c = _; rw [f.2.1 (9 + j) (by omega)]) (fun i hi => f.1 i (by omega) (by omega) (by omega)) h
/-- the line, to both -/
def LN (f : Nat → Nat) (n : Nat) (O : oT) (M : mT) : Prop := n ≤ 7 ∧ O.1 3 = Int32.ofNat n ∧ (∀ j, j < n → O.2 1 j = Int32.ofNat (f j)) ∧ (∀ j, j < n → M.2.1 33 j = Int32.ofNat (f j)) ∧ DL f n ∧ ∀ j, j < n → isC M.1 (Int32.ofNat (f j))
def PS (P : pT) (R : rT) (f : Nat → Nat) (n k : Nat) (O : oT) (M : mT) (i : Nat) : Prop := (O.1 4 = Int32.ofNat (ksum f (M.2.1 34) 0 i) ∧ O.1 5 = Int32.ofNat (ksum f (M.2.1 34) 1 i) ∧ O.1 6 = Int32.ofNat (ksum f (M.2.1 34) 2 i)) ∧ (M.1 37 = Int32.ofNat (kcnt (M.2.1 34) 0 i) ∧ M.1 38 = Int32.ofNat (kcnt (M.2.1 34) 1 i) ∧ M.1 39 = Int32.ofNat (kcnt (M.2.1 34) 2 i)) ∧ WT P R f n k (M.2.1 34) i
theorem LN.c {f : Nat → Nat} {n : Nat} {O O' : oT} {M M' : mT} (hO : CO O O') (hM : CM M M') (h : LN f n O M) : LN f n O' M' := by
  obtain ⟨a, b, c, d, e, g⟩ := h
  refine ⟨a, (hO.1 3 (by decide) (by decide) (by decide)).trans b, fun j hj => by rw [hO.2]; exact c j hj, fun j hj => by rw [hM.2.1 33 (by decide)]; exact d j hj, e, fun j hj => ?_⟩
  unfold isC
  rw [hM.1 0 (by decide) (by decide) (by decide)]
  exact g j hj
/-- how many more have paid than went freely -/
theorem seen_eq {a b : Nat} (ha : a ≤ 7) (hb : b ≤ 7) : (if 0 < (Int32.ofNat a - Int32.ofNat b) then Int32.ofNat a - Int32.ofNat b else 0) = Int32.ofNat (a - b) ∧ (if 0 ≤ (Int32.ofNat a - Int32.ofNat b) then Int32.ofNat a - Int32.ofNat b else 0) = Int32.ofNat (a - b) := by
  have e : (Int32.ofNat a - Int32.ofNat b).toInt = (a : Int) - b := by rw [n_sub (by rw [n_of (by omega), n_of (by omega)]; omega) (by rw [n_of (by omega), n_of (by omega)]; omega), n_of (by omega), n_of (by omega)]
  have ev : (Int32.ofNat (a - b)).toInt = ((a - b : Nat) : Int) := n_of (by omega)
  constructor
  · by_cases c : (0 : Int32) < (Int32.ofNat a - Int32.ofNat b)
    · rw [if_pos c, n_eq, e, ev]
      rw [n_lt, n_0, e] at c
      omega
    · rw [if_neg c, n_eq, ev, n_0]
      rw [n_lt, n_0, e] at c
      omega
  · by_cases c : (0 : Int32) ≤ (Int32.ofNat a - Int32.ofNat b)
    · rw [if_pos c, n_eq, e, ev]
      rw [n_le, n_0, e] at c
      omega
    · rw [if_neg c, n_eq, ev, n_0]
      rw [n_le, n_0, e] at c
      omega
section
variable {P : pT} {R : rT} {f : Nat → Nat} {n k : Nat}
theorem memb_in {O : oT} {M : mT} (h : LN f n O M) {j : Nat} (hj : j < n) : v_X2_memberAt O (Int32.ofNat j) = Int32.ofNat (f j) := by
  have h7 := h.1
  unfold v_X2_memberAt
  rw [if_neg (by rw [n_lt, n_of (by omega), n_0]; omega), h.2.1, if_neg (by rw [nat_le (by omega) (by omega)]; omega), if_pos (by rw [n_lt, n_of (by omega), n_7]; omega), tn_of (by omega)]
  exact h.2.2.1 j hj
theorem memb_end {O : oT} {M : mT} (h : LN f n O M) : v_X2_memberAt O (Int32.ofNat n) = -1 := by
  have h7 := h.1
  unfold v_X2_memberAt
  rw [if_neg (by rw [n_lt, n_of (by omega), n_0]; omega), h.2.1, if_pos (by rw [nat_le (by omega) (by omega)]; omega)]
theorem memb_m1 {O : oT} : v_X2_memberAt O (-1) = -1 := by
  unfold v_X2_memberAt
  rw [if_pos (by decide)]
theorem p_memb {O : oT} {x : Int32} : p_X2_memberAt O x := by
  unfold p_X2_memberAt
  by_cases c : x < 0
  · rw [if_pos c]; trivial
  · rw [if_neg c]
    by_cases d : O.1 3 ≤ x
    · rw [if_pos d]; trivial
    · rw [if_neg d]
      by_cases e : x < 7
      · rw [if_pos e, vp_iff]
        rw [n_lt, n_0] at c
        rw [n_lt, n_7] at e
        omega
      · rw [if_neg e]; trivial
/-- the nerves ahead and behind -/
theorem sides {O : oT} {M : mT} (h : LN f n O M) (hR : RR P R M) {j : Nat} (hj : j < n) : v_X2_nerveAt O R (Int32.ofNat j - 1) = na R f j ∧ v_X2_nerveAt O R (Int32.ofNat j + 1) = nb R f n j ∧ nvOf M (if Int32.ofNat j = 0 then (-1) else (M.2.1 33) (Int32.ofNat j - 1).toNatClampNeg) = na R f j ∧ nvOf M (if Int32.ofNat j = (Int32.ofNat n - 1) then (-1) else (M.2.1 33) (Int32.ofNat j + 1).toNatClampNeg) = nb R f n j ∧ NB7 M (if Int32.ofNat j = 0 then (-1) else (M.2.1 33) (Int32.ofNat j - 1).toNatClampNeg) ∧ NB7 M (if Int32.ofNat j = (Int32.ofNat n - 1) then (-1) else (M.2.1 33) (Int32.ofNat j + 1).toNatClampNeg) ∧ (¬ Int32.ofNat j = 0 → vp_in (Int32.ofNat j - 1) 7) ∧ (¬ Int32.ofNat j = Int32.ofNat n - 1 → vp_in (Int32.ofNat j + 1) 7) := by
  have h7 := h.1
  have z : ∀ x, isC M.1 x → v_X4_nerveOf R x = nvOf M x ∧ NB7 M x := fun x hx => nvof_in hR hx
  have zn : v_X4_nerveOf R (-1) = 0 := by rw [nvof_no hR, nvOf_m1]
  have en : (Int32.ofNat n - 1) = Int32.ofNat (n - 1) := by
    rw [n_eq, n_sub (by rw [n_of (by omega), n_1]; omega) (by rw [n_of (by omega), n_1]; omega), n_of (by omega), n_of (by omega), n_1]
    omega
  unfold v_X2_nerveAt na nb
  rw [nat1 (by omega), en]
  by_cases c : j = 0
  · subst c
    rw [show Int32.ofNat 0 - 1 = -1 from rfl, memb_m1, zn, if_pos rfl, if_pos (show Int32.ofNat 0 = 0 from rfl)]
    by_cases d : 0 + 1 = n
    · rw [d, memb_end h, zn, if_pos rfl, if_pos (show Int32.ofNat 0 = Int32.ofNat (n - 1) by rw [← d])]
      exact ⟨rfl, rfl, nvOf_m1 M, nvOf_m1 M, nb_m1 M, nb_m1 M, fun q => absurd rfl q, fun q => absurd (by rw [← d]) q⟩
    · have d2 : ¬ Int32.ofNat 0 = Int32.ofNat (n - 1) := fun q => by rw [n_eq, n_of (by omega), n_of (by omega)] at q; omega
      rw [memb_in h (show 0 + 1 < n by omega), if_neg d, if_neg d2, tn_of (by omega), h.2.2.2.1 _ (show 0 + 1 < n by omega)]
      obtain ⟨z1, z2⟩ := z _ (h.2.2.2.2.2 _ (show 0 + 1 < n by omega))
      exact ⟨rfl, rfl, nvOf_m1 M, z1.symm, nb_m1 M, z2, fun q => absurd rfl q, fun _ => nat_in (by omega) (by omega)⟩
  · have c2 : ¬ Int32.ofNat j = 0 := fun q => by rw [n_eq, n_of (by omega), n_0] at q; omega
    have ej : (Int32.ofNat j - 1) = Int32.ofNat (j - 1) := by
      rw [n_eq, n_sub (by rw [n_of (by omega), n_1]; omega) (by rw [n_of (by omega), n_1]; omega), n_of (by omega), n_of (by omega), n_1]
      omega
    rw [ej, memb_in h (show j - 1 < n by omega), if_neg c, if_neg c2, tn_of (by omega), h.2.2.2.1 _ (show j - 1 < n by omega)]
    obtain ⟨y1, y2⟩ := z _ (h.2.2.2.2.2 _ (show j - 1 < n by omega))
    by_cases d : j + 1 = n
    · rw [d, memb_end h, zn, if_pos rfl, if_pos (show Int32.ofNat j = Int32.ofNat (n - 1) by rw [← d]; rfl)]
      exact ⟨rfl, rfl, y1.symm, nvOf_m1 M, y2, nb_m1 M, fun _ => nat_in (by omega) (by omega), fun q => absurd (by rw [← d]; rfl) q⟩
    · have d2 : ¬ Int32.ofNat j = Int32.ofNat (n - 1) := fun q => by rw [n_eq, n_of (by omega), n_of (by omega)] at q; omega
      rw [memb_in h (show j + 1 < n by omega), if_neg d, if_neg d2, tn_of (by omega), h.2.2.2.1 _ (show j + 1 < n by omega)]
      obtain ⟨z1, z2⟩ := z _ (h.2.2.2.2.2 _ (show j + 1 < n by omega))
      exact ⟨rfl, rfl, y1.symm, z1.symm, y2, z2, fun _ => nat_in (by omega) (by omega), fun _ => nat_in (by omega) (by omega)⟩
end
