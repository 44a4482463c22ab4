/-! what becomes of one, to both -/
section
variable {P : pT} {R : rT} {M : mT} {x y z sn : Int32}
theorem comesTo_012 : v_X4_comesTo P R x y z sn = 0 ∨ v_X4_comesTo P R x y z sn = 1 ∨ v_X4_comesTo P R x y z sn = 2 := by
  unfold v_X4_comesTo
  by_cases c : v_X4_has R x = 0
  · rw [if_pos c]; exact Or.inl rfl
  · rw [if_neg c]
    generalize v_X4_slowAt P R x (R.1 6) ((R.2.1 1) x.toNatClampNeg) y z sn = s
    by_cases d : s = -1
    · rw [if_pos d]; exact Or.inl rfl
    · rw [if_neg d]
      by_cases e : (R.2.1 2) x.toNatClampNeg < R.1 7
      · rw [if_pos e]; exact Or.inr (Or.inr rfl)
      · rw [if_neg e]; exact Or.inr (Or.inl rfl)
theorem goes_eq (h : RR P R M) (hx : isC M.1 x) (hy : NB7 M y) (hz : NB7 M z) (hsn : 0 ≤ sn.toInt ∧ sn.toInt ≤ 7) : v_X7_goes M x y z sn = (if (((M.1 36) >>> (x &&& 31)) &&& 1) = 1 then 0 else v_X4_comesTo P R x (nvOf M y) (nvOf M z) sn) ∧ p_X7_goes M x y z sn ∧ ∀ a b c, p_X4_comesTo P R x a b c := by
  have hs := SC_of h hx
  have hc := h.cm hx
  have e6 : R.1 6 = M.1 2 := h.1.2.2.1
  have e7 : R.1 7 = M.1 3 := h.1.2.2.2.1
  have hf : 0 ≤ (M.1 2).toInt ∧ (M.1 2).toInt ≤ 9 := h.2.1.2.2.1
  have n1 : R.2.1 1 x.toNatClampNeg = M.2.1 11 x.toNatClampNeg := hc.2.1.1
  have n2 : R.2.1 2 x.toNatClampNeg = M.2.1 14 x.toNatClampNeg := hc.2.1.2.1
  have v7 := h.vp hx
  refine ⟨?_, ?_, fun a b c => ?_⟩
  · unfold v_X7_goes v_X4_comesTo
    rw [has_in h hx, if_neg n10, e6, e7, n1, n2, slow_eq hs hy hz hf hsn]
  · unfold p_X7_goes
    by_cases c : (((M.1 36) >>> (x &&& 31)) &&& 1) = 1
    · rw [if_pos c]; trivial
    · rw [if_neg c]
      refine ⟨p_slowm hs hy hz, ?_⟩
      generalize v_X7_slowsAt M x y z sn (M.1 2) = s
      by_cases d : s = -1
      · rw [if_pos d]; trivial
      · rw [if_neg d]; exact v7
  · unfold p_X4_comesTo
    refine ⟨p_has h x, ?_⟩
    rw [has_in h hx, if_neg n10]
    refine ⟨v7, p_slowx hs, ?_⟩
    generalize v_X4_slowAt P R x (R.1 6) ((R.2.1 1) x.toNatClampNeg) a b c = s
    by_cases d : s = -1
    · rw [if_pos d]; trivial
    · rw [if_neg d]; exact v7
theorem nvof_in (h : RR P R M) (hx : isC M.1 x) : v_X4_nerveOf R x = nvOf M x ∧ NB7 M x := by
  have hn : ¬ x = -1 := fun e => by
    have := hx.1
    rw [e, n_m1] at this
    omega
  have hc := (h.cm hx).2.2.2.2.1
  refine ⟨?_, fun _ => ⟨h.vp hx, hc⟩⟩
  rw [nerve_in h hx]
  unfold nvOf
  rw [if_neg hn]
theorem nvof_no (h : RR P R M) : v_X4_nerveOf R (-1) = nvOf M (-1) := by
  rw [nerve_out h (fun q => by have := q.1; rw [n_m1] at this; omega), nvOf_m1]
end
/-! sets of comers, and how many -/
def ksum (f : Nat → Nat) (w : Nat → Int32) (h : Int32) : Nat → Nat
  | 0 => 0
  | i + 1 => ksum f w h i + (if w i = h then 2 ^ f i else 0)
def kcnt (w : Nat → Int32) (h : Int32) : Nat → Nat
  | 0 => 0
  | i + 1 => kcnt w h i + (if w i = h then 1 else 0)
theorem ksum_congr {f : Nat → Nat} {w w' : Nat → Int32} {h : Int32} : ∀ i, (∀ j, j < i → w' j = w j) → ksum f w' h i = ksum f w h i := by
  intro i
  induction i with
  | zero => intro _; rfl
  | succ i ih =>
    intro e
    rw [ksum, ksum, ih (fun j hj => e j (by omega)), e i (by omega)]
theorem kcnt_congr {w w' : Nat → Int32} {h : Int32} : ∀ i, (∀ j, j < i → w' j = w j) → kcnt w' h i = kcnt w h i := by
  intro i
  induction i with
  | zero => intro _; rfl
  | succ i ih =>
    intro e
    rw [kcnt, kcnt, ih (fun j hj => e j (by omega)), e i (by omega)]
theorem kcnt_le {w : Nat → Int32} {h : Int32} : ∀ i, kcnt w h i ≤ i := by
  intro i
  induction i with
  | zero => exact Nat.le_refl 0
  | succ i ih =>
    rw [kcnt]
    split <;> omega
/-- different comers, each below 7 -/
def DL (f : Nat → Nat) (n : Nat) : Prop := (∀ i, i < n → f i < 7) ∧ ∀ i j, i < n → j < n → f i = f j → i = j
theorem DL.le {f : Nat → Nat} {n m : Nat} (h : DL f n) (hm : m ≤ n) : DL f m := ⟨fun i hi => h.1 i (by omega), fun i j hi hj e => h.2 i j (by omega) (by omega) e⟩
theorem bc_all : ∀ k, k < 128 → ∀ c, c < 7 → k.testBit c = false → v_J6_bitCount_0f7a4 (Int32.ofNat (k + 2 ^ c)) = v_J6_bitCount_0f7a4 (Int32.ofNat k) + 1 := by decide +kernel
theorem ksum_ok {f : Nat → Nat} {w : Nat → Int32} {h : Int32} : ∀ i, i ≤ 7 → DL f i → ksum f w h i < 128 ∧ v_J6_bitCount_0f7a4 (Int32.ofNat (ksum f w h i)) = Int32.ofNat (kcnt w h i) ∧ ∀ d, d < 7 → ((ksum f w h i).testBit d = true ↔ ∃ j, j < i ∧ f j = d ∧ w j = h) := by
  intro i
  induction i with
  | zero => exact fun _ _ => ⟨show (0 : Nat) < 128 by decide, show v_J6_bitCount_0f7a4 (Int32.ofNat 0) = Int32.ofNat 0 by decide +kernel, fun d _ => ⟨fun e => by rw [ksum, Nat.zero_testBit] at e; exact absurd e (by decide), fun ⟨j, hj, _⟩ => by omega⟩⟩
  | succ i ih =>
    intro hi hd
    obtain ⟨a1, a2, a3⟩ := ih (by omega) (hd.le (by omega))
    have f7 := hd.1 i (by omega)
    rw [ksum, kcnt]
    by_cases c : w i = h
    · rw [if_pos c, if_pos c]
      have hb : (ksum f w h i).testBit (f i) = false := by
        rcases hq : (ksum f w h i).testBit (f i) with _ | _
        · rfl
        · obtain ⟨j, h1, h2, -⟩ := (a3 (f i) f7).mp hq
          have := hd.2 j i (by omega) (by omega) h2
          omega
      refine ⟨((bits_all (f i) f7 _ a1).2.2 hb).2.2, ?_, fun d hd7 => ?_⟩
      · rw [bc_all _ a1 _ f7 hb, a2, nat1 (by have := kcnt_le (w := w) (h := h) i; omega)]
      · rw [bits_set (f i) f7 d hd7 _ a1 hb, Bool.or_eq_true, a3 d hd7, beq_iff_eq]
        constructor
        · rintro (⟨j, h1, h2, h3⟩ | e)
          · exact ⟨j, by omega, h2, h3⟩
          · exact ⟨i, by omega, e.symm, c⟩
        · rintro ⟨j, h1, h2, h3⟩
          by_cases z : j = i
          · exact Or.inr (by rw [← h2, z])
          · exact Or.inl ⟨j, by omega, h2, h3⟩
    · rw [if_neg c, if_neg c]
      refine ⟨a1, a2, fun d hd7 => ?_⟩
      rw [Nat.add_zero, a3 d hd7]
      constructor
      · rintro ⟨j, h1, h2, h3⟩
        exact ⟨j, by omega, h2, h3⟩
      · rintro ⟨j, h1, h2, h3⟩
        by_cases z : j = i
        · exact absurd (z ▸ h3) c
        · exact ⟨j, by omega, h2, h3⟩
/-- one more of them -/
theorem ksum_or {f : Nat → Nat} {w : Nat → Int32} {h : Int32} {i : Nat} (hi : i + 1 ≤ 7) (hd : DL f (i + 1)) (e : w i = h) : (Int32.ofNat (ksum f w h i) ||| ((1 : Int32) <<< (Int32.ofNat (f i) &&& 31))) = Int32.ofNat (ksum f w h (i + 1)) ∧ (Int32.ofNat (ksum f w h i) + ((1 : Int32) <<< (Int32.ofNat (f i) &&& 31))) = Int32.ofNat (ksum f w h (i + 1)) := by
  obtain ⟨a1, -, a3⟩ := ksum_ok (f := f) (w := w) (h := h) i (by omega) (hd.le (by omega))
  have f7 := hd.1 i (by omega)
  have hb : (ksum f w h i).testBit (f i) = false := by
    rcases hq : (ksum f w h i).testBit (f i) with _ | _
    · rfl
    · obtain ⟨j, h1, h2, -⟩ := (a3 (f i) f7).mp hq
      have := hd.2 j i (by omega) (by omega) h2
      omega
  rw [ksum, if_pos e]
  have := (bits_all (f i) f7 _ a1).2.2 hb
  exact ⟨this.1, this.2.1⟩
theorem ksum_no {f : Nat → Nat} {w : Nat → Int32} {h : Int32} {i : Nat} (e : ¬ w i = h) : ksum f w h (i + 1) = ksum f w h i := by
  rw [ksum, if_neg e]; rfl
