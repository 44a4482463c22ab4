/-! an order, played -/
section
variable {P : pT} {R : rT} {f : Nat → Nat} {n k : Nat} {O : oT} {M : mT}
theorem play_ok (hk : k < 128) (hL : LN f n O M) (hR : RR P R M) (h36 : M.1 36 = Int32.ofNat k) : p_X2_play P O R (Int32.ofNat k) ∧ p_X7_comes M (Int32.ofNat n) ∧ ∃ O' M', v_X2_play P O R (Int32.ofNat k) = O' ∧ v_X7_comes M (Int32.ofNat n) = M' ∧ CO O O' ∧ CM M M' ∧ PS P R f n k O' M' n := by
  have h7 := hL.1
  have cO : CO O (v_X2_begin O) := ((CO.f 0 (by omega)).tr (CO.f 0 (by omega))).tr (CO.f 0 (by omega))
  have cM : CM M (msf (msf (msf M 37 0) 38 0) 39 0) := ((CM.f 0 (by omega)).tr (CM.f 0 (by omega))).tr (CM.f 0 (by omega))
  have hp : PS P R f n k (v_X2_begin O) (msf (msf (msf M 37 0) 38 0) 39 0) 0 := ⟨⟨rfl, rfl, rfl⟩, ⟨rfl, rfl, rfl⟩, fun j hj => absurd hj (by omega)⟩
  unfold p_X2_play p_X7_comes v_X2_play v_X7_comes
  rw [kk_def, kk_def]
  obtain ⟨j1, j2, O', M', j3, j4, j5, j6, j7⟩ := play_loop (P := P) (R := R) hk 200 0 _ _ (by omega) (by omega) (hL.c cO cM) (RR_cm cM hR) ((cM.1 36 (by decide) (by decide) (by decide)).trans h36) hp
  exact ⟨j1, j2, O', M', j3, j4, cO.tr j5, cM.tr j6, j7⟩
/-- who they are -/
theorem setof_loop {h : Int32} (hn : n ≤ 7) (hd : DL f n) (h33 : ∀ j, j < n → M.2.1 33 j = Int32.ofNat (f j)) : ∀ (fu i : Nat), i ≤ n → n - i < fu → p_X7_setOf_r M fu (Int32.ofNat n) h (Int32.ofNat (ksum f (M.2.1 34) h i)) (Int32.ofNat i) ∧ v_X7_setOf_r M fu (Int32.ofNat n) h (Int32.ofNat (ksum f (M.2.1 34) h i)) (Int32.ofNat i) = Int32.ofNat (ksum f (M.2.1 34) h n) := by
  intro fu
  induction fu with
  | zero => intro i _ h; omega
  | succ fu ih =>
    intro i hi hfu
    rw [p_X7_setOf_r, v_X7_setOf_r]
    by_cases c : i = n
    · have w : Int32.ofNat n ≤ Int32.ofNat i := by rw [nat_le (by omega) (by omega)]; omega
      rw [if_pos w, if_pos w]
      subst c
      exact ⟨trivial, rfl⟩
    · have w : ¬ Int32.ofNat n ≤ Int32.ofNat i := by rw [nat_le (by omega) (by omega)]; omega
      rw [if_neg w, if_neg w, tn_of (by omega), h33 i (by omega), kk_def, kk_def, nat1 (by omega)]
      have v7 : vp_in (Int32.ofNat i) 7 := nat_in (by omega) (by omega)
      obtain ⟨j1, j2⟩ := ih (i + 1) (by omega) (by omega)
      by_cases d : M.2.1 34 i = h
      · rw [if_pos d, if_pos d, (ksum_or (by omega) (hd.le (by omega)) d).2]
        exact ⟨⟨v7, v7, j1⟩, j2⟩
      · rw [if_neg d, if_neg d]
        rw [ksum_no d] at j1 j2
        exact ⟨⟨v7, trivial, j1⟩, j2⟩
theorem setof_ok {h : Int32} (hn : n ≤ 7) (hd : DL f n) (h33 : ∀ j, j < n → M.2.1 33 j = Int32.ofNat (f j)) : p_X7_setOf M (Int32.ofNat n) h ∧ v_X7_setOf M (Int32.ofNat n) h = Int32.ofNat (ksum f (M.2.1 34) h n) := setof_loop hn hd h33 200 0 (by omega) (by omega)
/-- an element of a row, to both -/
theorem int_eq {S : sT} {s i : Nat} (h : RS1 S M s) (hs : s < 8) (hi : (i : Int) < (M.2.1 18 s).toInt) : v_X5_intAt S (Int32.ofNat i) = v_X7_intAt M (Int32.ofNat s) (Int32.ofNat i) ∧ p_X7_intAt M (Int32.ofNat s) (Int32.ofNat i) := by
  obtain ⟨-, -, -, e2, hl, he⟩ := h
  have e : ((160 : Int32) * Int32.ofNat s + Int32.ofNat i).toInt = 160 * (s : Int) + i := by
    have e1 : ((160 : Int32) * Int32.ofNat s).toInt = 160 * (s : Int) := by rw [n_mul (by rw [n_160, n_of (by omega)]; omega) (by rw [n_160, n_of (by omega)]; omega), n_160, n_of (by omega)]
    rw [n_add (by rw [e1, n_of (by omega)]; omega) (by rw [e1, n_of (by omega)]; omega), e1, n_of (by omega)]
  refine ⟨?_, ?_⟩
  · unfold v_X5_intAt v_X5_longAt v_X7_intAt
    rw [kk_def, if_neg (by rw [n_lt, n_of (by omega), n_0]; omega), e2, if_neg (by rw [n_le, n_of (by omega)]; omega), if_pos (by rw [n_lt, n_of (by omega), n_160]; omega), tn_of (by omega), he i hi, n_tn, e]
    rw [show (160 * (s : Int) + i).toNat = 160 * s + i by omega]
  · unfold p_X7_intAt
    rw [vp_iff, e]
    omega
theorem p_longx {S : sT} {x : Int32} : p_X5_longAt S x := by
  unfold p_X5_longAt
  by_cases c : x < 0
  · rw [if_pos c]; trivial
  · rw [if_neg c]
    by_cases d : S.1 2 ≤ x
    · rw [if_pos d]; trivial
    · rw [if_neg d]
      by_cases e : x < 160
      · rw [if_pos e, vp_iff]
        rw [n_lt, n_0] at c
        rw [n_lt, n_160] at e
        omega
      · rw [if_neg e]; trivial
theorem p_intx {S : sT} {x : Int32} : p_X5_intAt S x := p_longx
end
/-! an order, read from a row -/
section
variable {P : pT} {R : rT} {n s : Nat} {S : sT}
/-- the set of the first i -/
def kall (f : Nat → Nat) : Nat → Nat
  | 0 => 0
  | i + 1 => kall f i + 2 ^ f i
theorem kall_sum {f : Nat → Nat} : ∀ i, kall f i = ksum f (fun _ => 0) 0 i := by
  intro i
  induction i with
  | zero => rfl
  | succ i ih => rw [kall, ksum, ih, if_pos rfl]
theorem kall_congr {f g : Nat → Nat} : ∀ i, (∀ j, j < i → g j = f j) → kall g i = kall f i := by
  intro i
  induction i with
  | zero => intro _; rfl
  | succ i ih =>
    intro e
    rw [kall, kall, ih (fun j hj => e j (by omega)), e i (by omega)]
theorem kall_ok {f : Nat → Nat} {i : Nat} (hi : i ≤ 7) (hd : DL f i) : kall f i < 128 ∧ ∀ d, d < 7 → ((kall f i).testBit d = true ↔ ∃ j, j < i ∧ f j = d) := by
  obtain ⟨a1, -, a3⟩ := ksum_ok (f := f) (w := fun _ => 0) (h := 0) i hi hd
  rw [kall_sum]
  refine ⟨a1, fun d hd7 => ?_⟩
  rw [a3 d hd7]
  constructor
  · rintro ⟨j, h1, h2, -⟩; exact ⟨j, h1, h2⟩
  · rintro ⟨j, h1, h2⟩; exact ⟨j, h1, h2, rfl⟩
/-- one more that isn't there yet -/
theorem DL_more {f : Nat → Nat} {i c : Nat} (hi : i + 1 ≤ 7) (hd : DL f i) (hc : c < 7) (hb : (kall f i).testBit c = false) (hf : f i = c) : DL f (i + 1) := by
  obtain ⟨-, a⟩ := kall_ok (f := f) (i := i) (by omega) hd
  have hne : ∀ j, j < i → ¬ f j = c := fun j hj e => by
    have := (a c hc).mpr ⟨j, hj, e⟩
    rw [hb] at this
    exact absurd this (by decide)
  refine ⟨fun j hj => ?_, fun a b ha hb e => ?_⟩
  · by_cases z : j = i
    · rw [z, hf]; exact hc
    · exact hd.1 j (by omega)
  · by_cases z1 : a = i
    · by_cases z2 : b = i
      · omega
      · rw [z1, hf] at e
        exact absurd e.symm (hne b (by omega))
    · by_cases z2 : b = i
      · rw [z2, hf] at e
        exact absurd e (hne a (by omega))
      · exact hd.2 a b (by omega) (by omega) e
end
