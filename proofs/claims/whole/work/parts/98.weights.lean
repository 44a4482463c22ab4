/-! what an order weighs -/
section
variable (P : pT) (R : rT) (n : Nat)
def oy (g : Nat → Nat) (p f j : Nat) : Int32 := v_X4_comesTo P R (Int32.ofNat (g j)) (na R g j) (nb R g n j) (Int32.ofNat (p - f))
def st (g : Nat → Nat) : Nat → Nat × Nat × Int
  | 0 => (0, 0, 0)
  | j + 1 => ((st g j).1 + (if oy P R n g (st g j).1 (st g j).2.1 j = 1 then 1 else 0), (st g j).2.1 + (if oy P R n g (st g j).1 (st g j).2.1 j = 0 then 1 else 0), (st g j).2.2 + (v_X4_weightOf R (oy P R n g (st g j).1 (st g j).2.1 j)).toInt)
end
section
variable {P : pT} {R : rT} {n : Nat}
theorem oy_congr {g g' : Nat → Nat} {p f j : Nat} (h : ∀ i, i ≤ j + 1 → i < n → g' i = g i) (hj : j < n) : oy P R n g' p f j = oy P R n g p f j := by
  unfold oy na nb
  rw [h j (by omega) hj]
  have e1 : (if j = 0 then 0 else v_X4_nerveOf R (Int32.ofNat (g' (j - 1)))) = (if j = 0 then 0 else v_X4_nerveOf R (Int32.ofNat (g (j - 1)))) := by
    by_cases z : j = 0
    · rw [if_pos z, if_pos z]
    · rw [if_neg z, if_neg z, h (j - 1) (by omega) (by omega)]
  have e2 : (if j + 1 = n then 0 else v_X4_nerveOf R (Int32.ofNat (g' (j + 1)))) = (if j + 1 = n then 0 else v_X4_nerveOf R (Int32.ofNat (g (j + 1)))) := by
    by_cases z : j + 1 = n
    · rw [if_pos z, if_pos z]
    · rw [if_neg z, if_neg z, h (j + 1) (by omega) (by omega)]
  rw [e1, e2]
theorem st_congr {g g' : Nat → Nat} : ∀ j, j ≤ n → (∀ i, i ≤ j → i < n → g' i = g i) → st P R n g' j = st P R n g j := by
  intro j
  induction j with
  | zero => intro _ _; rfl
  | succ j ih =>
    intro hj h
    have e := ih (by omega) (fun i h1 h2 => h i (by omega) h2)
    rw [st, st, e, oy_congr (fun i h1 h2 => h i h1 h2) (by omega)]
theorem st_le {g : Nat → Nat} : ∀ j, (st P R n g j).1 ≤ j ∧ (st P R n g j).2.1 ≤ j := by
  intro j
  induction j with
  | zero => exact ⟨Nat.le_refl 0, Nat.le_refl 0⟩
  | succ j ih =>
    rw [st]
    refine ⟨?_, ?_⟩
    · show (st P R n g j).1 + _ ≤ _
      have := ih.1
      split <;> omega
    · show (st P R n g j).2.1 + _ ≤ _
      have := ih.2
      split <;> omega
theorem weight_b {y : Int32} (ht : 1 ≤ (R.1 7).toInt ∧ (R.1 7).toInt ≤ 99) : 0 ≤ (v_X4_weightOf R y).toInt ∧ (v_X4_weightOf R y).toInt ≤ 1000 := by
  unfold v_X4_weightOf
  by_cases c : y = 0
  · rw [if_pos c]; decide
  · rw [if_neg c]
    by_cases d : y = 1
    · rw [if_pos d]; omega
    · rw [if_neg d]; decide
theorem st_w {g : Nat → Nat} (ht : 1 ≤ (R.1 7).toInt ∧ (R.1 7).toInt ≤ 99) : ∀ j, 0 ≤ (st P R n g j).2.2 ∧ (st P R n g j).2.2 ≤ 1000 * (j : Int) := by
  intro j
  induction j with
  | zero => exact ⟨Int.le_refl 0, Int.le_refl 0⟩
  | succ j ih =>
    rw [st]
    have h := weight_b (R := R) (y := oy P R n g (st P R n g j).1 (st P R n g j).2.1 j) ht
    show 0 ≤ (st P R n g j).2.2 + _ ∧ (st P R n g j).2.2 + _ ≤ _
    omega
/-- the reference's counts are these -/
theorem st_WT {f : Nat → Nat} {w : Nat → Int32} (h : WT P R f n 0 w n) : ∀ j, j ≤ n → (st P R n f j).1 = kcnt w 1 j ∧ (st P R n f j).2.1 = kcnt w 0 j ∧ (st P R n f j).2.2 = (R.1 7).toInt * (kcnt w 1 j : Int) + 1000 * (kcnt w 2 j : Int) := by
  intro j
  induction j with
  | zero => intro _; exact ⟨rfl, rfl, by show (0 : Int) = (R.1 7).toInt * 0 + 1000 * 0; rw [Int.mul_zero]; rfl⟩
  | succ j ih =>
    intro hj
    obtain ⟨e1, e2, e3⟩ := ih (by omega)
    have hw := h j (by omega)
    rw [if_neg (by rw [Nat.zero_testBit]; decide)] at hw
    have eo : oy P R n f (st P R n f j).1 (st P R n f j).2.1 j = w j := by
      unfold oy
      rw [e1, e2]
      exact hw.symm
    have c012 := comesTo_012 (P := P) (R := R) (x := Int32.ofNat (f j)) (y := na R f j) (z := nb R f n j) (sn := Int32.ofNat (kcnt w 1 j - kcnt w 0 j))
    rw [← hw] at c012
    rw [st, eo, kcnt, kcnt, kcnt]
    refine ⟨?_, ?_, ?_⟩
    · show (st P R n f j).1 + _ = _
      rw [e1]
    · show (st P R n f j).2.1 + _ = _
      rw [e2]
    · show (st P R n f j).2.2 + _ = _
      rw [e3]
      unfold v_X4_weightOf
      rcases c012 with e | e | e
      · have n1 : ¬ w j = 1 := by rw [e]; decide
        have n2 : ¬ w j = 2 := by rw [e]; decide
        rw [if_pos e, if_neg n1, if_neg n2, n_0, Nat.add_zero, Nat.add_zero, Int.add_zero]
      · have n0 : ¬ w j = 0 := by rw [e]; decide
        have n2 : ¬ w j = 2 := by rw [e]; decide
        rw [if_neg n0, if_pos e, if_pos e, if_neg n2]
        have : (R.1 7).toInt * ((kcnt w 1 j + 1 : Nat) : Int) = (R.1 7).toInt * (kcnt w 1 j : Int) + (R.1 7).toInt := by
          rw [Int.natCast_add, Int.mul_add]
          show _ + (R.1 7).toInt * 1 = _
          rw [Int.mul_one]
        rw [this, Nat.add_zero]
        omega
      · have n0 : ¬ w j = 0 := by rw [e]; decide
        have n1 : ¬ w j = 1 := by rw [e]; decide
        rw [if_neg n0, if_neg n1, if_neg n1, if_pos e, n_1000, Nat.add_zero]
        omega
end
/-! what the rest weigh at least -/
def LSm (l : Nat → Int) (k : Nat) : Nat → Int
  | 0 => 0
  | c + 1 => LSm l k c + (if k.testBit c = true then 0 else l c)
theorem LSm_more {l : Nat → Int} {k c : Nat} (hk : k < 128) (hc : c < 7) (hb : k.testBit c = false) : ∀ n, n ≤ 7 → LSm l k n = LSm l (k + 2 ^ c) n + (if c < n then l c else 0) := by
  intro n
  induction n with
  | zero => intro _; rw [if_neg (by omega)]; rfl
  | succ n ih =>
    intro hn
    have bs := bits_set c hc n (by omega) k hk hb
    rw [LSm, LSm, ih (by omega), bs]
    by_cases z : n = c
    · have h1 : (k.testBit n || n == c) = true := by rw [z]; simp
      have h2 : ¬ k.testBit n = true := by rw [z, hb]; decide
      rw [if_pos h1, if_neg h2, if_neg (show ¬ c < n by omega), if_pos (show c < n + 1 by omega), z]
    · have h1 : (k.testBit n || n == c) = k.testBit n := by
        rw [show (n == c) = false from by rw [beq_eq_false_iff_ne]; exact z, Bool.or_false]
      rw [h1]
      by_cases y : c < n
      · rw [if_pos y, if_pos (show c < n + 1 by omega)]; omega
      · rw [if_neg y, if_neg (show ¬ c < n + 1 by omega)]; omega
theorem LSm_full {l : Nat → Int} {k : Nat} : ∀ n, (∀ c, c < n → k.testBit c = true) → LSm l k n = 0 := by
  intro n
  induction n with
  | zero => intro _; rfl
  | succ n ih =>
    intro h
    rw [LSm, ih (fun c hc => h c (by omega)), if_pos (h n (by omega))]
    rfl
theorem full_mask : ∀ n, n < 8 → ∀ k, k < 128 → k < 2 ^ n → pc k n = n → ∀ c, c < n → k.testBit c = true := by decide +kernel
theorem low_mask : ∀ n, n < 8 → ∀ k, k < 128 → (∀ d, d < 7 → k.testBit d = true → d < n) → k < 2 ^ n := by decide +kernel
/-- all of them are there -/
theorem all_there {g : Nat → Nat} {n : Nat} (hn : n ≤ 7) (hd : DL g n) (hg : ∀ i, i < n → g i < n) : ∀ c, c < n → (kall g n).testBit c = true := by
  obtain ⟨k1, k2⟩ := kall_ok hn hd
  have hlt : kall g n < 2 ^ n := low_mask n (by omega) _ k1 (fun d hd7 ht => by
    obtain ⟨j, h1, h2⟩ := (k2 d hd7).mp ht
    rw [← h2]; exact hg j h1)
  obtain ⟨-, a2, -⟩ := ksum_ok (f := g) (w := fun _ => 0) (h := 0) n hn hd
  rw [← kall_sum] at a2
  have e := pc_bc n (by omega) _ k1 hlt
  rw [a2] at e
  have kc : ∀ i, kcnt (fun _ => (0 : Int32)) 0 i = i := by
    intro i
    induction i with
    | zero => rfl
    | succ i ih => rw [kcnt, ih, if_pos rfl]
  rw [kc n] at e
  have pl := pc_le (k := kall g n) n
  exact full_mask n (by omega) _ k1 hlt (ofN_inj (by omega) (by omega) e).symm
section
variable {P : pT} {R : rT} {n : Nat} {l : Nat → Int}
/-- the bound -/
def HB (P : pT) (R : rT) (n : Nat) (l : Nat → Int) (g : Nat → Nat) (j : Nat) : Int := (st P R n g j).2.2 + LSm l (kall g j) n
def HL (P : pT) (R : rT) (n : Nat) (l : Nat → Int) : Prop := ∀ g : Nat → Nat, (∀ i, i < n → g i < n) → ∀ j, j < n → ∀ p f, p - f ≤ 7 → l (g j) ≤ (v_X4_weightOf R (oy P R n g p f j)).toInt
theorem kall_more {g : Nat → Nat} {j : Nat} (hj : j + 1 ≤ 7) (hd : DL g (j + 1)) : kall g j < 128 ∧ (kall g j).testBit (g j) = false ∧ kall g (j + 1) = kall g j + 2 ^ g j := by
  obtain ⟨k1, k2⟩ := kall_ok (f := g) (i := j) (by omega) (hd.le (by omega))
  refine ⟨k1, ?_, rfl⟩
  rcases hq : (kall g j).testBit (g j) with _ | _
  · rfl
  · obtain ⟨i, h1, h2⟩ := (k2 (g j) (hd.1 j (by omega))).mp hq
    have := hd.2 i j (by omega) (by omega) h2
    omega
theorem HB_step {g : Nat → Nat} {j : Nat} (hn : n ≤ 7) (hj : j < n) (hd : DL g (j + 1)) (hg : g j < n) : HB P R n l g (j + 1) = HB P R n l g j - l (g j) + (v_X4_weightOf R (oy P R n g (st P R n g j).1 (st P R n g j).2.1 j)).toInt := by
  obtain ⟨k1, k2, k3⟩ := kall_more (by omega) hd
  have h := LSm_more (l := l) k1 (hd.1 j (by omega)) k2 n hn
  rw [if_pos hg] at h
  unfold HB
  rw [k3, h, st]
  show (st P R n g j).2.2 + _ + _ = _
  omega
theorem HB_mono (hn : n ≤ 7) (hl : HL P R n l) {g : Nat → Nat} (hd : DL g n) (hg : ∀ i, i < n → g i < n) : ∀ d j, j + d = n → HB P R n l g j ≤ (st P R n g n).2.2 := by
  intro d
  induction d with
  | zero =>
    intro j hj
    have : j = n := by omega
    subst this
    unfold HB
    rw [LSm_full j (all_there hn hd hg)]
    omega
  | succ d ih =>
    intro j hj
    have h := ih (j + 1) (by omega)
    rw [HB_step hn (by omega) (hd.le (by omega)) (hg j (by omega))] at h
    have sl := st_le (P := P) (R := R) (n := n) (g := g) j
    have := hl g hg j (by omega) (st P R n g j).1 (st P R n g j).2.1 (by omega)
    omega
theorem HB_end (hn : n ≤ 7) {g : Nat → Nat} (hd : DL g n) (hg : ∀ i, i < n → g i < n) : HB P R n l g n = (st P R n g n).2.2 := by
  unfold HB
  rw [LSm_full n (all_there hn hd hg)]
  omega
theorem HB_congr {g g' : Nat → Nat} {j : Nat} (hj : j ≤ n) (h : ∀ i, i ≤ j → i < n → g' i = g i) (h2 : ∀ i, i < j → g' i = g i) : HB P R n l g' j = HB P R n l g j := by
  unfold HB
  rw [st_congr j hj h, kall_congr j h2]
end
