/-! how many bits, of 32 -/
theorem land_split (a b w : Nat) : a &&& b = 2 ^ w * (a / 2 ^ w &&& b / 2 ^ w) + (a % 2 ^ w &&& b % 2 ^ w) := by
  rw [← Nat.and_div_two_pow, ← Nat.and_mod_two_pow, Nat.div_add_mod]
theorem land4 {c0 c1 c2 c3 m : Nat} (h0 : c0 < 256) (h1 : c1 < 256) (h2 : c2 < 256) (h3 : c3 < 256) (hm : m < 256) : (c0 + 256 * c1 + 65536 * c2 + 16777216 * c3) &&& (m + 256 * m + 65536 * m + 16777216 * m) = (c0 &&& m) + 256 * (c1 &&& m) + 65536 * (c2 &&& m) + 16777216 * (c3 &&& m) := by
  rw [land_split _ _ 8, show (2 : Nat) ^ 8 = 256 from rfl]
  rw [show (c0 + 256 * c1 + 65536 * c2 + 16777216 * c3) / 256 = c1 + 256 * c2 + 65536 * c3 by omega, show (m + 256 * m + 65536 * m + 16777216 * m) / 256 = m + 256 * m + 65536 * m by omega, show (c0 + 256 * c1 + 65536 * c2 + 16777216 * c3) % 256 = c0 by omega, show (m + 256 * m + 65536 * m + 16777216 * m) % 256 = m by omega]
  rw [land_split (c1 + 256 * c2 + 65536 * c3) _ 8, show (2 : Nat) ^ 8 = 256 from rfl]
  rw [show (c1 + 256 * c2 + 65536 * c3) / 256 = c2 + 256 * c3 by omega, show (m + 256 * m + 65536 * m) / 256 = m + 256 * m by omega, show (c1 + 256 * c2 + 65536 * c3) % 256 = c1 by omega, show (m + 256 * m + 65536 * m) % 256 = m by omega]
  rw [land_split (c2 + 256 * c3) _ 8, show (2 : Nat) ^ 8 = 256 from rfl]
  rw [show (c2 + 256 * c3) / 256 = c3 by omega, show (m + 256 * m) / 256 = m by omega, show (c2 + 256 * c3) % 256 = c2 by omega, show (m + 256 * m) % 256 = m by omega]
  omega
def b1 (b : Nat) : Nat := b - ((b / 2) &&& 85)
def b2 (b : Nat) : Nat := (b1 b &&& 51) + ((b1 b / 4) &&& 51)
theorem b_1 : ∀ b, b < 256 → ∀ e, e < 2 → (b / 2 + 128 * e) &&& 85 = (b / 2) &&& 85 ∧ ((b / 2) &&& 85) ≤ b ∧ b1 b < 256 := by decide +kernel
theorem b_2 : ∀ b, b < 256 → ∀ e, e < 4 → (b1 b / 4 + 64 * e) &&& 51 = (b1 b / 4) &&& 51 ∧ b2 b ≤ 68 ∧ b2 b % 16 ≤ 4 := by decide +kernel
theorem b_3 : ∀ b, b < 256 → ∀ e, e < 5 → (b2 b + (b2 b / 16 + 16 * e)) &&& 15 = pc b 8 ∧ pc b 8 ≤ 8 := by decide +kernel
/-- the same on whole numbers -/
def bcn (x : Nat) : Nat :=
  let y1 := x - ((x / 2) &&& 1431655765)
  let y2 := (y1 &&& 858993459) + ((y1 / 4) &&& 858993459)
  let y3 := (y2 + y2 / 16) &&& 252645135
  let y4 := y3 + y3 / 256
  let y5 := y4 + y4 / 65536
  y5 % 64
theorem bcn_4 {a0 a1 a2 a3 : Nat} (h0 : a0 < 256) (h1 : a1 < 256) (h2 : a2 < 256) (h3 : a3 < 256) : ∃ y1 y2 y3 : Nat, y1 = (a0 + 256 * a1 + 65536 * a2 + 16777216 * a3) - (((a0 + 256 * a1 + 65536 * a2 + 16777216 * a3) / 2) &&& 1431655765) ∧ (((a0 + 256 * a1 + 65536 * a2 + 16777216 * a3) / 2) &&& 1431655765) ≤ a0 + 256 * a1 + 65536 * a2 + 16777216 * a3 ∧ y2 = (y1 &&& 858993459) + ((y1 / 4) &&& 858993459) ∧ y2 < 4294967296 ∧ y3 = (y2 + y2 / 16) &&& 252645135 ∧ y2 + y2 / 16 < 4294967296 ∧ y3 = pc a0 8 + 256 * pc a1 8 + 65536 * pc a2 8 + 16777216 * pc a3 8 := by
  obtain ⟨p0, q0, r0⟩ := b_1 a0 h0 (a1 % 2) (by omega)
  obtain ⟨p1, q1, r1⟩ := b_1 a1 h1 (a2 % 2) (by omega)
  obtain ⟨p2, q2, r2⟩ := b_1 a2 h2 (a3 % 2) (by omega)
  obtain ⟨p3, q3, r3⟩ := b_1 a3 h3 0 (by omega)
  have e1 : ((a0 + 256 * a1 + 65536 * a2 + 16777216 * a3) / 2) &&& 1431655765 = ((a0 / 2) &&& 85) + 256 * ((a1 / 2) &&& 85) + 65536 * ((a2 / 2) &&& 85) + 16777216 * ((a3 / 2) &&& 85) := by
    rw [show (a0 + 256 * a1 + 65536 * a2 + 16777216 * a3) / 2 = (a0 / 2 + 128 * (a1 % 2)) + 256 * (a1 / 2 + 128 * (a2 % 2)) + 65536 * (a2 / 2 + 128 * (a3 % 2)) + 16777216 * (a3 / 2 + 128 * 0) by omega, show (1431655765 : Nat) = 85 + 256 * 85 + 65536 * 85 + 16777216 * 85 from rfl, land4 (by omega) (by omega) (by omega) (by omega) (by omega), p0, p1, p2, p3]
  have d0 : b1 a0 = a0 - ((a0 / 2) &&& 85) := rfl
  have d1 : b1 a1 = a1 - ((a1 / 2) &&& 85) := rfl
  have d2 : b1 a2 = a2 - ((a2 / 2) &&& 85) := rfl
  have d3 : b1 a3 = a3 - ((a3 / 2) &&& 85) := rfl
  have e2 : (a0 + 256 * a1 + 65536 * a2 + 16777216 * a3) - (((a0 + 256 * a1 + 65536 * a2 + 16777216 * a3) / 2) &&& 1431655765) = b1 a0 + 256 * b1 a1 + 65536 * b1 a2 + 16777216 * b1 a3 := by
    rw [e1]; omega
  obtain ⟨s0, t0, u0⟩ := b_2 a0 h0 (b1 a1 % 4) (by omega)
  obtain ⟨s1, t1, u1⟩ := b_2 a1 h1 (b1 a2 % 4) (by omega)
  obtain ⟨s2, t2, u2⟩ := b_2 a2 h2 (b1 a3 % 4) (by omega)
  obtain ⟨s3, t3, u3⟩ := b_2 a3 h3 0 (by omega)
  have e3 : ((b1 a0 + 256 * b1 a1 + 65536 * b1 a2 + 16777216 * b1 a3) &&& 858993459) + (((b1 a0 + 256 * b1 a1 + 65536 * b1 a2 + 16777216 * b1 a3) / 4) &&& 858993459) = b2 a0 + 256 * b2 a1 + 65536 * b2 a2 + 16777216 * b2 a3 := by
    rw [show (b1 a0 + 256 * b1 a1 + 65536 * b1 a2 + 16777216 * b1 a3) / 4 = (b1 a0 / 4 + 64 * (b1 a1 % 4)) + 256 * (b1 a1 / 4 + 64 * (b1 a2 % 4)) + 65536 * (b1 a2 / 4 + 64 * (b1 a3 % 4)) + 16777216 * (b1 a3 / 4 + 64 * 0) by omega, show (858993459 : Nat) = 51 + 256 * 51 + 65536 * 51 + 16777216 * 51 from rfl, land4 (by omega) (by omega) (by omega) (by omega) (by omega), land4 (by omega) (by omega) (by omega) (by omega) (by omega), s0, s1, s2, s3]
    unfold b2
    omega
  obtain ⟨v0, w0⟩ := b_3 a0 h0 (b2 a1 % 16) (by omega)
  obtain ⟨v1, w1⟩ := b_3 a1 h1 (b2 a2 % 16) (by omega)
  obtain ⟨v2, w2⟩ := b_3 a2 h2 (b2 a3 % 16) (by omega)
  obtain ⟨v3, w3⟩ := b_3 a3 h3 0 (by omega)
  have e4 : ((b2 a0 + 256 * b2 a1 + 65536 * b2 a2 + 16777216 * b2 a3) + (b2 a0 + 256 * b2 a1 + 65536 * b2 a2 + 16777216 * b2 a3) / 16) &&& 252645135 = pc a0 8 + 256 * pc a1 8 + 65536 * pc a2 8 + 16777216 * pc a3 8 := by
    rw [show (b2 a0 + 256 * b2 a1 + 65536 * b2 a2 + 16777216 * b2 a3) + (b2 a0 + 256 * b2 a1 + 65536 * b2 a2 + 16777216 * b2 a3) / 16 = (b2 a0 + (b2 a0 / 16 + 16 * (b2 a1 % 16))) + 256 * (b2 a1 + (b2 a1 / 16 + 16 * (b2 a2 % 16))) + 65536 * (b2 a2 + (b2 a2 / 16 + 16 * (b2 a3 % 16))) + 16777216 * (b2 a3 + (b2 a3 / 16 + 16 * 0)) by omega, show (252645135 : Nat) = 15 + 256 * 15 + 65536 * 15 + 16777216 * 15 from rfl, land4 (by omega) (by omega) (by omega) (by omega) (by omega), v0, v1, v2, v3]
  exact ⟨_, b2 a0 + 256 * b2 a1 + 65536 * b2 a2 + 16777216 * b2 a3, _, rfl, by rw [e1]; omega, by rw [e2, e3], by omega, rfl, by omega, e4⟩
theorem pc_add (k c : Nat) : ∀ d, pc k (c + d) = pc k c + pc (k / 2 ^ c) d := by
  intro d
  induction d with
  | zero => rfl
  | succ d ih =>
    rw [show c + (d + 1) = (c + d) + 1 from rfl, pc, ih, pc, Nat.testBit_div_two_pow, Nat.add_assoc, Nat.add_comm d c]
theorem pc_mod (k w : Nat) : ∀ c, c ≤ w → pc (k % 2 ^ w) c = pc k c := by
  intro c
  induction c with
  | zero => intro _; rfl
  | succ c ih =>
    intro h
    rw [pc, pc, ih (by omega), Nat.testBit_mod_two_pow]
    rw [show decide (c < w) = true from decide_eq_true (by omega), Bool.true_and]
theorem pc_4 {a0 a1 a2 a3 : Nat} (h0 : a0 < 256) (h1 : a1 < 256) (h2 : a2 < 256) : pc (a0 + 256 * a1 + 65536 * a2 + 16777216 * a3) 32 = pc a0 8 + pc a1 8 + pc a2 8 + pc a3 8 := by
  rw [show (32 : Nat) = 8 + 24 from rfl, pc_add, ← pc_mod _ 8 8 (Nat.le_refl 8), show (2 : Nat) ^ 8 = 256 from rfl, show (a0 + 256 * a1 + 65536 * a2 + 16777216 * a3) % 256 = a0 by omega, show (a0 + 256 * a1 + 65536 * a2 + 16777216 * a3) / 256 = a1 + 256 * a2 + 65536 * a3 by omega]
  rw [show (24 : Nat) = 8 + 16 from rfl, pc_add, ← pc_mod (a1 + 256 * a2 + 65536 * a3) 8 8 (Nat.le_refl 8), show (2 : Nat) ^ 8 = 256 from rfl, show (a1 + 256 * a2 + 65536 * a3) % 256 = a1 by omega, show (a1 + 256 * a2 + 65536 * a3) / 256 = a2 + 256 * a3 by omega]
  rw [show (16 : Nat) = 8 + 8 from rfl, pc_add, ← pc_mod (a2 + 256 * a3) 8 8 (Nat.le_refl 8), show (2 : Nat) ^ 8 = 256 from rfl, show (a2 + 256 * a3) % 256 = a2 by omega, show (a2 + 256 * a3) / 256 = a3 by omega]
  omega
/-- ints by their bits -/
def nb32 (x : Int32) : Nat := x.toBitVec.toNat
theorem nb_of {k : Nat} (h : k < 4294967296) : nb32 (Int32.ofNat k) = k := by
  show (BitVec.ofNat 32 k).toNat = k
  rw [BitVec.toNat_ofNat]
  exact Nat.mod_eq_of_lt h
theorem nb_inj {x y : Int32} (h : nb32 x = nb32 y) : x = y := Int32.toBitVec_inj.mp (BitVec.eq_of_toNat_eq h)
theorem nb_and (x y : Int32) : nb32 (x &&& y) = nb32 x &&& nb32 y := by
  unfold nb32
  rw [Int32.toBitVec_and, BitVec.toNat_and]
theorem nb_add {x y : Int32} (h : nb32 x + nb32 y < 4294967296) : nb32 (x + y) = nb32 x + nb32 y := by
  unfold nb32 at h ⊢
  rw [Int32.toBitVec_add, BitVec.toNat_add]
  exact Nat.mod_eq_of_lt h
theorem nb_sub {x y : Int32} (h : nb32 y ≤ nb32 x) : nb32 (x - y) = nb32 x - nb32 y := by
  have hx : nb32 x < 4294967296 := x.toBitVec.isLt
  unfold nb32 at h hx ⊢
  rw [Int32.toBitVec_sub, BitVec.toNat_sub]
  omega
theorem nb_shr (x : Int32) (s : Nat) (hs : s < 32) : nb32 ((x.toUInt32 >>> ((Int32.ofNat s).toUInt32 &&& Int32.toUInt32 31)).toInt32) = nb32 x / 2 ^ s := by
  have e : ((Int32.ofNat s).toUInt32 &&& Int32.toUInt32 31) = UInt32.ofNat s := by
    have : ∀ s, s < 32 → ((Int32.ofNat s).toUInt32 &&& Int32.toUInt32 31) = UInt32.ofNat s := by decide +kernel
    exact this s hs
  rw [e]
  show (x.toUInt32 >>> UInt32.ofNat s).toNat = nb32 x / 2 ^ s
  rw [UInt32.toNat_shiftRight]
  have e2 : (UInt32.ofNat s).toNat % 32 = s := by
    have : ∀ s, s < 32 → (UInt32.ofNat s).toNat % 32 = s := by decide +kernel
    exact this s hs
  rw [e2, Nat.shiftRight_eq_div_pow]
  rfl
theorem bitCount_ok {k : Nat} (h : k < 4294967296) : v_J6_bitCount_0f7a4 (Int32.ofNat k) = Int32.ofNat (pc k 32) := by
  obtain ⟨a0, a1, a2, a3, h0, h1, h2, h3, hk⟩ : ∃ a0 a1 a2 a3 : Nat, a0 < 256 ∧ a1 < 256 ∧ a2 < 256 ∧ a3 < 256 ∧ k = a0 + 256 * a1 + 65536 * a2 + 16777216 * a3 := ⟨k % 256, k / 256 % 256, k / 65536 % 256, k / 16777216, by omega, by omega, by omega, by omega, by omega⟩
  obtain ⟨y1, y2, y3, e1, l1, e2, l2, e3, l3, e4⟩ := bcn_4 h0 h1 h2 h3
  rw [← hk] at e1 l1
  have w0 := (b_3 a0 h0 0 (by omega)).2
  have w1 := (b_3 a1 h1 0 (by omega)).2
  have w2 := (b_3 a2 h2 0 (by omega)).2
  have w3 := (b_3 a3 h3 0 (by omega)).2
  have c1 : nb32 1431655765 = 1431655765 := by decide +kernel
  have c2 : nb32 858993459 = 858993459 := by decide +kernel
  have c3 : nb32 252645135 = 252645135 := by decide +kernel
  have c4 : nb32 63 = 63 := by decide +kernel
  have s1 := fun x => nb_shr x 1 (by decide)
  have s2 := fun x => nb_shr x 2 (by decide)
  have s4 := fun x => nb_shr x 4 (by decide)
  have s8 := fun x => nb_shr x 8 (by decide)
  have s16 := fun x => nb_shr x 16 (by decide)
  apply nb_inj
  unfold v_J6_bitCount_0f7a4
  simp only [kk_def]
  generalize hY1 : (Int32.ofNat k - ((((Int32.ofNat k).toUInt32 >>> (((1) : Int32).toUInt32 &&& Int32.toUInt32 31)).toInt32) &&& 1431655765)) = Y1
  have n1 : nb32 Y1 = y1 := by
    have z : nb32 ((((Int32.ofNat k).toUInt32 >>> (((1) : Int32).toUInt32 &&& Int32.toUInt32 31)).toInt32) &&& 1431655765) = (k / 2) &&& 1431655765 := by
      rw [nb_and, c1]
      have := s1 (Int32.ofNat k)
      rw [nb_of h] at this
      exact congrArg (· &&& 1431655765) this
    rw [← hY1, nb_sub (by rw [z, nb_of h]; exact l1), z, nb_of h, e1]
  generalize hY2 : ((Y1 &&& 858993459) + (((Y1.toUInt32 >>> (((2) : Int32).toUInt32 &&& Int32.toUInt32 31)).toInt32) &&& 858993459)) = Y2
  have n2 : nb32 Y2 = y2 := by
    have z1 : nb32 (Y1 &&& 858993459) = y1 &&& 858993459 := by rw [nb_and, n1, c2]
    have z2 : nb32 (((Y1.toUInt32 >>> (((2) : Int32).toUInt32 &&& Int32.toUInt32 31)).toInt32) &&& 858993459) = (y1 / 4) &&& 858993459 := by
      rw [nb_and, c2]
      have := s2 Y1
      rw [n1] at this
      exact congrArg (· &&& 858993459) this
    rw [← hY2, nb_add (by rw [z1, z2, ← e2]; exact l2), z1, z2, e2]
  generalize hY3 : ((Y2 + ((Y2.toUInt32 >>> (((4) : Int32).toUInt32 &&& Int32.toUInt32 31)).toInt32)) &&& 252645135) = Y3
  have n3 : nb32 Y3 = y3 := by
    have z2 : nb32 ((Y2.toUInt32 >>> (((4) : Int32).toUInt32 &&& Int32.toUInt32 31)).toInt32) = y2 / 16 := by
      have := s4 Y2
      rw [n2] at this
      exact this
    rw [← hY3, nb_and, c3, nb_add (by rw [n2, z2]; exact l3), n2, z2, e3]
  generalize hY4 : (Y3 + ((Y3.toUInt32 >>> (((8) : Int32).toUInt32 &&& Int32.toUInt32 31)).toInt32)) = Y4
  have n4 : nb32 Y4 = y3 + y3 / 256 := by
    have z2 : nb32 ((Y3.toUInt32 >>> (((8) : Int32).toUInt32 &&& Int32.toUInt32 31)).toInt32) = y3 / 256 := by
      have := s8 Y3
      rw [n3] at this
      exact this
    rw [← hY4, nb_add (by rw [n3, z2]; omega), n3, z2]
  have n5 : nb32 (Y4 + ((Y4.toUInt32 >>> (((16) : Int32).toUInt32 &&& Int32.toUInt32 31)).toInt32)) = (y3 + y3 / 256) + (y3 + y3 / 256) / 65536 := by
    have z2 : nb32 ((Y4.toUInt32 >>> (((16) : Int32).toUInt32 &&& Int32.toUInt32 31)).toInt32) = (y3 + y3 / 256) / 65536 := by
      have := s16 Y4
      rw [n4] at this
      exact this
    rw [nb_add (by rw [n4, z2]; omega), n4, z2]
  rw [nb_and, n5, c4, hk, pc_4 h0 h1 h2, nb_of (by omega), show (63 : Nat) = 2 ^ 6 - 1 from rfl, Nat.and_two_pow_sub_one_eq_mod, show (2 : Nat) ^ 6 = 64 from rfl]
  generalize pc a0 8 = p0 at *
  generalize pc a1 8 = p1 at *
  generalize pc a2 8 = p2 at *
  generalize pc a3 8 = p3 at *
  have f1 : y3 / 256 = p1 + 256 * p2 + 65536 * p3 := by rw [e4]; omega
  have f2 : y3 + y3 / 256 = (p0 + p1) + 256 * (p1 + p2) + 65536 * (p2 + p3) + 16777216 * p3 := by rw [f1, e4]; omega
  have f3 : (y3 + y3 / 256) / 65536 = (p2 + p3) + 256 * p3 := by rw [f2]; omega
  rw [f3, f2]
  clear f1 f2 f3 e1 e2 e3 e4 l1 l2 l3
  omega
