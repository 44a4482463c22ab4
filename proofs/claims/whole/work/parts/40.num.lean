theorem oc_some {α : Type} {β : Sort _} (a : α) (b : β) (f : α → β) : oc (some a) b f = f a := rfl
theorem oc_none {α : Type} {β : Sort _} (b : β) (f : α → β) : oc none b f = b := rfl
/-! numbers: ints by their whole numbers -/
theorem n_lt {a b : Int32} : a < b ↔ a.toInt < b.toInt := Int32.lt_iff_toInt_lt
theorem n_le {a b : Int32} : a ≤ b ↔ a.toInt ≤ b.toInt := Int32.le_iff_toInt_le
theorem n_eq {a b : Int32} : a = b ↔ a.toInt = b.toInt := Int32.toInt_inj.symm
theorem n_bm {x : Int} (h1 : -2147483648 ≤ x) (h2 : x < 2147483648) : x.bmod (2 ^ 32) = x := by
  rw [Int.bmod_def]
  have e : ((2 ^ 32 : Nat) : Int) = 4294967296 := by decide
  rw [e]
  split <;> omega
theorem n_add {a b : Int32} (h1 : -2147483648 ≤ a.toInt + b.toInt) (h2 : a.toInt + b.toInt < 2147483648) : (a + b).toInt = a.toInt + b.toInt := by rw [Int32.toInt_add, n_bm h1 h2]
theorem n_sub {a b : Int32} (h1 : -2147483648 ≤ a.toInt - b.toInt) (h2 : a.toInt - b.toInt < 2147483648) : (a - b).toInt = a.toInt - b.toInt := by rw [Int32.toInt_sub, n_bm h1 h2]
theorem n_mul {a b : Int32} (h1 : -2147483648 ≤ a.toInt * b.toInt) (h2 : a.toInt * b.toInt < 2147483648) : (a * b).toInt = a.toInt * b.toInt := by rw [Int32.toInt_mul, n_bm h1 h2]
theorem n_neg {a : Int32} (h : -2147483648 < a.toInt) : (-a).toInt = -a.toInt := by
  rw [Int32.toInt_neg, n_bm (by have := Int32.toInt_lt a; omega) (by omega)]
theorem n_div {a b : Int32} (ha : 0 ≤ a.toInt) (hb : 0 < b.toInt) : (a / b).toInt = a.toInt / b.toInt := by
  have h1 := Int32.toInt_lt a
  have h2 : a.toInt.tdiv b.toInt = a.toInt / b.toInt := Int.tdiv_eq_ediv_of_nonneg ha
  have h3 : 0 ≤ a.toInt / b.toInt := Int.ediv_nonneg ha (by omega)
  have h4 : a.toInt / b.toInt ≤ a.toInt := Int.ediv_le_self _ ha
  rw [Int32.toInt_div, h2, n_bm (by omega) (by omega)]
theorem n_tn (a : Int32) : a.toNatClampNeg = a.toInt.toNat := rfl
theorem n_of {k : Nat} (h : k < 2147483648) : (Int32.ofNat k).toInt = (k : Int) := Int32.toInt_ofNat_of_lt h
theorem n10 : ¬ (1 : Int32) = 0 := by decide
theorem n00 : (0 : Int32) = 0 := rfl
theorem n10f : ((1 : Int32) = 0) = False := eq_false n10
theorem n00f : ((0 : Int32) = 0) = True := eq_true rfl
theorem n_m1 : (-1 : Int32).toInt = -1 := rfl
theorem n_0 : (0 : Int32).toInt = 0 := rfl
theorem n_1 : (1 : Int32).toInt = 1 := rfl
theorem n_2 : (2 : Int32).toInt = 2 := rfl
theorem n_3 : (3 : Int32).toInt = 3 := rfl
theorem n_4 : (4 : Int32).toInt = 4 := rfl
theorem n_5 : (5 : Int32).toInt = 5 := rfl
theorem n_6 : (6 : Int32).toInt = 6 := rfl
theorem n_7 : (7 : Int32).toInt = 7 := rfl
theorem n_8 : (8 : Int32).toInt = 8 := rfl
theorem n_9 : (9 : Int32).toInt = 9 := rfl
theorem n_10 : (10 : Int32).toInt = 10 := rfl
theorem n_20 : (20 : Int32).toInt = 20 := rfl
theorem n_21 : (21 : Int32).toInt = 21 := rfl
theorem n_30 : (30 : Int32).toInt = 30 := rfl
theorem n_31 : (31 : Int32).toInt = 31 := rfl
theorem n_40 : (40 : Int32).toInt = 40 := rfl
theorem n_60 : (60 : Int32).toInt = 60 := rfl
theorem n_99 : (99 : Int32).toInt = 99 := rfl
theorem n_100 : (100 : Int32).toInt = 100 := rfl
theorem n_160 : (160 : Int32).toInt = 160 := rfl
theorem n_999 : (999 : Int32).toInt = 999 := rfl
theorem n_1000 : (1000 : Int32).toInt = 1000 := rfl
theorem n_8000 : (8000 : Int32).toInt = 8000 := rfl
/-- a place in a row -/
theorem vp_iff {i : Int32} {n : Nat} : vp_in i n ↔ 0 ≤ i.toInt ∧ i.toInt < (n : Int) := by
  show ¬ (i < 0 ∨ n ≤ i.toNatClampNeg) ↔ _
  rw [n_lt, n_0, n_tn]
  omega
theorem upd_at {f : Nat → Int32} {k : Nat} {x : Int32} : upd f k x k = x := if_pos rfl
theorem upd_ne {f : Nat → Int32} {k j : Nat} {x : Int32} (h : j ≠ k) : upd f k x j = f j := if_neg h
theorem up_at {α : Type} {f : Nat → α} {k : Nat} {x : α} : va_up f k x k = x := if_pos rfl
theorem up_ne {α : Type} {f : Nat → α} {k j : Nat} {x : α} (h : j ≠ k) : va_up f k x j = f j := if_neg h
theorem updL_at {f : Nat → Int64} {k : Nat} {x : Int64} : vp_updL f k x k = x := if_pos rfl
theorem updL_ne {f : Nat → Int64} {k j : Nat} {x : Int64} (h : j ≠ k) : vp_updL f k x j = f j := if_neg h
theorem upd_self {f : Nat → Int32} {i : Nat} : upd f i (f i) = f := by
  funext k
  by_cases e : k = i
  · subst e; exact upd_at
  · exact upd_ne e
theorem upd_twice {f : Nat → Int32} {i : Nat} {x y : Int32} : upd (upd f i x) i y = upd f i y := by
  funext k
  by_cases e : k = i
  · subst e; rw [upd_at, upd_at]
  · rw [upd_ne e, upd_ne e, upd_ne e]
theorem up_self {α : Type} {f : Nat → α} {i : Nat} : va_up f i (f i) = f := by
  funext k
  by_cases e : k = i
  · subst e; exact up_at
  · exact up_ne e
theorem up_twice {α : Type} {f : Nat → α} {i : Nat} {x y : α} : va_up (va_up f i x) i y = va_up f i y := by
  funext k
  by_cases e : k = i
  · subst e; rw [up_at, up_at]
  · rw [up_ne e, up_ne e, up_ne e]
theorem ofN_inj {a b : Nat} (ha : a < 2147483648) (hb : b < 2147483648) (h : Int32.ofNat a = Int32.ofNat b) : a = b := by
  have := congrArg Int32.toInt h
  rw [n_of ha, n_of hb] at this
  omega
theorem n_back {x : Int32} (h : 0 ≤ x.toInt) : x = Int32.ofNat x.toNatClampNeg := by
  rw [n_eq, n_of (by have := Int32.toInt_lt x; rw [n_tn]; omega), n_tn]
  omega
