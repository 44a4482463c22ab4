/-! comers as bits, 7 of them -/
abbrev bit1 (c : Nat) : Int32 := (1 : Int32) <<< (Int32.ofNat c &&& 31)
theorem bits_all : ∀ c, c < 7 → ∀ k, k < 128 → ((((Int32.ofNat k >>> (Int32.ofNat c &&& 31)) &&& 1) = 1) ↔ k.testBit c = true) ∧ ((((Int32.ofNat k >>> (Int32.ofNat c &&& 31)) &&& 1) = 0) ↔ k.testBit c = false) ∧ (k.testBit c = false → (Int32.ofNat k ||| bit1 c) = Int32.ofNat (k + 2 ^ c) ∧ (Int32.ofNat k + bit1 c) = Int32.ofNat (k + 2 ^ c) ∧ k + 2 ^ c < 128) := by decide +kernel
theorem bits_low : ∀ c, c < 7 → ∀ k, k < 2 ^ c → k.testBit c = false ∧ k + 2 ^ c < 2 ^ (c + 1) ∧ k < 128 := by decide +kernel
theorem bits_set : ∀ c, c < 7 → ∀ d, d < 7 → ∀ k, k < 128 → k.testBit c = false → (k + 2 ^ c).testBit d = (k.testBit d || d == c) := by decide +kernel
