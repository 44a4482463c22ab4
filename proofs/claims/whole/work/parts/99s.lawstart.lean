/-! what the start gives -/
theorem st_ABOVE {args : Array Value} {s : State} {A : Nat → Prop} (hs : ∀ c ∈ flatC (Jvm.Cond.and given_1 narrow_1), c.before args s = true) (hts : ∀ w ∈ lw_tbl, w.before args s = true) (hA : ∀ a : Nat, a < s.heap.size → ¬ A a) : ∃ t : Nat, va_Z RX0 "ABOVE" "[I" (.ref t) A s s.heap ∧ va_T .int t 7 (fun j => .int (t_above j)) A s s.heap := by
  obtain ⟨t, ht, hT⟩ := va_Tof (tm := .static "TollForHesitators$Comer" "ABOVE" "[I") (ty := .int) (N := 7) (f := fun j => .int (t_above j)) (A := A) (by decide) (hs _ (List.mem_of_getElem? (i := 5) (by decide +kernel))) (va_eqt (hs _ (List.mem_of_getElem? (i := 6) (by decide +kernel)))) (fun j hj => by
    rcases (show j = 0 ∨ j = 1 ∨ j = 2 ∨ j = 3 ∨ j = 4 ∨ j = 5 ∨ j = 6 by omega) with rfl | rfl | rfl | rfl | rfl | rfl | rfl
    · exact va_eqt (hs _ (List.mem_of_getElem? (i := 7) (by decide +kernel)))
    · exact va_eqt (hs _ (List.mem_of_getElem? (i := 8) (by decide +kernel)))
    · exact va_eqt (hs _ (List.mem_of_getElem? (i := 9) (by decide +kernel)))
    · exact va_eqt (hs _ (List.mem_of_getElem? (i := 10) (by decide +kernel)))
    · exact va_eqt (hs _ (List.mem_of_getElem? (i := 11) (by decide +kernel)))
    · exact va_eqt (hs _ (List.mem_of_getElem? (i := 12) (by decide +kernel)))
    · exact va_eqt (hs _ (List.mem_of_getElem? (i := 13) (by decide +kernel)))) hA
  exact ⟨t, va_Zof (hts _ (List.mem_of_getElem? (i := 393) (by decide +kernel))) (hts _ (List.mem_of_getElem? (i := 77) (by decide +kernel))) ht hA, hT⟩
theorem st_BODIES {args : Array Value} {s : State} {A : Nat → Prop} (hs : ∀ c ∈ flatC (Jvm.Cond.and given_1 narrow_1), c.before args s = true) (hts : ∀ w ∈ lw_tbl, w.before args s = true) (hA : ∀ a : Nat, a < s.heap.size → ¬ A a) : ∃ t : Nat, va_Z RX1 "BODIES" "[I" (.ref t) A s s.heap ∧ va_T .int t 21 (fun j => .int (t_bodies j)) A s s.heap := by
  obtain ⟨t, ht, hT⟩ := va_Tof (tm := .static "TollForHesitators$Moves" "BODIES" "[I") (ty := .int) (N := 21) (f := fun j => .int (t_bodies j)) (A := A) (by decide) (hs _ (List.mem_of_getElem? (i := 38) (by decide +kernel))) (va_eqt (hs _ (List.mem_of_getElem? (i := 39) (by decide +kernel)))) (fun j hj => by
    rcases (show j = 0 ∨ j = 1 ∨ j = 2 ∨ j = 3 ∨ j = 4 ∨ j = 5 ∨ j = 6 ∨ j = 7 ∨ j = 8 ∨ j = 9 ∨ j = 10 ∨ j = 11 ∨ j = 12 ∨ j = 13 ∨ j = 14 ∨ j = 15 ∨ j = 16 ∨ j = 17 ∨ j = 18 ∨ j = 19 ∨ j = 20 by omega) with rfl | rfl | rfl | rfl | rfl | rfl | rfl | rfl | rfl | rfl | rfl | rfl | rfl | rfl | rfl | rfl | rfl | rfl | rfl | rfl | rfl
    · exact va_eqt (hs _ (List.mem_of_getElem? (i := 40) (by decide +kernel)))
    · exact va_eqt (hs _ (List.mem_of_getElem? (i := 41) (by decide +kernel)))
    · exact va_eqt (hs _ (List.mem_of_getElem? (i := 42) (by decide +kernel)))
    · exact va_eqt (hs _ (List.mem_of_getElem? (i := 43) (by decide +kernel)))
    · exact va_eqt (hs _ (List.mem_of_getElem? (i := 44) (by decide +kernel)))
    · exact va_eqt (hs _ (List.mem_of_getElem? (i := 45) (by decide +kernel)))
    · exact va_eqt (hs _ (List.mem_of_getElem? (i := 46) (by decide +kernel)))
    · exact va_eqt (hs _ (List.mem_of_getElem? (i := 47) (by decide +kernel)))
    · exact va_eqt (hs _ (List.mem_of_getElem? (i := 48) (by decide +kernel)))
    · exact va_eqt (hs _ (List.mem_of_getElem? (i := 49) (by decide +kernel)))
    · exact va_eqt (hs _ (List.mem_of_getElem? (i := 50) (by decide +kernel)))
    · exact va_eqt (hs _ (List.mem_of_getElem? (i := 51) (by decide +kernel)))
    · exact va_eqt (hs _ (List.mem_of_getElem? (i := 52) (by decide +kernel)))
    · exact va_eqt (hs _ (List.mem_of_getElem? (i := 53) (by decide +kernel)))
    · exact va_eqt (hs _ (List.mem_of_getElem? (i := 54) (by decide +kernel)))
    · exact va_eqt (hs _ (List.mem_of_getElem? (i := 55) (by decide +kernel)))
    · exact va_eqt (hs _ (List.mem_of_getElem? (i := 56) (by decide +kernel)))
    · exact va_eqt (hs _ (List.mem_of_getElem? (i := 57) (by decide +kernel)))
    · exact va_eqt (hs _ (List.mem_of_getElem? (i := 58) (by decide +kernel)))
    · exact va_eqt (hs _ (List.mem_of_getElem? (i := 59) (by decide +kernel)))
    · exact va_eqt (hs _ (List.mem_of_getElem? (i := 60) (by decide +kernel)))) hA
  exact ⟨t, va_Zof (hts _ (List.mem_of_getElem? (i := 815) (by decide +kernel))) (hts _ (List.mem_of_getElem? (i := 73) (by decide +kernel))) ht hA, hT⟩
theorem st_LEAST_OF_COMER {args : Array Value} {s : State} {A : Nat → Prop} (hs : ∀ c ∈ flatC (Jvm.Cond.and given_1 narrow_1), c.before args s = true) (hts : ∀ w ∈ lw_tbl, w.before args s = true) (hA : ∀ a : Nat, a < s.heap.size → ¬ A a) : ∃ t : Nat, va_Z RX3 "LEAST_OF_COMER" "[I" (.ref t) A s s.heap ∧ va_T .int t 6 (fun j => .int (t_least j)) A s s.heap := by
  obtain ⟨t, ht, hT⟩ := va_Tof (tm := .static "TollForHesitators$Reader" "LEAST_OF_COMER" "[I") (ty := .int) (N := 6) (f := fun j => .int (t_least j)) (A := A) (by decide) (hs _ (List.mem_of_getElem? (i := 20) (by decide +kernel))) (va_eqt (hs _ (List.mem_of_getElem? (i := 21) (by decide +kernel)))) (fun j hj => by
    rcases (show j = 0 ∨ j = 1 ∨ j = 2 ∨ j = 3 ∨ j = 4 ∨ j = 5 by omega) with rfl | rfl | rfl | rfl | rfl | rfl
    · exact va_eqt (hs _ (List.mem_of_getElem? (i := 22) (by decide +kernel)))
    · exact va_eqt (hs _ (List.mem_of_getElem? (i := 23) (by decide +kernel)))
    · exact va_eqt (hs _ (List.mem_of_getElem? (i := 24) (by decide +kernel)))
    · exact va_eqt (hs _ (List.mem_of_getElem? (i := 25) (by decide +kernel)))
    · exact va_eqt (hs _ (List.mem_of_getElem? (i := 26) (by decide +kernel)))
    · exact va_eqt (hs _ (List.mem_of_getElem? (i := 27) (by decide +kernel)))) hA
  exact ⟨t, va_Zof (hts _ (List.mem_of_getElem? (i := 554) (by decide +kernel))) (hts _ (List.mem_of_getElem? (i := 71) (by decide +kernel))) ht hA, hT⟩
theorem st_MOST_OF_COMER {args : Array Value} {s : State} {A : Nat → Prop} (hs : ∀ c ∈ flatC (Jvm.Cond.and given_1 narrow_1), c.before args s = true) (hts : ∀ w ∈ lw_tbl, w.before args s = true) (hA : ∀ a : Nat, a < s.heap.size → ¬ A a) : ∃ t : Nat, va_Z RX3 "MOST_OF_COMER" "[I" (.ref t) A s s.heap ∧ va_T .int t 6 (fun j => .int (t_most j)) A s s.heap := by
  obtain ⟨t, ht, hT⟩ := va_Tof (tm := .static "TollForHesitators$Reader" "MOST_OF_COMER" "[I") (ty := .int) (N := 6) (f := fun j => .int (t_most j)) (A := A) (by decide) (hs _ (List.mem_of_getElem? (i := 29) (by decide +kernel))) (va_eqt (hs _ (List.mem_of_getElem? (i := 30) (by decide +kernel)))) (fun j hj => by
    rcases (show j = 0 ∨ j = 1 ∨ j = 2 ∨ j = 3 ∨ j = 4 ∨ j = 5 by omega) with rfl | rfl | rfl | rfl | rfl | rfl
    · exact va_eqt (hs _ (List.mem_of_getElem? (i := 31) (by decide +kernel)))
    · exact va_eqt (hs _ (List.mem_of_getElem? (i := 32) (by decide +kernel)))
    · exact va_eqt (hs _ (List.mem_of_getElem? (i := 33) (by decide +kernel)))
    · exact va_eqt (hs _ (List.mem_of_getElem? (i := 34) (by decide +kernel)))
    · exact va_eqt (hs _ (List.mem_of_getElem? (i := 35) (by decide +kernel)))
    · exact va_eqt (hs _ (List.mem_of_getElem? (i := 36) (by decide +kernel)))) hA
  exact ⟨t, va_Zof (hts _ (List.mem_of_getElem? (i := 556) (by decide +kernel))) (hts _ (List.mem_of_getElem? (i := 71) (by decide +kernel))) ht hA, hT⟩
theorem st_strings {args : Array Value} {s : State} {A : Nat → Prop} (hs : ∀ c ∈ flatC (Jvm.Cond.and given_1 narrow_1), c.before args s = true) (hts : ∀ w ∈ lw_tbl, w.before args s = true) (hA : ∀ a : Nat, a < s.heap.size → ¬ A a) : ∃ adK adV : Nat → Nat, vk_S 7 s_len s_byt adK adV A s s.heap ∧ ∀ i : Nat, i < 7 → (Term.string "TollForHesitators$Reader" (88 + 2 * i)).eval args s none [] s = some (.ref (adK i)) := by
  refine vk_Sof (tm := fun i => .string "TollForHesitators$Reader" (88 + 2 * i)) (fun i hi => ?_) (fun i hi => ?_) (fun i hi => ?_) (fun i hi => ?_) (fun i hi => ?_) (fun i hi j hj => ?_) (fun i j hi hj hij => ?_) hA
  · rcases (show i = 0 ∨ i = 1 ∨ i = 2 ∨ i = 3 ∨ i = 4 ∨ i = 5 ∨ i = 6 by omega) with rfl | rfl | rfl | rfl | rfl | rfl | rfl
    · decide
    · decide
    · decide
    · decide
    · decide
    · decide
    · decide
  · rcases (show i = 0 ∨ i = 1 ∨ i = 2 ∨ i = 3 ∨ i = 4 ∨ i = 5 ∨ i = 6 by omega) with rfl | rfl | rfl | rfl | rfl | rfl | rfl
    · exact (hs _ (List.mem_of_getElem? (i := 77) (by decide +kernel)))
    · exact (hs _ (List.mem_of_getElem? (i := 86) (by decide +kernel)))
    · exact (hs _ (List.mem_of_getElem? (i := 96) (by decide +kernel)))
    · exact (hs _ (List.mem_of_getElem? (i := 105) (by decide +kernel)))
    · exact (hs _ (List.mem_of_getElem? (i := 115) (by decide +kernel)))
    · exact (hs _ (List.mem_of_getElem? (i := 127) (by decide +kernel)))
    · exact (hs _ (List.mem_of_getElem? (i := 140) (by decide +kernel)))
  · rcases (show i = 0 ∨ i = 1 ∨ i = 2 ∨ i = 3 ∨ i = 4 ∨ i = 5 ∨ i = 6 by omega) with rfl | rfl | rfl | rfl | rfl | rfl | rfl
    · exact (hs _ (List.mem_of_getElem? (i := 78) (by decide +kernel)))
    · exact (hs _ (List.mem_of_getElem? (i := 87) (by decide +kernel)))
    · exact (hs _ (List.mem_of_getElem? (i := 97) (by decide +kernel)))
    · exact (hs _ (List.mem_of_getElem? (i := 106) (by decide +kernel)))
    · exact (hs _ (List.mem_of_getElem? (i := 116) (by decide +kernel)))
    · exact (hs _ (List.mem_of_getElem? (i := 128) (by decide +kernel)))
    · exact (hs _ (List.mem_of_getElem? (i := 141) (by decide +kernel)))
  · rcases (show i = 0 ∨ i = 1 ∨ i = 2 ∨ i = 3 ∨ i = 4 ∨ i = 5 ∨ i = 6 by omega) with rfl | rfl | rfl | rfl | rfl | rfl | rfl
    · exact (hs _ (List.mem_of_getElem? (i := 79) (by decide +kernel)))
    · exact (hs _ (List.mem_of_getElem? (i := 88) (by decide +kernel)))
    · exact (hs _ (List.mem_of_getElem? (i := 98) (by decide +kernel)))
    · exact (hs _ (List.mem_of_getElem? (i := 107) (by decide +kernel)))
    · exact (hs _ (List.mem_of_getElem? (i := 117) (by decide +kernel)))
    · exact (hs _ (List.mem_of_getElem? (i := 129) (by decide +kernel)))
    · exact (hs _ (List.mem_of_getElem? (i := 142) (by decide +kernel)))
  · rcases (show i = 0 ∨ i = 1 ∨ i = 2 ∨ i = 3 ∨ i = 4 ∨ i = 5 ∨ i = 6 by omega) with rfl | rfl | rfl | rfl | rfl | rfl | rfl
    · exact (hs _ (List.mem_of_getElem? (i := 80) (by decide +kernel)))
    · exact (hs _ (List.mem_of_getElem? (i := 89) (by decide +kernel)))
    · exact (hs _ (List.mem_of_getElem? (i := 99) (by decide +kernel)))
    · exact (hs _ (List.mem_of_getElem? (i := 108) (by decide +kernel)))
    · exact (hs _ (List.mem_of_getElem? (i := 118) (by decide +kernel)))
    · exact (hs _ (List.mem_of_getElem? (i := 130) (by decide +kernel)))
    · exact (hs _ (List.mem_of_getElem? (i := 143) (by decide +kernel)))
  · rcases (show i = 0 ∨ i = 1 ∨ i = 2 ∨ i = 3 ∨ i = 4 ∨ i = 5 ∨ i = 6 by omega) with rfl | rfl | rfl | rfl | rfl | rfl | rfl
    · have hj : j < 5 := hj
      rcases (show j = 0 ∨ j = 1 ∨ j = 2 ∨ j = 3 ∨ j = 4 by omega) with rfl | rfl | rfl | rfl | rfl
      · exact (hs _ (List.mem_of_getElem? (i := 81) (by decide +kernel)))
      · exact (hs _ (List.mem_of_getElem? (i := 82) (by decide +kernel)))
      · exact (hs _ (List.mem_of_getElem? (i := 83) (by decide +kernel)))
      · exact (hs _ (List.mem_of_getElem? (i := 84) (by decide +kernel)))
      · exact (hs _ (List.mem_of_getElem? (i := 85) (by decide +kernel)))
    · have hj : j < 5 := hj
      rcases (show j = 0 ∨ j = 1 ∨ j = 2 ∨ j = 3 ∨ j = 4 by omega) with rfl | rfl | rfl | rfl | rfl
      · exact (hs _ (List.mem_of_getElem? (i := 90) (by decide +kernel)))
      · exact (hs _ (List.mem_of_getElem? (i := 91) (by decide +kernel)))
      · exact (hs _ (List.mem_of_getElem? (i := 92) (by decide +kernel)))
      · exact (hs _ (List.mem_of_getElem? (i := 93) (by decide +kernel)))
      · exact (hs _ (List.mem_of_getElem? (i := 94) (by decide +kernel)))
    · have hj : j < 3 := hj
      rcases (show j = 0 ∨ j = 1 ∨ j = 2 by omega) with rfl | rfl | rfl
      · exact (hs _ (List.mem_of_getElem? (i := 100) (by decide +kernel)))
      · exact (hs _ (List.mem_of_getElem? (i := 101) (by decide +kernel)))
      · exact (hs _ (List.mem_of_getElem? (i := 102) (by decide +kernel)))
    · have hj : j < 3 := hj
      rcases (show j = 0 ∨ j = 1 ∨ j = 2 by omega) with rfl | rfl | rfl
      · exact (hs _ (List.mem_of_getElem? (i := 109) (by decide +kernel)))
      · exact (hs _ (List.mem_of_getElem? (i := 110) (by decide +kernel)))
      · exact (hs _ (List.mem_of_getElem? (i := 111) (by decide +kernel)))
    · have hj : j < 4 := hj
      rcases (show j = 0 ∨ j = 1 ∨ j = 2 ∨ j = 3 by omega) with rfl | rfl | rfl | rfl
      · exact (hs _ (List.mem_of_getElem? (i := 119) (by decide +kernel)))
      · exact (hs _ (List.mem_of_getElem? (i := 120) (by decide +kernel)))
      · exact (hs _ (List.mem_of_getElem? (i := 121) (by decide +kernel)))
      · exact (hs _ (List.mem_of_getElem? (i := 122) (by decide +kernel)))
    · have hj : j < 4 := hj
      rcases (show j = 0 ∨ j = 1 ∨ j = 2 ∨ j = 3 by omega) with rfl | rfl | rfl | rfl
      · exact (hs _ (List.mem_of_getElem? (i := 131) (by decide +kernel)))
      · exact (hs _ (List.mem_of_getElem? (i := 132) (by decide +kernel)))
      · exact (hs _ (List.mem_of_getElem? (i := 133) (by decide +kernel)))
      · exact (hs _ (List.mem_of_getElem? (i := 134) (by decide +kernel)))
    · exact absurd hj (Nat.not_lt_zero j)
  · rcases (show i = 0 ∨ i = 1 ∨ i = 2 ∨ i = 3 ∨ i = 4 ∨ i = 5 ∨ i = 6 by omega) with rfl | rfl | rfl | rfl | rfl | rfl | rfl
    · rcases (show j = 0 ∨ j = 1 ∨ j = 2 ∨ j = 3 ∨ j = 4 ∨ j = 5 ∨ j = 6 by omega) with rfl | rfl | rfl | rfl | rfl | rfl | rfl
      · exact absurd rfl hij
      · exact Or.inl (hs _ (List.mem_of_getElem? (i := 95) (by decide +kernel)))
      · exact Or.inl (hs _ (List.mem_of_getElem? (i := 103) (by decide +kernel)))
      · exact Or.inl (hs _ (List.mem_of_getElem? (i := 112) (by decide +kernel)))
      · exact Or.inl (hs _ (List.mem_of_getElem? (i := 123) (by decide +kernel)))
      · exact Or.inl (hs _ (List.mem_of_getElem? (i := 135) (by decide +kernel)))
      · exact Or.inl (hs _ (List.mem_of_getElem? (i := 144) (by decide +kernel)))
    · rcases (show j = 0 ∨ j = 1 ∨ j = 2 ∨ j = 3 ∨ j = 4 ∨ j = 5 ∨ j = 6 by omega) with rfl | rfl | rfl | rfl | rfl | rfl | rfl
      · exact Or.inr (hs _ (List.mem_of_getElem? (i := 95) (by decide +kernel)))
      · exact absurd rfl hij
      · exact Or.inl (hs _ (List.mem_of_getElem? (i := 104) (by decide +kernel)))
      · exact Or.inl (hs _ (List.mem_of_getElem? (i := 113) (by decide +kernel)))
      · exact Or.inl (hs _ (List.mem_of_getElem? (i := 124) (by decide +kernel)))
      · exact Or.inl (hs _ (List.mem_of_getElem? (i := 136) (by decide +kernel)))
      · exact Or.inl (hs _ (List.mem_of_getElem? (i := 145) (by decide +kernel)))
    · rcases (show j = 0 ∨ j = 1 ∨ j = 2 ∨ j = 3 ∨ j = 4 ∨ j = 5 ∨ j = 6 by omega) with rfl | rfl | rfl | rfl | rfl | rfl | rfl
      · exact Or.inr (hs _ (List.mem_of_getElem? (i := 103) (by decide +kernel)))
      · exact Or.inr (hs _ (List.mem_of_getElem? (i := 104) (by decide +kernel)))
      · exact absurd rfl hij
      · exact Or.inl (hs _ (List.mem_of_getElem? (i := 114) (by decide +kernel)))
      · exact Or.inl (hs _ (List.mem_of_getElem? (i := 125) (by decide +kernel)))
      · exact Or.inl (hs _ (List.mem_of_getElem? (i := 137) (by decide +kernel)))
      · exact Or.inl (hs _ (List.mem_of_getElem? (i := 146) (by decide +kernel)))
    · rcases (show j = 0 ∨ j = 1 ∨ j = 2 ∨ j = 3 ∨ j = 4 ∨ j = 5 ∨ j = 6 by omega) with rfl | rfl | rfl | rfl | rfl | rfl | rfl
      · exact Or.inr (hs _ (List.mem_of_getElem? (i := 112) (by decide +kernel)))
      · exact Or.inr (hs _ (List.mem_of_getElem? (i := 113) (by decide +kernel)))
      · exact Or.inr (hs _ (List.mem_of_getElem? (i := 114) (by decide +kernel)))
      · exact absurd rfl hij
      · exact Or.inl (hs _ (List.mem_of_getElem? (i := 126) (by decide +kernel)))
      · exact Or.inl (hs _ (List.mem_of_getElem? (i := 138) (by decide +kernel)))
      · exact Or.inl (hs _ (List.mem_of_getElem? (i := 147) (by decide +kernel)))
    · rcases (show j = 0 ∨ j = 1 ∨ j = 2 ∨ j = 3 ∨ j = 4 ∨ j = 5 ∨ j = 6 by omega) with rfl | rfl | rfl | rfl | rfl | rfl | rfl
      · exact Or.inr (hs _ (List.mem_of_getElem? (i := 123) (by decide +kernel)))
      · exact Or.inr (hs _ (List.mem_of_getElem? (i := 124) (by decide +kernel)))
      · exact Or.inr (hs _ (List.mem_of_getElem? (i := 125) (by decide +kernel)))
      · exact Or.inr (hs _ (List.mem_of_getElem? (i := 126) (by decide +kernel)))
      · exact absurd rfl hij
      · exact Or.inl (hs _ (List.mem_of_getElem? (i := 139) (by decide +kernel)))
      · exact Or.inl (hs _ (List.mem_of_getElem? (i := 148) (by decide +kernel)))
    · rcases (show j = 0 ∨ j = 1 ∨ j = 2 ∨ j = 3 ∨ j = 4 ∨ j = 5 ∨ j = 6 by omega) with rfl | rfl | rfl | rfl | rfl | rfl | rfl
      · exact Or.inr (hs _ (List.mem_of_getElem? (i := 135) (by decide +kernel)))
      · exact Or.inr (hs _ (List.mem_of_getElem? (i := 136) (by decide +kernel)))
      · exact Or.inr (hs _ (List.mem_of_getElem? (i := 137) (by decide +kernel)))
      · exact Or.inr (hs _ (List.mem_of_getElem? (i := 138) (by decide +kernel)))
      · exact Or.inr (hs _ (List.mem_of_getElem? (i := 139) (by decide +kernel)))
      · exact absurd rfl hij
      · exact Or.inl (hs _ (List.mem_of_getElem? (i := 149) (by decide +kernel)))
    · rcases (show j = 0 ∨ j = 1 ∨ j = 2 ∨ j = 3 ∨ j = 4 ∨ j = 5 ∨ j = 6 by omega) with rfl | rfl | rfl | rfl | rfl | rfl | rfl
      · exact Or.inr (hs _ (List.mem_of_getElem? (i := 144) (by decide +kernel)))
      · exact Or.inr (hs _ (List.mem_of_getElem? (i := 145) (by decide +kernel)))
      · exact Or.inr (hs _ (List.mem_of_getElem? (i := 146) (by decide +kernel)))
      · exact Or.inr (hs _ (List.mem_of_getElem? (i := 147) (by decide +kernel)))
      · exact Or.inr (hs _ (List.mem_of_getElem? (i := 148) (by decide +kernel)))
      · exact Or.inr (hs _ (List.mem_of_getElem? (i := 149) (by decide +kernel)))
      · exact absurd rfl hij
theorem arr_of {args : Array Value} {s : State} {ty : FieldType} (h : (Cond.arrayClass ty).before args s = true) : ∃ cA : ClassId, ArrOfT s cA ty ∧ s.vm.findClass ("[" ++ ty.toString) = some cA := by
  obtain ⟨cA, kA, comp, h1, h2, h3⟩ := Cond.arrayClass_spec h
  exact ⟨cA, fun n z => ⟨fun k h => (by cases h), kA, h2, comp, h3⟩, h1⟩
theorem arr_ofq {args : Array Value} {s : State} {C : String} (h : (Cond.arrayOver (.object C)).before args s = true) : ∃ cA : ClassId, ArrOfT s cA (.object C) ∧ va_RA s cA (.object C) := by
  obtain ⟨comp, cA, kA, h1, h2, h3, h4, h5⟩ := Cond.arrayOver_spec h
  exact ⟨cA, fun n z => ⟨fun k h => (by cases h), kA, h3, comp, h4⟩, kA, comp, h3, h4, h1, h5⟩
