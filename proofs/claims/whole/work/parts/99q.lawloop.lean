/-! the law's loop -/
theorem zoutL {x : Int32} (h0 : ¬ x = 0) (h1 : ¬ x = 1) (h2 : ¬ x = 2) (h3 : ¬ x = 3) (h4 : ¬ x = 4) (h5 : ¬ x = 5) (h6 : ¬ x = 6) (h7 : ¬ x = 7) (h8 : ¬ x = 8) (h9 : ¬ x = 9) (h10 : ¬ x = 10) (h11 : ¬ x = 11) (h12 : ¬ x = 12) (h13 : ¬ x = 13) (h14 : ¬ x = 14) (h15 : ¬ x = 15) (h16 : ¬ x = 16) (h17 : ¬ x = 17) (h18 : ¬ x = 18) (h19 : ¬ x = 19) (h20 : ¬ x = 20) (h21 : ¬ x = 21) (h22 : ¬ x = 22) (h23 : ¬ x = 23) (h24 : ¬ x = 24) (h25 : ¬ x = 25) (h26 : ¬ x = 26) (h27 : ¬ x = 27) (h28 : ¬ x = 28) (h29 : ¬ x = 29) (h30 : ¬ x = 30) (h31 : ¬ x = 31) (h32 : ¬ x = 32) (h33 : ¬ x = 33) (h34 : ¬ x = 34) : x.toInt < 0 ∨ 34 < x.toInt := by
  refine Classical.byContradiction fun hc => ?_
  have hm : ∃ m : Nat, m < 35 ∧ x = Int32.ofNat m := ⟨x.toInt.toNat, by omega, by
    apply Int32.toInt_inj.mp
    rw [n_of (by omega)]
    omega⟩
  obtain ⟨m, hm, rfl⟩ := hm
  rcases (show m = 0 ∨ m = 1 ∨ m = 2 ∨ m = 3 ∨ m = 4 ∨ m = 5 ∨ m = 6 ∨ m = 7 ∨ m = 8 ∨ m = 9 ∨ m = 10 ∨ m = 11 ∨ m = 12 ∨ m = 13 ∨ m = 14 ∨ m = 15 ∨ m = 16 ∨ m = 17 ∨ m = 18 ∨ m = 19 ∨ m = 20 ∨ m = 21 ∨ m = 22 ∨ m = 23 ∨ m = 24 ∨ m = 25 ∨ m = 26 ∨ m = 27 ∨ m = 28 ∨ m = 29 ∨ m = 30 ∨ m = 31 ∨ m = 32 ∨ m = 33 ∨ m = 34 by omega) with rfl | rfl | rfl | rfl | rfl | rfl | rfl | rfl | rfl | rfl | rfl | rfl | rfl | rfl | rfl | rfl | rfl | rfl | rfl | rfl | rfl | rfl | rfl | rfl | rfl | rfl | rfl | rfl | rfl | rfl | rfl | rfl | rfl | rfl | rfl
  · exact h0 rfl
  · exact h1 rfl
  · exact h2 rfl
  · exact h3 rfl
  · exact h4 rfl
  · exact h5 rfl
  · exact h6 rfl
  · exact h7 rfl
  · exact h8 rfl
  · exact h9 rfl
  · exact h10 rfl
  · exact h11 rfl
  · exact h12 rfl
  · exact h13 rfl
  · exact h14 rfl
  · exact h15 rfl
  · exact h16 rfl
  · exact h17 rfl
  · exact h18 rfl
  · exact h19 rfl
  · exact h20 rfl
  · exact h21 rfl
  · exact h22 rfl
  · exact h23 rfl
  · exact h24 rfl
  · exact h25 rfl
  · exact h26 rfl
  · exact h27 rfl
  · exact h28 rfl
  · exact h29 rfl
  · exact h30 rfl
  · exact h31 rfl
  · exact h32 rfl
  · exact h33 rfl
  · exact h34 rfl
section LAWLOOP
variable {G : zG} {Γ : zT} {b L i k n : Nat} {xs : Nat → Int32}
theorem n_63 : (7 : Int32).toInt = 7 := rfl
theorem lw_next (h : lwS G Γ b (i + 7) k n 18) : lwS G Γ b i k n 1376 := by
  intro P a a' q N R Q D E O T U V F M hA
  refine z_iinc (v := Int32.ofNat (i + 7)) (lv' := [(3, .int (Int32.ofNat (i + 7))), (2, .ref (a' 0)), (1, .ref (a 0)), (0, .ref b)]) dL_1376 0 rfl (Int32.ofNat_add i 7).symm (by decide) rfl ?_
  refine z_goto (tgt := 18) dL_1379 (by decide) ?_
  exact h P a a' q N R Q D E O T U V F M hA
theorem lw_step (hX : va_X b L xs Γ.2.2.1.1 Γ.2.2.1.1.heap) (hb : b < Γ.2.2.1.1.heap.size) (hL : L ≤ 3584) (hi : i + 7 ≤ L) (hk : Lk k n) (h : lwS G Γ b (i + 7) (k + 162) (n + 810) 18) : lwS G Γ b i k n 18 := by
  have hn := lw_next h
  intro P a a' q N R Q D E O T U V F M hA
  refine z_iload_n dL_18 rfl ?_
  refine z_aload_n dL_19 rfl ?_
  refine L_slen hX hb dL_20 ?_
  refine z_bipush (v := 7) dL_21 rfl ?_
  refine z_isub dL_23 ?_
  refine z_icmp_gt dL_24 (tgt := 1382) (by decide) (fun hlt => ?_) (fun _ => ?_)
  · exfalso
    rw [n_lt, n_sub (by rw [n_of (by omega), n_63]; omega) (by rw [n_of (by omega), n_63]; omega), n_of (by omega), n_of (by omega), n_63] at hlt
    omega
  refine z_aload_n dL_27 rfl ?_
  refine z_iload_n dL_28 rfl ?_
  refine L_sld hX hb hL (j := i) (by omega) rfl dL_29 ?_
  refine z_bipush (v := 63) dL_30 rfl ?_
  refine z_iand dL_32 ?_
  by_cases h0 : xs i &&& 63 = 0
  · exact z_tableIn (tgt := 188) dL_33 0 h0 (by decide) (by decide) rfl (by decide) (lw_op_row hX hb hL hi hk hn P a a' q N R Q D E O T U V F M hA)
  by_cases h1 : xs i &&& 63 = 1
  · exact z_tableIn (tgt := 231) dL_33 1 h1 (by decide) (by decide) rfl (by decide) (lw_op_set hX hb hL hi hk hn P a a' q N R Q D E O T U V F M hA)
  by_cases h2 : xs i &&& 63 = 2
  · exact z_tableIn (tgt := 304) dL_33 2 h2 (by decide) (by decide) rfl (by decide) (lw_op_copy hX hb hL hi hk hn P a a' q N R Q D E O T U V F M hA)
  by_cases h3 : xs i &&& 63 = 3
  · exact z_tableIn (tgt := 367) dL_33 3 h3 (by decide) (by decide) rfl (by decide) (lw_op_element hX hb hL hi hk hn P a a' q N R Q D E O T U V F M hA)
  by_cases h4 : xs i &&& 63 = 4
  · exact z_tableIn (tgt := 401) dL_33 4 h4 (by decide) (by decide) rfl (by decide) (lw_op_show hX hb hL hi hk hn P a a' q N R Q D E O T U V F M hA)
  by_cases h5 : xs i &&& 63 = 5
  · exact z_tableIn (tgt := 434) dL_33 5 h5 (by decide) (by decide) rfl (by decide) (lw_op_holds hX hb hL hi hk hn P a a' q N R Q D E O T U V F M hA)
  by_cases h6 : xs i &&& 63 = 6
  · exact z_tableIn (tgt := 457) dL_33 6 h6 (by decide) (by decide) rfl (by decide) (lw_op_says hX hb hL hi hk hn P a a' q N R Q D E O T U V F M hA)
  by_cases h7 : xs i &&& 63 = 7
  · exact z_tableIn (tgt := 490) dL_33 7 h7 (by decide) (by decide) rfl (by decide) (lw_op_comer hX hb hL hi hk hn P a a' q N R Q D E O T U V F M hA)
  by_cases h8 : xs i &&& 63 = 8
  · exact z_tableIn (tgt := 565) dL_33 8 h8 (by decide) (by decide) rfl (by decide) (lw_op_ask hX hb hL hi hk hn P a a' q N R Q D E O T U V F M hA)
  by_cases h9 : xs i &&& 63 = 9
  · exact z_tableIn (tgt := 598) dL_33 9 h9 (by decide) (by decide) rfl (by decide) (lw_op_tell hX hb hL hi hk hn P a a' q N R Q D E O T U V F M hA)
  by_cases h10 : xs i &&& 63 = 10
  · exact z_tableIn (tgt := 641) dL_33 10 h10 (by decide) (by decide) rfl (by decide) (lw_op_comerOf hX hb hL hi hk hn P a a' q N R Q D E O T U V F M hA)
  by_cases h11 : xs i &&& 63 = 11
  · exact z_tableIn (tgt := 674) dL_33 11 h11 (by decide) (by decide) rfl (by decide) (lw_op_road hX hb hL hi hk hn P a a' q N R Q D E O T U V F M hA)
  by_cases h12 : xs i &&& 63 = 12
  · exact z_tableIn (tgt := 697) dL_33 12 h12 (by decide) (by decide) rfl (by decide) (lw_op_fault hX hb hL hi hk hn P a a' q N R Q D E O T U V F M hA)
  by_cases h13 : xs i &&& 63 = 13
  · exact z_tableIn (tgt := 710) dL_33 13 h13 (by decide) (by decide) rfl (by decide) (lw_op_looks hX hb hL hi hk hn P a a' q N R Q D E O T U V F M hA)
  by_cases h14 : xs i &&& 63 = 14
  · exact z_tableIn (tgt := 743) dL_33 14 h14 (by decide) (by decide) rfl (by decide) (lw_op_slow hX hb hL hi hk hn P a a' q N R Q D E O T U V F M hA)
  by_cases h15 : xs i &&& 63 = 15
  · exact z_tableIn (tgt := 776) dL_33 15 h15 (by decide) (by decide) rfl (by decide) (lw_op_brave hX hb hL hi hk hn P a a' q N R Q D E O T U V F M hA)
  by_cases h16 : xs i &&& 63 = 16
  · exact z_tableIn (tgt := 799) dL_33 16 h16 (by decide) (by decide) rfl (by decide) (lw_op_order hX hb hL hi hk hn P a a' q N R Q D E O T U V F M hA)
  by_cases h17 : xs i &&& 63 = 17
  · exact z_tableIn (tgt := 842) dL_33 17 h17 (by decide) (by decide) rfl (by decide) (lw_op_best hX hb hL hi hk hn P a a' q N R Q D E O T U V F M hA)
  by_cases h18 : xs i &&& 63 = 18
  · exact z_tableIn (tgt := 865) dL_33 18 h18 (by decide) (by decide) rfl (by decide) (lw_op_pushes hX hb hL hi hk hn P a a' q N R Q D E O T U V F M hA)
  by_cases h19 : xs i &&& 63 = 19
  · exact z_tableIn (tgt := 888) dL_33 19 h19 (by decide) (by decide) rfl (by decide) (lw_op_practise hX hb hL hi hk hn P a a' q N R Q D E O T U V F M hA)
  by_cases h20 : xs i &&& 63 = 20
  · exact z_tableIn (tgt := 931) dL_33 20 h20 (by decide) (by decide) rfl (by decide) (lw_op_fits hX hb hL hi hk hn P a a' q N R Q D E O T U V F M hA)
  by_cases h21 : xs i &&& 63 = 21
  · exact z_tableIn (tgt := 974) dL_33 21 h21 (by decide) (by decide) rfl (by decide) (lw_op_next hX hb hL hi hk hn P a a' q N R Q D E O T U V F M hA)
  by_cases h22 : xs i &&& 63 = 22
  · exact z_tableIn (tgt := 1017) dL_33 22 h22 (by decide) (by decide) rfl (by decide) (lw_op_leader hX hb hL hi hk hn P a a' q N R Q D E O T U V F M hA)
  by_cases h23 : xs i &&& 63 = 23
  · exact z_tableIn (tgt := 1040) dL_33 23 h23 (by decide) (by decide) rfl (by decide) (lw_op_rest hX hb hL hi hk hn P a a' q N R Q D E O T U V F M hA)
  by_cases h24 : xs i &&& 63 = 24
  · exact z_tableIn (tgt := 1063) dL_33 24 h24 (by decide) (by decide) rfl (by decide) (lw_op_painted hX hb hL hi hk hn P a a' q N R Q D E O T U V F M hA)
  by_cases h25 : xs i &&& 63 = 25
  · exact z_tableIn (tgt := 1106) dL_33 25 h25 (by decide) (by decide) rfl (by decide) (lw_op_judge hX hb hL hi hk hn P a a' q N R Q D E O T U V F M hA)
  by_cases h26 : xs i &&& 63 = 26
  · exact z_tableIn (tgt := 1139) dL_33 26 h26 (by decide) (by decide) rfl (by decide) (lw_op_behind hX hb hL hi hk hn P a a' q N R Q D E O T U V F M hA)
  by_cases h27 : xs i &&& 63 = 27
  · exact z_tableIn (tgt := 1182) dL_33 27 h27 (by decide) (by decide) rfl (by decide) (lw_op_done hX hb hL hi hk hn P a a' q N R Q D E O T U V F M hA)
  by_cases h28 : xs i &&& 63 = 28
  · exact z_tableIn (tgt := 1215) dL_33 28 h28 (by decide) (by decide) rfl (by decide) (lw_op_days hX hb hL hi hk hn P a a' q N R Q D E O T U V F M hA)
  by_cases h29 : xs i &&& 63 = 29
  · exact z_tableIn (tgt := 1238) dL_33 29 h29 (by decide) (by decide) rfl (by decide) (lw_op_seed hX hb hL hi hk hn P a a' q N R Q D E O T U V F M hA)
  by_cases h30 : xs i &&& 63 = 30
  · exact z_tableIn (tgt := 1261) dL_33 30 h30 (by decide) (by decide) rfl (by decide) (lw_op_act hX hb hL hi hk hn P a a' q N R Q D E O T U V F M hA)
  by_cases h31 : xs i &&& 63 = 31
  · exact z_tableIn (tgt := 1304) dL_33 31 h31 (by decide) (by decide) rfl (by decide) (lw_op_trace hX hb hL hi hk hn P a a' q N R Q D E O T U V F M hA)
  by_cases h32 : xs i &&& 63 = 32
  · exact z_tableIn (tgt := 1327) dL_33 32 h32 (by decide) (by decide) rfl (by decide) (lw_op_image hX hb hL hi hk hn P a a' q N R Q D E O T U V F M hA)
  by_cases h33 : xs i &&& 63 = 33
  · exact z_tableIn (tgt := 1340) dL_33 33 h33 (by decide) (by decide) rfl (by decide) (lw_op_restore hX hb hL hi hk hn P a a' q N R Q D E O T U V F M hA)
  by_cases h34 : xs i &&& 63 = 34
  · exact z_tableIn (tgt := 1353) dL_33 34 h34 (by decide) (by decide) rfl (by decide) (lw_op_status hX hb hL hi hk hn P a a' q N R Q D E O T U V F M hA)
  refine z_tableOut (tgt := 1376) dL_33 (zoutL h0 h1 h2 h3 h4 h5 h6 h7 h8 h9 h10 h11 h12 h13 h14 h15 h16 h17 h18 h19 h20 h21 h22 h23 h24 h25 h26 h27 h28 h29 h30 h31 h32 h33 h34) (by decide) ?_
  exact z_widen (Nat.le_add_right _ _) (Nat.le_add_right _ _) (hn P a a' q N R Q D E O T U V F M hA)
theorem lw_loop (hX : va_X b L xs Γ.2.2.1.1 Γ.2.2.1.1.heap) (hb : b < Γ.2.2.1.1.heap.size) (hL : L ≤ 3584) (hend : ∀ (P : pT) (ws : va_W) (k n : Nat) (lv : List (Nat × Value)), k ≤ 600000 → n ≤ 7302250 → Z kL G Γ (LJ G P Γ ws) k n lv 1383 [.int 1]) : ∀ f i k n : Nat, L < i + 7 * f → i ≤ L + 7 → k + 162 * f ≤ 600000 → n + 810 * f ≤ 7302250 → lwS G Γ b i k n 18 := by
  have key : ∀ i k n : Nat, L < i + 7 → i ≤ L + 7 → k ≤ 600000 → n ≤ 7302250 → lwS G Γ b i k n 18 := by
    intro i k n h1 h2 hk hn P a a' q N R Q D E O T U V F M hA
    refine z_iload_n dL_18 rfl ?_
    refine z_aload_n dL_19 rfl ?_
    refine L_slen hX hb dL_20 ?_
    refine z_bipush (v := 7) dL_21 rfl ?_
    refine z_isub dL_23 ?_
    refine z_icmp_gt dL_24 (tgt := 1382) (by decide) (fun _ => ?_) (fun hlt => ?_)
    · refine z_iconst (v := 1) dL_1382 rfl ?_
      exact hend _ _ _ _ _ hk hn
    · exfalso
      rw [n_lt, n_sub (by rw [n_of (by omega), n_63]; omega) (by rw [n_of (by omega), n_63]; omega), n_of (by omega), n_of (by omega), n_63] at hlt
      omega
  intro f
  induction f with
  | zero =>
    intro i k n h1 h2 h3 h4
    exact key i k n (by omega) h2 (Nat.le_trans (Nat.le_add_right _ _) h3) (Nat.le_trans (Nat.le_add_right _ _) h4)
  | succ f ih =>
    intro i k n h1 h2 h3 h4
    by_cases hi : i + 7 ≤ L
    · have q1 : k + 162 ≤ 600000 := by omega
      have q2 : n + 810 ≤ 7302250 := Nat.le_trans (Nat.add_le_add_left (Nat.le_mul_of_pos_right 810 (Nat.succ_pos f)) n) h4
      have q3 : k + 162 + 162 * f ≤ 600000 := by omega
      have e4 : n + 810 + 810 * f = n + 810 * (f + 1) := by omega
      have q4 : n + 810 + 810 * f ≤ 7302250 := by
        rw [e4]
        exact h4
      exact lw_step hX hb hL hi (And.intro q1 q2) (ih (i + 7) (k + 162) (n + 810) (by omega) (by omega) q3 q4)
    · exact key i k n (by omega) h2 (Nat.le_trans (Nat.le_add_right _ _) h3) (Nat.le_trans (Nat.le_add_right _ _) h4)
end LAWLOOP
