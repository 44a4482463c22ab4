/-! the reference's words -/
def WP (n l : Nat) (M : mT) (v1 v2 v3 v4 v5 : Int32) (res : Int32 × mT) : Prop := p_X7_word_r n l M v1 v2 v3 v4 v5 ∧ v_X7_word_r n l M v1 v2 v3 v4 v5 = res
def PW (w : Nat) : Nat := [0, 7, 14, 19, 24, 30, 36].getD w 0
def LW (w : Nat) : Nat := [6, 6, 4, 4, 5, 5].getD w 0
theorem PW_ok : ∀ w, w < 6 → PW (w + 1) = PW w + LW w + 1 ∧ PW w + LW w < 36 ∧ 2 ≤ LW w ∧ LW w ≤ 6 ∧ t_words (PW w + LW w) = 0 ∧ t_words (PW w + LW w - 1) = 32 ∧ ∀ i, i < 6 → i < LW w → ¬ t_words (PW w + i) = 0 := by decide
theorem PW_ne : ∀ w, w < 6 → ∀ j, j < 6 → j ≠ w → ¬ t_words (PW j) = t_words (PW w) := by decide
section
variable {M : mT} {f : Nat → Int64} {b len a : Nat}
theorem wskip (hW : ∀ i, i < 36 → M.2.1 22 i = t_words i) {n : Nat} {v2 : Int32} {w : Nat} {res : Int32 × mT} : ∀ (k c : Nat), (∀ i, i < k → ¬ t_words (c + i) = 0) → t_words (c + k) = 0 → c + k < 36 → WP n 0 M (Int32.ofNat (c + k + 1)) v2 (Int32.ofNat w + 1) 0 0 res → WP (n + k + 1) 2 M (Int32.ofNat c) v2 (Int32.ofNat w) 0 0 res := by
  intro k
  induction k with
  | zero =>
    intro c h1 h2 h3 h
    rw [Nat.add_zero] at h2
    unfold WP at h ⊢
    rw [p_X7_word_r, v_X7_word_r, tn_of (k := c) (by omega), hW c (by omega), if_neg (by decide : ¬ (2 : Nat) = 0), if_neg (by decide : ¬ (2 : Nat) = 0), if_neg (by decide : ¬ (2 : Nat) = 1), if_neg (by decide : ¬ (2 : Nat) = 1), if_pos h2, if_pos h2, nat1 (by omega)]
    exact ⟨⟨nat_in (by omega) (by omega), h.1⟩, h.2⟩
  | succ k ih =>
    intro c h1 h2 h3 h
    have i1 := ih (c + 1) (fun i hi => by rw [show c + 1 + i = c + (i + 1) by omega]; exact h1 (i + 1) (by omega)) (by rw [show c + 1 + k = c + (k + 1) by omega]; exact h2) (by omega) (by rw [show c + 1 + k + 1 = c + (k + 1) + 1 by omega]; exact h)
    have h0 := h1 0 (by omega)
    rw [Nat.add_zero] at h0
    unfold WP at i1 ⊢
    rw [show n + (k + 1) + 1 = (n + k + 1) + 1 by omega, p_X7_word_r, v_X7_word_r, tn_of (k := c) (by omega), hW c (by omega), if_neg (by decide : ¬ (2 : Nat) = 0), if_neg (by decide : ¬ (2 : Nat) = 0), if_neg (by decide : ¬ (2 : Nat) = 1), if_neg (by decide : ¬ (2 : Nat) = 1), if_neg h0, if_neg h0, nat1 (by omega)]
    exact ⟨⟨nat_in (by omega) (by omega), i1.1⟩, i1.2⟩
theorem wdone (hW : ∀ i, i < 36 → M.2.1 22 i = t_words i) {n c q : Nat} {v1 v2 v3 : Int32} (hc : c < 36) (h0 : t_words c = 0) : WP (n + 1) 1 M v1 v2 v3 (Int32.ofNat q) (Int32.ofNat c) (v3, msf M 27 (Int32.ofNat q)) := by
  unfold WP
  rw [p_X7_word_r, v_X7_word_r, tn_of (k := c) (by omega), hW c hc, if_neg (by decide : ¬ (1 : Nat) = 0), if_neg (by decide : ¬ (1 : Nat) = 0), if_pos (rfl : (1 : Nat) = 1), if_pos (rfl : (1 : Nat) = 1), if_pos h0, if_pos h0, if_pos h0, if_pos h0]
  exact ⟨⟨nat_in (by omega) (by omega), nat_in (by omega) (by omega), trivial⟩, rfl⟩
theorem wmatch1 (hT : RT f M b len) (hW : ∀ i, i < 36 → M.2.1 22 i = t_words i) {n c q : Nat} {v1 v2 v3 : Int32} {res : Int32 × mT} (hc : c < 36) (h0 : ¬ t_words c = 0) (hq : q < len) (hm : lt f len q = t_words c) (h : WP n 1 M v1 v2 v3 (Int32.ofNat (q + 1)) (Int32.ofNat (c + 1)) res) : WP (n + 1) 1 M v1 v2 v3 (Int32.ofNat q) (Int32.ofNat c) res := by
  obtain ⟨c1, c2⟩ := cell_at hT hq
  have hl := hT.2.2.2.1
  have h28 := hT.2.1
  have w : ¬ Int32.ofNat len ≤ Int32.ofNat q := by rw [nat_le (by omega) (by omega)]; omega
  unfold WP at h ⊢
  rw [p_X7_word_r, v_X7_word_r, tn_of (k := c) (by omega), hW c hc, if_neg (by decide : ¬ (1 : Nat) = 0), if_neg (by decide : ¬ (1 : Nat) = 0), if_pos (rfl : (1 : Nat) = 1), if_pos (rfl : (1 : Nat) = 1)]
  simp only [h0, if_false]
  rw [h28, if_neg w, if_neg w, c2, if_pos hm, if_pos hm, nat1 (by omega), nat1 (by omega)]
  exact ⟨⟨nat_in (by omega) (by omega), c1, nat_in (by omega) (by omega), h.1⟩, h.2⟩
theorem wmiss1 (hT : RT f M b len) (hW : ∀ i, i < 36 → M.2.1 22 i = t_words i) {n c q : Nat} {v1 v2 v3 : Int32} {res : Int32 × mT} (hc : c < 36) (h0 : ¬ t_words c = 0) (hq : q < 400) (hm : ¬ (q < len ∧ lt f len q = t_words c)) (h : WP n 2 M v1 (if Int32.ofNat q ≤ v2 then v2 else Int32.ofNat q) v3 0 0 res) : WP (n + 1) 1 M v1 v2 v3 (Int32.ofNat q) (Int32.ofNat c) res := by
  have hl := hT.2.2.2.1
  have h28 := hT.2.1
  unfold WP at h ⊢
  rw [p_X7_word_r, v_X7_word_r, tn_of (k := c) (by omega), hW c hc, if_neg (by decide : ¬ (1 : Nat) = 0), if_neg (by decide : ¬ (1 : Nat) = 0), if_pos (rfl : (1 : Nat) = 1), if_pos (rfl : (1 : Nat) = 1), if_neg h0, if_neg h0, h28]
  by_cases k : q < len
  · obtain ⟨c1, c2⟩ := cell_at hT k
    have w : ¬ Int32.ofNat len ≤ Int32.ofNat q := by rw [nat_le (by omega) (by omega)]; omega
    have hm2 : ¬ lt f len q = t_words c := fun e => hm ⟨k, e⟩
    rw [if_neg w, if_neg w, c2, if_neg hm2, if_neg hm2, if_neg h0, if_neg h0]
    exact ⟨⟨nat_in (by omega) (by omega), c1, nat_in (by omega) (by omega), nat_in (by omega) (by omega), h.1⟩, h.2⟩
  · have w : Int32.ofNat len ≤ Int32.ofNat q := by rw [nat_le (by omega) (by omega)]; omega
    rw [if_pos w, if_pos w, if_neg h0, if_neg h0]
    exact ⟨⟨nat_in (by omega) (by omega), nat_in (by omega) (by omega), h.1⟩, h.2⟩
theorem wstart {n w : Nat} {v1 v2 : Int32} {res : Int32 × mT} (hw : w < 6) (h : WP n 1 M v1 v2 (Int32.ofNat w) (M.1 27) v1 res) : WP (n + 1) 0 M v1 v2 (Int32.ofNat w) 0 0 res := by
  have k : ¬ (6 : Int32) ≤ Int32.ofNat w := by rw [show (6 : Int32) = Int32.ofNat 6 from rfl, nat_le (by omega) (by omega)]; omega
  unfold WP at h ⊢
  rw [p_X7_word_r, v_X7_word_r, if_pos (rfl : (0 : Nat) = 0), if_pos (rfl : (0 : Nat) = 0), if_neg k, if_neg k]
  exact h
theorem wend {n : Nat} {v1 v2 : Int32} : WP (n + 1) 0 M v1 v2 (Int32.ofNat 6) 0 0 (-1, msf M 30 v2) := by
  have k : (6 : Int32) ≤ Int32.ofNat 6 := by decide
  unfold WP
  rw [p_X7_word_r, v_X7_word_r, if_pos (rfl : (0 : Nat) = 0), if_pos (rfl : (0 : Nat) = 0), if_pos k, if_pos k]
  exact ⟨trivial, rfl⟩
/-- words whose first letter doesn't stand there -/
theorem wpre (hT : RT f M b len) (hW : ∀ i, i < 36 → M.2.1 22 i = t_words i) (h27 : M.1 27 = Int32.ofNat a) (ha : a < 400) {v : Nat} (hv : a ≤ v) (hv2 : v < 400) {n0 : Nat} {res : Int32 × mT} : ∀ (k w : Nat), w + k ≤ 6 → (∀ j, w ≤ j → j < w + k → ¬ (a < len ∧ lt f len a = t_words (PW j))) → (∀ n, n0 ≤ n → WP n 0 M (Int32.ofNat (PW (w + k))) (Int32.ofNat v) (Int32.ofNat (w + k)) 0 0 res) → ∀ n, n0 + 9 * k ≤ n → WP n 0 M (Int32.ofNat (PW w)) (Int32.ofNat v) (Int32.ofNat w) 0 0 res := by
  intro k
  induction k with
  | zero => intro w _ _ h n hn; exact h n (by omega)
  | succ k ih =>
    intro w hk hm h n hn
    have i1 := ih (w + 1) (by omega) (fun j h1 h2 => hm j (by omega) (by omega)) (fun n hn => by rw [show w + 1 + k = w + (k + 1) by omega]; exact h n hn)
    obtain ⟨p1, p2, p3, p4, p5, -, p6⟩ := PW_ok w (by omega)
    have e : n = ((n - (LW w + 3)) + LW w + 1) + 1 + 1 := by omega
    rw [e]
    refine wstart (by omega) ?_
    rw [h27]
    refine wmiss1 hT hW (by omega) (by have := p6 0 (by omega) (by omega); rw [Nat.add_zero] at this; exact this) (by omega) (hm w (by omega) (by omega)) ?_
    rw [if_pos (show Int32.ofNat a ≤ Int32.ofNat v by rw [nat_le (by omega) (by omega)]; omega)]
    refine wskip hW (LW w) (PW w) (fun i hi => p6 i (by omega) hi) p5 p2 ?_
    rw [nat1 (by omega), ← p1]
    exact i1 _ (by omega)
/-- the letters that stand there -/
theorem wletters (hT : RT f M b len) (hW : ∀ i, i < 36 → M.2.1 22 i = t_words i) {v1 v2 v3 : Int32} {res : Int32 × mT} {p : Nat} : ∀ (m i n : Nat), p + i + m < 36 → (∀ j, j < m → ¬ t_words (p + i + j) = 0 ∧ a + i + j < len ∧ lt f len (a + i + j) = t_words (p + i + j)) → WP n 1 M v1 v2 v3 (Int32.ofNat (a + i + m)) (Int32.ofNat (p + i + m)) res → WP (n + m) 1 M v1 v2 v3 (Int32.ofNat (a + i)) (Int32.ofNat (p + i)) res := by
  intro m
  induction m with
  | zero => intro i n _ _ h; exact h
  | succ m ih =>
    intro i n hp hj h
    obtain ⟨j1, j2, j3⟩ := hj 0 (by omega)
    refine wmatch1 hT hW (by omega) j1 j2 j3 ?_
    exact ih (i + 1) n (by omega) (fun j hj2 => by
      rw [show p + (i + 1) + j = p + i + (j + 1) by omega, show a + (i + 1) + j = a + i + (j + 1) by omega]
      exact hj (j + 1) (by omega)) (by
      rw [show p + (i + 1) + m = p + i + (m + 1) by omega, show a + (i + 1) + m = a + i + (m + 1) by omega]
      exact h)
/-- no word begins so -/
theorem word_none (hT : RT f M b len) (hW : ∀ i, i < 36 → M.2.1 22 i = t_words i) (h27 : M.1 27 = Int32.ofNat a) (ha : a ≤ 160) (hm : ∀ j, j < 6 → ¬ (a < len ∧ lt f len a = t_words (PW j))) : p_X7_word M ∧ v_X7_word M = (-1, msf M 30 (Int32.ofNat a)) := by
  unfold p_X7_word v_X7_word
  rw [h27]
  exact wpre hT hW h27 (by omega) (Nat.le_refl a) (by omega) (n0 := 1) 6 0 (by omega) (fun j _ h => hm j (by omega)) (fun n hn => by
    have e : n = (n - 1) + 1 := by omega
    rw [e]
    exact wend) 200 (by omega)
/-- word w begins so, and goes on so -/
theorem word_hit (hT : RT f M b len) (hW : ∀ i, i < 36 → M.2.1 22 i = t_words i) (h27 : M.1 27 = Int32.ofNat a) (ha : a ≤ 160) {w : Nat} (hw : w < 6) (hm : ∀ j, j < LW w → a + j < len ∧ lt f len (a + j) = t_words (PW w + j)) : p_X7_word M ∧ v_X7_word M = (Int32.ofNat w, msf M 27 (Int32.ofNat (a + LW w))) := by
  obtain ⟨p1, p2, p3, p4, p5, -, p6⟩ := PW_ok w hw
  have h0 := hm 0 (by omega)
  unfold p_X7_word v_X7_word
  rw [h27]
  have hp := wpre hT hW h27 (by omega) (Nat.le_refl a) (by omega) (n0 := 20) (res := (Int32.ofNat w, msf M 27 (Int32.ofNat (a + LW w)))) w 0 (by omega) (fun j _ h e => PW_ne w hw j (by omega) (by omega) (e.2.symm.trans h0.2)) (fun n hn => by
    rw [Nat.zero_add]
    have e : n = (((n - LW w - 2) + 1) + LW w) + 1 := by omega
    rw [e]
    refine wstart hw ?_
    rw [h27]
    have := wletters (a := a) (p := PW w) hT hW (v1 := Int32.ofNat (PW w)) (v2 := Int32.ofNat a) (v3 := Int32.ofNat w) (LW w) 0 ((n - LW w - 2) + 1) (by omega) (fun j hj => ⟨p6 j (by omega) hj, (hm j hj).1, (hm j hj).2⟩) (wdone hW (by omega) p5)
    exact this) 200 (by omega)
  exact hp
/-- word w begins so, and goes wrong at m -/
theorem word_miss (hT : RT f M b len) (hW : ∀ i, i < 36 → M.2.1 22 i = t_words i) (h27 : M.1 27 = Int32.ofNat a) (ha : a ≤ 160) {w m : Nat} (hw : w < 6) (hm0 : 1 ≤ m) (hmL : m < LW w) (hm : ∀ j, j < m → a + j < len ∧ lt f len (a + j) = t_words (PW w + j)) (hx : ¬ (a + m < len ∧ lt f len (a + m) = t_words (PW w + m))) : p_X7_word M ∧ v_X7_word M = (-1, msf M 30 (Int32.ofNat (a + m))) := by
  obtain ⟨p1, p2, p3, p4, p5, -, p6⟩ := PW_ok w hw
  have h0 := hm 0 (by omega)
  have rest := wpre hT hW h27 (by omega) (v := a + m) (by omega) (by omega) (n0 := 1) (res := (-1, msf M 30 (Int32.ofNat (a + m)))) (6 - (w + 1)) (w + 1) (by omega) (fun j h1 h2 e => PW_ne w hw j (by omega) (by omega) (e.2.symm.trans h0.2)) (fun n hn => by
    rw [show w + 1 + (6 - (w + 1)) = 6 by omega]
    have e : n = (n - 1) + 1 := by omega
    rw [e]
    exact wend)
  unfold p_X7_word v_X7_word
  rw [h27]
  have hp := wpre hT hW h27 (by omega) (Nat.le_refl a) (by omega) (n0 := 80) (res := (-1, msf M 30 (Int32.ofNat (a + m)))) w 0 (by omega) (fun j _ h e => PW_ne w hw j (by omega) (by omega) (e.2.symm.trans h0.2)) (fun n hn => by
    rw [Nat.zero_add]
    have e : n = ((((n - LW w - m - 3) + LW w + 1) + 1) + m) + 1 := by omega
    rw [e]
    refine wstart hw ?_
    rw [h27]
    have h1 : WP (((n - LW w - m - 3) + LW w + 1) + 1) 1 M (Int32.ofNat (PW w)) (Int32.ofNat a) (Int32.ofNat w) (Int32.ofNat (a + 0 + m)) (Int32.ofNat (PW w + 0 + m)) (-1, msf M 30 (Int32.ofNat (a + m))) := by
      rw [show a + 0 + m = a + m by omega, show PW w + 0 + m = PW w + m by omega]
      refine wmiss1 hT hW (by omega) (p6 m (by omega) hmL) (by omega) hx ?_
      rw [if_neg (show ¬ Int32.ofNat (a + m) ≤ Int32.ofNat a by rw [nat_le (by omega) (by omega)]; omega)]
      refine wskip hW (LW w) (PW w) (fun i hi => p6 i (by omega) hi) p5 p2 ?_
      rw [nat1 (by omega), ← p1]
      exact rest _ (by omega)
    exact wletters (a := a) (p := PW w) hT hW m 0 _ (by omega) (fun j hj => ⟨p6 j (by omega) (by omega), (hm j hj).1, (hm j hj).2⟩) h1) 200 (by omega)
  exact hp
end
