/-! moves, of each kind -/
def ll (t : Nat) : List Int32 := (if t = 6 then [71, 20, 11] else if t = 1 then [20, 11] else [11]) ++ wl t
def lv (t : Nat) (x c a : Int32) : Int32 := if t = 6 then wv t (x - a) c * 2 + a else if t = 1 then wv t x c * 2 + a else wv t x c * 2
def sl (t : Nat) : List Int32 := (if t = 5 then [60, 50, 12] else if t = 4 then [50, 12] else [12]) ++ (ll t ++ wl t)
def sv (t : Nat) (x c a : Int32) : Int32 := if t = 5 then (-(lv t x c a ^^^ wv t (x - a) c)) ^^^ 5 else if t = 4 then -(lv t x c a ^^^ wv t (x - a) c) else lv t x c a ^^^ wv t (x - a) c
theorem le12 {k : Nat} (h : k ≤ 12) : Int32.ofNat k ≤ 12 := by
  rw [n_le, n_of (by omega), show (12 : Int32).toInt = 12 from rfl]
  omega
section
variable {P : pT} {q : Nat}
theorem walk0 {d k : Nat} {V : vT} {x1 x c : Int32} (hm : q ∈ P.1) (hq : V.2.2 = some q) (h0 : P.2 q 0 = c) (hw : v_X1_withBody x1 0 = 0) (hk : k ≤ 12) : v_X1_run P (d + 1) V x1 0 x (Int32.ofNat k) = (x + c, bg V [10]) ∧ p_X1_run P (d + 1) V x1 0 x (Int32.ofNat k) := by
  have h := run_10 (d := d) (x3 := x) (x4 := Int32.ofNat k) hq hm hw (by decide) (by decide) (le12 hk)
  rw [h0] at h
  exact h
theorem walk2 {d k : Nat} {V : vT} {x c : Int32} (hm : q ∈ P.1) (hq : V.2.2 = some q) (h0 : P.2 q 0 = c) (hk : k ≤ 11) : v_X1_run P (d + 2) V 2 0 x (Int32.ofNat k) = ((x + c) * 3, bg V [30, 10]) ∧ p_X1_run P (d + 2) V 2 0 x (Int32.ofNat k) := by
  have r := walk0 (d := d) (k := k + 1) (x1 := 0) (x := x) hm (began_q (b := 30) |>.trans hq) h0 (by decide +kernel) (by omega)
  rw [← nat1 (by omega)] at r
  exact run_up (b := 30) (mv := 0) (x' := x) (w := 2) (u := 0) (g := fun v => v * 3) (Or.inr (Or.inl ⟨rfl, rfl, rfl, fun _ => rfl⟩)) hq hm (by decide +kernel) (by decide) (by decide) (by decide) (le12 (by omega)) r
theorem walkx {d k t : Nat} {V : vT} {x c : Int32} (hm : q ∈ P.1) (hq : V.2.2 = some q) (h0 : P.2 q 0 = c) (ht : t < 7) (hk : k ≤ 10) : v_X1_run P (d + 3) V (Int32.ofNat t) 0 x (Int32.ofNat k) = (wv t x c, bg V (wl t)) ∧ p_X1_run P (d + 3) V (Int32.ofNat t) 0 x (Int32.ofNat k) := by
  have n1 : Int32.ofNat k + 1 = Int32.ofNat (k + 1) := nat1 (by omega)
  rcases (show t = 0 ∨ t = 1 ∨ t = 2 ∨ t = 3 ∨ t = 4 ∨ t = 5 ∨ t = 6 by omega) with e | e | e | e | e | e | e <;> subst e
  · exact walk0 (d := d + 2) hm hq h0 (by decide +kernel) (by omega)
  · exact walk0 (d := d + 2) hm hq h0 (by decide +kernel) (by omega)
  · exact walk2 (d := d + 1) hm hq h0 (by omega)
  · have r := walk2 (d := d) (k := k + 1) (x := x + 1) hm (began_q (V := V) (b := 40) |>.trans hq) h0 (by omega)
    rw [← n1] at r
    exact run_up (d := d + 2) (b := 40) (mv := 0) (x' := x + 1) (w := 3) (u := 2) (g := fun v => v) (Or.inr (Or.inr (Or.inl ⟨rfl, rfl, rfl, fun _ => rfl⟩))) hq hm (by decide +kernel) (by decide) (by decide) (by decide) (le12 (by omega)) r
  · have r := walk0 (d := d + 1) (k := k + 1) (x1 := 0) (x := x) hm (began_q (V := V) (b := 51) |>.trans hq) h0 (by decide +kernel) (by omega)
    rw [← n1] at r
    exact run_up (d := d + 2) (b := 51) (mv := 0) (x' := x) (w := 4) (u := 0) (g := fun v => v - c) (Or.inr (Or.inr (Or.inr (Or.inr (Or.inl ⟨rfl, rfl, rfl, fun _ => by rw [h0]⟩))))) hq hm (by decide +kernel) (by decide) (by decide) (by decide) (le12 (by omega)) r
  · have r := walk0 (d := d + 1) (k := k + 1) (x1 := 0) (x := x) hm (began_q (V := V) (b := 51) |>.trans hq) h0 (by decide +kernel) (by omega)
    rw [← n1] at r
    exact run_up (d := d + 2) (b := 51) (mv := 0) (x' := x) (w := 4) (u := 0) (g := fun v => v - c) (Or.inr (Or.inr (Or.inr (Or.inr (Or.inl ⟨rfl, rfl, rfl, fun _ => by rw [h0]⟩))))) hq hm (by decide +kernel) (by decide) (by decide) (by decide) (le12 (by omega)) r
  · have r := walk0 (d := d + 1) (k := k + 1) (x1 := 1) (x := x) hm (began_q (V := V) (b := 70) |>.trans hq) h0 (by decide +kernel) (by omega)
    rw [← n1] at r
    exact run_up (d := d + 2) (b := 70) (mv := 0) (x' := x) (w := 6) (u := 1) (g := fun v => v * 2) (Or.inr (Or.inr (Or.inr (Or.inr (Or.inr (Or.inr (Or.inl ⟨rfl, rfl, rfl, fun _ => rfl⟩))))))) hq hm (by decide +kernel) (by decide) (by decide) (by decide) (le12 (by omega)) r
/-- a look from above, by the comer's own kind t -/
theorem look0 {d k t : Nat} {V : vT} {x1 x c : Int32} (hm : q ∈ P.1) (hq : V.2.2 = some q) (h0 : P.2 q 0 = c) (h1 : P.2 q 1 = Int32.ofNat t) (ht : t < 7) (hw : v_X1_withBody x1 1 = 0) (hk : k ≤ 9) : v_X1_run P (d + 4) V x1 1 x (Int32.ofNat k) = (wv t x c * 2, bg V ([11] ++ wl t)) ∧ p_X1_run P (d + 4) V x1 1 x (Int32.ofNat k) := by
  have n1 : Int32.ofNat k + 1 = Int32.ofNat (k + 1) := nat1 (by omega)
  have r := walkx (d := d) (k := k + 1) (x := x) hm (began_q (V := V) (b := 11) |>.trans hq) h0 ht (by omega)
  rw [← n1, ← h1] at r
  exact run_11 (d := d + 3) hq hm hw (by decide) (by decide) (le12 (by omega)) r
theorem look1 {d k t : Nat} {V : vT} {x c a : Int32} (hm : q ∈ P.1) (hq : V.2.2 = some q) (h0 : P.2 q 0 = c) (h1 : P.2 q 1 = Int32.ofNat t) (h2 : P.2 q 2 = a) (ht : t < 7) (hk : k ≤ 8) : v_X1_run P (d + 5) V 1 1 x (Int32.ofNat k) = (wv t x c * 2 + a, bg V ([20, 11] ++ wl t)) ∧ p_X1_run P (d + 5) V 1 1 x (Int32.ofNat k) := by
  have n1 : Int32.ofNat k + 1 = Int32.ofNat (k + 1) := nat1 (by omega)
  have r := look0 (d := d) (k := k + 1) (x1 := 0) (x := x) hm (began_q (V := V) (b := 20) |>.trans hq) h0 h1 ht (by decide +kernel) (by omega)
  rw [← n1] at r
  exact run_up (d := d + 4) (b := 20) (mv := 1) (x' := x) (w := 1) (u := 0) (g := fun v => v + a) (Or.inl ⟨rfl, rfl, rfl, fun _ => by rw [h2]⟩) hq hm (by decide +kernel) (by decide) (by decide) (by decide) (le12 (by omega)) r
theorem lookx {d k t : Nat} {V : vT} {x c a : Int32} (hm : q ∈ P.1) (hq : V.2.2 = some q) (h0 : P.2 q 0 = c) (h1 : P.2 q 1 = Int32.ofNat t) (h2 : P.2 q 2 = a) (ht : t < 7) (hk : k ≤ 7) : v_X1_run P (d + 6) V (Int32.ofNat t) 1 x (Int32.ofNat k) = (lv t x c a, bg V (ll t)) ∧ p_X1_run P (d + 6) V (Int32.ofNat t) 1 x (Int32.ofNat k) := by
  have n1 : Int32.ofNat k + 1 = Int32.ofNat (k + 1) := nat1 (by omega)
  rcases (show t = 0 ∨ t = 1 ∨ t = 2 ∨ t = 3 ∨ t = 4 ∨ t = 5 ∨ t = 6 by omega) with e | e | e | e | e | e | e <;> subst e
  · exact look0 (d := d + 2) hm hq h0 h1 (by decide) (by decide +kernel) (by omega)
  · exact look1 (d := d + 1) hm hq h0 h1 h2 (by decide) (by omega)
  · exact look0 (d := d + 2) hm hq h0 h1 (by decide) (by decide +kernel) (by omega)
  · exact look0 (d := d + 2) hm hq h0 h1 (by decide) (by decide +kernel) (by omega)
  · exact look0 (d := d + 2) hm hq h0 h1 (by decide) (by decide +kernel) (by omega)
  · exact look0 (d := d + 2) hm hq h0 h1 (by decide) (by decide +kernel) (by omega)
  · have r := look1 (d := d) (k := k + 1) (x := x - a) hm (began_q (V := V) (b := 71) |>.trans hq) h0 h1 h2 (by decide) (by omega)
    rw [← n1] at r
    exact run_up (d := d + 5) (b := 71) (mv := 1) (x' := x - a) (w := 6) (u := 1) (g := fun v => v) (Or.inr (Or.inr (Or.inr (Or.inr (Or.inr (Or.inr (Or.inr ⟨rfl, rfl, by rw [h2], fun _ => rfl⟩))))))) hq hm (by decide +kernel) (by decide) (by decide) (by decide) (le12 (by omega)) r
theorem stop0 {d k t : Nat} {V : vT} {x1 x c a : Int32} (hm : q ∈ P.1) (hq : V.2.2 = some q) (h0 : P.2 q 0 = c) (h1 : P.2 q 1 = Int32.ofNat t) (h2 : P.2 q 2 = a) (ht : t < 7) (hw : v_X1_withBody x1 2 = 0) (hk : k ≤ 6) : v_X1_run P (d + 7) V x1 2 x (Int32.ofNat k) = (lv t x c a ^^^ wv t (x - a) c, bg V ([12] ++ (ll t ++ wl t))) ∧ p_X1_run P (d + 7) V x1 2 x (Int32.ofNat k) := by
  have n1 : Int32.ofNat k + 1 = Int32.ofNat (k + 1) := nat1 (by omega)
  have r := lookx (d := d) (k := k + 1) (x := x) hm (began_q (V := V) (b := 12) |>.trans hq) h0 h1 h2 ht (by omega)
  have r' := walkx (d := d + 3) (k := k + 1) (x := x - a) hm ((bg_q (ll t) (v_X1_began V 12)).trans (began_q (V := V) (b := 12) |>.trans hq)) h0 ht (by omega)
  rw [← n1, ← h1] at r r'
  rw [← bg_app] at r'
  have r2 : v_X1_run P (d + 6) (lv t x c a, bg (v_X1_began V 12) (ll t)).2 (P.2 q 1) 0 (x - P.2 q 2) (Int32.ofNat k + 1) = (wv t (x - a) c, bg (v_X1_began V 12) (ll t ++ wl t)) ∧ p_X1_run P (d + 6) (lv t x c a, bg (v_X1_began V 12) (ll t)).2 (P.2 q 1) 0 (x - P.2 q 2) (Int32.ofNat k + 1) := by
    rw [h2]; exact r'
  exact run_12 (d := d + 6) hq hm hw (by decide) (by decide) (le12 (by omega)) r r2
theorem stop4 {d k t : Nat} {V : vT} {x c a : Int32} (hm : q ∈ P.1) (hq : V.2.2 = some q) (h0 : P.2 q 0 = c) (h1 : P.2 q 1 = Int32.ofNat t) (h2 : P.2 q 2 = a) (ht : t < 7) (hk : k ≤ 5) : v_X1_run P (d + 8) V 4 2 x (Int32.ofNat k) = (-(lv t x c a ^^^ wv t (x - a) c), bg V ([50, 12] ++ (ll t ++ wl t))) ∧ p_X1_run P (d + 8) V 4 2 x (Int32.ofNat k) := by
  have n1 : Int32.ofNat k + 1 = Int32.ofNat (k + 1) := nat1 (by omega)
  have r := stop0 (d := d) (k := k + 1) (x1 := 0) (x := x) hm (began_q (V := V) (b := 50) |>.trans hq) h0 h1 h2 ht (by decide +kernel) (by omega)
  rw [← n1] at r
  exact run_up (d := d + 7) (b := 50) (mv := 2) (x' := x) (w := 4) (u := 0) (g := fun v => -v) (Or.inr (Or.inr (Or.inr (Or.inl ⟨rfl, rfl, rfl, fun _ => rfl⟩)))) hq hm (by decide +kernel) (by decide) (by decide) (by decide) (le12 (by omega)) r
theorem stopx {d k t : Nat} {V : vT} {x c a : Int32} (hm : q ∈ P.1) (hq : V.2.2 = some q) (h0 : P.2 q 0 = c) (h1 : P.2 q 1 = Int32.ofNat t) (h2 : P.2 q 2 = a) (ht : t < 7) (hk : k ≤ 4) : v_X1_run P (d + 9) V (Int32.ofNat t) 2 x (Int32.ofNat k) = (sv t x c a, bg V (sl t)) ∧ p_X1_run P (d + 9) V (Int32.ofNat t) 2 x (Int32.ofNat k) := by
  have n1 : Int32.ofNat k + 1 = Int32.ofNat (k + 1) := nat1 (by omega)
  rcases (show t = 0 ∨ t = 1 ∨ t = 2 ∨ t = 3 ∨ t = 4 ∨ t = 5 ∨ t = 6 by omega) with e | e | e | e | e | e | e <;> subst e
  · exact stop0 (d := d + 2) hm hq h0 h1 h2 (by decide) (by decide +kernel) (by omega)
  · exact stop0 (d := d + 2) hm hq h0 h1 h2 (by decide) (by decide +kernel) (by omega)
  · exact stop0 (d := d + 2) hm hq h0 h1 h2 (by decide) (by decide +kernel) (by omega)
  · exact stop0 (d := d + 2) hm hq h0 h1 h2 (by decide) (by decide +kernel) (by omega)
  · exact stop4 (d := d + 1) hm hq h0 h1 h2 (by decide) (by omega)
  · have r := stop4 (d := d) (k := k + 1) (x := x) hm (began_q (V := V) (b := 60) |>.trans hq) h0 h1 h2 (by decide) (by omega)
    rw [← n1] at r
    exact run_up (d := d + 8) (b := 60) (mv := 2) (x' := x) (w := 5) (u := 4) (g := fun v => v ^^^ 5) (Or.inr (Or.inr (Or.inr (Or.inr (Or.inr (Or.inl ⟨rfl, rfl, rfl, fun _ => rfl⟩)))))) hq hm (by decide +kernel) (by decide) (by decide) (by decide) (le12 (by omega)) r
  · exact stop0 (d := d + 2) hm hq h0 h1 h2 (by decide) (by decide +kernel) (by omega)
end
