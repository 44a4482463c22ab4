/-! a setting -/
theorem RD_doubt {P : pT} {R : rT} {D : Nat → Nat → Int32} {E : Nat → Int32} (h : RD P R D E) {x v : Int32} (hv : 0 ≤ v.toInt ∧ v.toInt ≤ 30) : RD P (rsa R 3 (upd (R.2.1 3) x.toNatClampNeg v)) (va_up D 6 (upd (D 6) x.toNatClampNeg v)) E := by
  obtain ⟨a, b, c, d⟩ := h
  refine ⟨a, b, fun k hk => ?_, d⟩
  obtain ⟨r1, ⟨r2, r3, r4⟩, ⟨o0, o1, o2, o3, o4, o5, o6⟩⟩ := c k hk
  obtain ⟨q, m, e, f⟩ := r1
  refine ⟨⟨q, m, e, f⟩, ⟨r2, r3, ?_⟩, ⟨o0, o1, o2, o3, o4, o5, ?_⟩⟩
  · show upd (R.2.1 3) x.toNatClampNeg v k = upd (D 6) x.toNatClampNeg v k
    by_cases z : k = x.toNatClampNeg
    · rw [z, upd_at, upd_at]
    · rw [upd_ne z, upd_ne z]; exact r4
  · show 0 ≤ (upd (D 6) x.toNatClampNeg v k).toInt ∧ (upd (D 6) x.toNatClampNeg v k).toInt ≤ 30
    by_cases z : k = x.toNatClampNeg
    · rw [z, upd_at]; exact hv
    · rw [upd_ne z]; exact o6
/-- what an item may change in the reference -/
def MI (M M' : mT) : Prop := (∀ i, 7 ≤ i → i ≠ 27 → i ≠ 29 → i ≠ 30 → M'.1 i = M.1 i) ∧ (∀ j, ¬ (9 ≤ j ∧ j ≤ 15) → j ≠ 25 → M'.2.1 j = M.2.1 j) ∧ M'.2.2 = M.2.2
theorem MF.i {M M' : mT} (h : MF M M') : MI M M' := ⟨fun i _ a b c => h.1 i a b c, fun j _ a => h.2.1 j a, h.2.2⟩
theorem MI.tr {M1 M2 M3 : mT} (h1 : MI M1 M2) (h2 : MI M2 M3) : MI M1 M3 := ⟨fun i z a b c => (h2.1 i z a b c).trans (h1.1 i z a b c), fun j z a => (h2.2.1 j z a).trans (h1.2.1 j z a), h2.2.2.trans h1.2.2⟩
theorem RR_mf {P : pT} {R : rT} {M M' : mT} (e : MF M M') (h : RR P R M) : RR P R M' := RD_congr (fun j hj c _ => by show M'.2.1 (9 + j) c = _; rw [e.2.1 (9 + j) (by omega)]) (fun i hi => e.1 i (by omega) (by omega) (by omega)) h
section
variable {P : pT} {f : Nat → Int64} {b len a n : Nat} {R : rT} {E : e2T} {M : mT}
theorem set_item {w k : Nat} {lo hi d : Int32} (hw : 2 ≤ w ∧ w < 6) (hk : k + 1 = w) (hT : RT f M b len) (hN : ∀ i, i < 6 → M.2.1 23 i = t_numbers i) (h4 : E.1 4 = Int32.ofNat len) (h5 : E.1 5 = Int32.ofNat a) (h27 : M.1 27 = Int32.ofNat (a + 1)) (hx : lt f len a = 32) (hal : a + 1 ≤ len) (hR : RR P R M) (hlo : (if d = 102 then (0 : Int32) else 1) = lo) (hhi : v_X3_mostOf d = hi) (hso : ∀ M' : mT, (v_X7_isSo M' (Int32.ofNat w) (Int32.ofNat 0) = 0 ↔ v_X6_within (M'.1 29) lo hi = 0)) (hset : ∀ (E : e2T) (v : Int32), (if d = 102 then ((1 : Int32), (E, rsf R 6 v)) else if d = 116 then (1, (E, rsf R 7 v)) else if d = 119 then (1, (E, rsf R 5 v)) else (1, (E, rsf R 8 v))) = (1, (E, rsf R (4 + k) v))) (hask : ∀ (M' : mT) (v : Int32), v_X7_asks M' (Int32.ofNat w - 2) v = msf M' k v) (hok : ∀ v : Int32, ¬ v_X6_within v lo hi = 0 → OKe (va_up M.1 k v)) : ∃ (r : Int32) (E' : e2T) (R' : rT) (M' : mT), v_X3_settingItem E f R d = (r, E', R') ∧ v_X7_item_r (n + 2) M (Int32.ofNat w) 0 = (r, M') ∧ p_X7_item_r (n + 2) M (Int32.ofNat w) 0 ∧ EF E E' ∧ MI M M' ∧ ((r = 0 ∧ E'.1 1 = M'.1 30) ∨ (r = 1 ∧ RR P R' M' ∧ ∃ a', a < a' ∧ a' ≤ len ∧ E'.1 5 = Int32.ofNat a' ∧ M'.1 27 = Int32.ofNat a')) := by
  have hnw : NW w = 1 := by
    have : w = 2 ∨ w = 3 ∨ w = 4 ∨ w = 5 := by omega
    rcases this with e | e | e | e <;> subst e <;> rfl
  obtain ⟨E1, M1, f1, f2, hh⟩ := inum (n := n + 1) (i := 0) (lo := lo) (hi := hi) hT hN hw.2 (by omega) h4 h5 (Or.inl ⟨rfl, h27, hx, hal⟩) (fun M' _ _ _ _ => hso M')
  unfold v_X3_settingItem
  rw [hlo, hhi]
  rcases hh with ⟨e1, e2, e3, e4⟩ | ⟨e1, e2, e3, e4, e5, a', a1, a2, a3, a4⟩
  · rw [e1, kk_def, if_pos n00]
    exact ⟨0, E1, R, M1, rfl, e2, e3, f1, f2.i, Or.inl ⟨rfl, e4⟩⟩
  · rw [e1, kk_def, if_neg n10]
    dsimp only
    rw [hset]
    have h23 : (M1.2.1 23) (Int32.ofNat w).toNatClampNeg ≤ Int32.ofNat (0 + 1) := by rw [tn_of (by omega), f2.2.1 23 (by decide), hN w hw.2, (NW_ok w hw.2).1, hnw]; decide
    have vw : vp_in (Int32.ofNat w) 6 := nat_in (by omega) (by omega)
    have w0 : ¬ Int32.ofNat w = 0 := by rw [n_eq, n_of (by omega), n_0]; omega
    have w1 : ¬ Int32.ofNat w = 1 := by rw [n_eq, n_of (by omega), n_1]; omega
    have t0 : (M1.2.1 25) ((0 : Int32)).toNatClampNeg = E1.1 6 := by rw [show ((0 : Int32)).toNatClampNeg = 0 from rfl, e5 0, if_pos rfl]
    have v2 : v_X7_item_r (n + 1) M1 (Int32.ofNat w) (Int32.ofNat (0 + 1)) = (1, msf M1 k (E1.1 6)) := by
      rw [v_X7_item_r, if_pos h23, if_neg w0, if_neg w1, kk_def, hask, t0]
    have p2 : p_X7_item_r (n + 1) M1 (Int32.ofNat w) (Int32.ofNat (0 + 1)) := by
      rw [p_X7_item_r, if_pos h23, if_neg w0, if_neg w1]
      exact ⟨vw, trivial⟩
    refine ⟨1, E1, rsf R (4 + k) (E1.1 6), msf M1 k (E1.1 6), rfl, e2.trans v2, e3 p2, f1, f2.i.tr ⟨fun i z _ _ _ => msf_ne (by omega), fun _ _ _ => rfl, rfl⟩, Or.inr ⟨rfl, ?_, a', a1, a2, a3, (msf_ne (by omega)).trans a4⟩⟩
    have hR1 := RR_mf f2 hR
    have e0 : va_up M1.1 k (E1.1 6) = fun i => va_up M1.1 k (E1.1 6) i := rfl
    refine RD_set k (by omega) (E1.1 6) ?_ hR1
    have ho := hok _ e4
    unfold OKe at ho ⊢
    have ge : ∀ i, i < 5 → va_up M1.1 k (E1.1 6) i = va_up M.1 k (E1.1 6) i := fun i hi => by
      by_cases z : i = k
      · rw [z, up_at, up_at]
      · rw [up_ne z, up_ne z]; exact f2.1 i (by omega) (by omega) (by omega)
    rw [ge 0 (by omega), ge 1 (by omega), ge 2 (by omega), ge 3 (by omega), ge 4 (by omega)]
    exact ho
end
