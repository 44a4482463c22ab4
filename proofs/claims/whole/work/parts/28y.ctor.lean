/-! the first object's fields as a function -/
def fl (n : Nat) (f : Nat → Value) : List Value := (List.range n).map f
theorem fl_len (n : Nat) (f : Nat → Value) : (fl n f).length = n := by
  unfold fl
  rw [List.length_map, List.length_range]
theorem fl_get {n j : Nat} (f : Nat → Value) (h : j < n) : (fl n f)[j]? = some (f j) := by
  unfold fl
  rw [List.getElem?_map, List.getElem?_range h]
  rfl
theorem fl_set {n j : Nat} (f : Nat → Value) (v : Value) : (fl n f).set j v = fl n (va_up f j v) := by
  apply List.ext_getElem?
  intro i
  rw [List.getElem?_set, fl_len]
  by_cases hi : i < n
  · rw [fl_get f hi, fl_get (va_up f j v) hi]
    by_cases e : j = i
    · subst e
      rw [if_pos rfl, if_pos hi]
      exact congrArg some (show v = va_up f j v j from (if_pos rfl).symm)
    · rw [if_neg e]
      exact congrArg some (show f i = va_up f j v i from (if_neg (fun q => e q.symm)).symm)
  · have n1 : ∀ g : Nat → Value, (fl n g)[i]? = none := fun g => List.getElem?_eq_none (by rw [fl_len]; omega)
    rw [n1, n1]
    by_cases e : j = i
    · subst e
      rw [if_pos rfl, if_neg hi]
    · rw [if_neg e]
section CTORU
variable {K : zK} {G : zG} {P : pT} {Γ : zT} {k n : Nat} {lv : List (Nat × Value)} {pc : Nat} {st : List Value} {A : Nat → Prop} {h0 : Heap} {rest : va_W} {a m : Nat} {f : Nat → Value}
theorem z_putU {ci : Nat} {C : String} {T : u_T} {index : Nat} (hc : CL[ci]? = some (C, T, m)) (hin : ∀ w ∈ u_ws C T m, w ∈ TS) (ty0 : Nat → FieldType) (hty : ∀ k, k < m → parseFieldDescriptor (T k).2.2.1 = some (ty0 k)) (hnm : ∀ a, a < m → ∀ b, b < m → a ≠ b → (T a).2.1 ≠ (T b).2.1) (j : Nat) (hj : j < m) (hlink : Cond.fieldLink K.2.2.1 index C (T j).2.1 (T j).2.2.1 ∈ TS) (hdecl : (T j).1 = C) (hfin : (T j).2.2.2 = false) {ty : FieldType} {v : Value} (hd : ty0 j = ty) (hn : narrow ty v = v) (hfit : fits ty v = true) (hdg : decode K.1 pc = .ok (.putfield index, 3)) (h : Z K G Γ (wr G A h0 ((a, .inr (ci, fl m (va_up f j v))) :: rest)) k n lv (pc + 3) st) : Z K G Γ (wr G A h0 ((a, .inr (ci, fl m f)) :: rest)) k n lv pc (v :: .ref a :: st) :=
  z_put (fs := fl m f) (ws' := (a, .inr (ci, fl m (va_up f j v))) :: rest) 0 rfl hc hin ty0 hty hnm j hj hlink hdecl hfin hd hn hfit (by rw [fl_len]; exact hj) (by rw [List.set_cons_zero, fl_set]) hdg h
theorem z_putFU {ci : Nat} {C : String} {T : u_T} {index : Nat} (hin2 : Γ.2.2.2.1.2.1.name = "<init>") (hc : CL[ci]? = some (C, T, m)) (hin : ∀ w ∈ u_ws C T m, w ∈ TS) (ty0 : Nat → FieldType) (hty : ∀ k, k < m → parseFieldDescriptor (T k).2.2.1 = some (ty0 k)) (hnm : ∀ a, a < m → ∀ b, b < m → a ≠ b → (T a).2.1 ≠ (T b).2.1) (j : Nat) (hj : j < m) (hlink : Cond.fieldLink K.2.2.1 index C (T j).2.1 (T j).2.2.1 ∈ TS) (hdecl : (T j).1 = C) (hown : C = K.2.2.1) (hfin : (T j).2.2.2 = true) {ty : FieldType} {v : Value} (hd : ty0 j = ty) (hn : narrow ty v = v) (hfit : fits ty v = true) (hdg : decode K.1 pc = .ok (.putfield index, 3)) (h : Z K G Γ (wr G A h0 ((a, .inr (ci, fl m (va_up f j v))) :: rest)) k n lv (pc + 3) st) : Z K G Γ (wr G A h0 ((a, .inr (ci, fl m f)) :: rest)) k n lv pc (v :: .ref a :: st) :=
  z_putF (fs := fl m f) (ws' := (a, .inr (ci, fl m (va_up f j v))) :: rest) hin2 0 rfl hc hin ty0 hty hnm j hj hlink hdecl hown hfin hd hn hfit (by rw [fl_len]; exact hj) (by rw [List.set_cons_zero, fl_set]) hdg h
theorem z_getU {ws : va_W} {ci : Nat} {C : String} {T : u_T} {index : Nat} (he : ws[0]? = some (a, .inr (ci, fl m f))) (hc : CL[ci]? = some (C, T, m)) (hin : ∀ w ∈ u_ws C T m, w ∈ TS) (j : Nat) (hj : j < m) (hlink : Cond.fieldLink K.2.2.1 index C (T j).2.1 (T j).2.2.1 ∈ TS) (hdecl : (T j).1 = C) {v : Value} (hv : f j = v) (hdg : decode K.1 pc = .ok (.getfield index, 3)) (h : Z K G Γ (wr G A h0 ws) k n lv (pc + 3) (v :: st)) : Z K G Γ (wr G A h0 ws) k n lv pc (.ref a :: st) :=
  z_get (v := v) wr_P 0 he hc hin j hj hlink hdecl (by rw [fl_get _ hj, hv]) hdg h
end CTORU
theorem fl45 (f : Nat → Value) : fl 45 f = [f 0, f 1, f 2, f 3, f 4, f 5, f 6, f 7, f 8, f 9, f 10, f 11, f 12, f 13, f 14, f 15, f 16, f 17, f 18, f 19, f 20, f 21, f 22, f 23, f 24, f 25, f 26, f 27, f 28, f 29, f 30, f 31, f 32, f 33, f 34, f 35, f 36, f 37, f 38, f 39, f 40, f 41, f 42, f 43, f 44] := rfl
theorem mW_u {G : zG} {a : Nat → Nat} {M : mT} {F : Nat → Value} {q b8 b9 b10 b11 b12 b13 b14 b15 b16 b17 b18 b19 b20 b21 b22 b23 b24 b25 b31 b32 b33 b34 b35 b42 : Nat} {f8 f9 f10 f11 f12 f13 f14 f15 f16 f17 f18 f19 f22 f23 f24 f25 f31 f32 f33 f34 f35 f42 : Nat → Int32} {f20 f21 : Nat → Int64} (hq : q = a 0) (e0 : F 0 = .int (M.1 0)) (e1 : F 1 = .int (M.1 1)) (e2 : F 2 = .int (M.1 2)) (e3 : F 3 = .int (M.1 3)) (e4 : F 4 = .int (M.1 4)) (e5 : F 5 = .int (M.1 5)) (e6 : F 6 = .int (M.1 6)) (e7 : F 7 = .int (M.1 7)) (e8 : F 8 = .ref (a 8)) (e9 : F 9 = .ref (a 9)) (e10 : F 10 = .ref (a 10)) (e11 : F 11 = .ref (a 11)) (e12 : F 12 = .ref (a 12)) (e13 : F 13 = .ref (a 13)) (e14 : F 14 = .ref (a 14)) (e15 : F 15 = .ref (a 15)) (e16 : F 16 = .ref (a 16)) (e17 : F 17 = .ref (a 17)) (e18 : F 18 = .ref (a 18)) (e19 : F 19 = .ref (a 19)) (e20 : F 20 = .ref (a 20)) (e21 : F 21 = .ref (a 21)) (e22 : F 22 = .ref (a 22)) (e23 : F 23 = .ref (a 23)) (e24 : F 24 = .ref (a 24)) (e25 : F 25 = .ref (a 25)) (e26 : F 26 = .int (M.1 26)) (e27 : F 27 = .int (M.1 27)) (e28 : F 28 = .int (M.1 28)) (e29 : F 29 = .int (M.1 29)) (e30 : F 30 = .int (M.1 30)) (e31 : F 31 = .ref (a 31)) (e32 : F 32 = .ref (a 32)) (e33 : F 33 = .ref (a 33)) (e34 : F 34 = .ref (a 34)) (e35 : F 35 = .ref (a 35)) (e36 : F 36 = .int (M.1 36)) (e37 : F 37 = .int (M.1 37)) (e38 : F 38 = .int (M.1 38)) (e39 : F 39 = .int (M.1 39)) (e40 : F 40 = .int (M.1 40)) (e41 : F 41 = .int (M.1 41)) (e42 : F 42 = .ref (a 42)) (e43 : F 43 = .int (M.1 43)) (e44 : F 44 = .int (M.1 44)) (h8 : b8 = a 8) (g8 : f8 = M.2.1 8) (h9 : b9 = a 9) (g9 : f9 = M.2.1 9) (h10 : b10 = a 10) (g10 : f10 = M.2.1 10) (h11 : b11 = a 11) (g11 : f11 = M.2.1 11) (h12 : b12 = a 12) (g12 : f12 = M.2.1 12) (h13 : b13 = a 13) (g13 : f13 = M.2.1 13) (h14 : b14 = a 14) (g14 : f14 = M.2.1 14) (h15 : b15 = a 15) (g15 : f15 = M.2.1 15) (h16 : b16 = a 16) (g16 : f16 = M.2.1 16) (h17 : b17 = a 17) (g17 : f17 = M.2.1 17) (h18 : b18 = a 18) (g18 : f18 = M.2.1 18) (h19 : b19 = a 19) (g19 : f19 = M.2.1 19) (h20 : b20 = a 20) (g20 : f20 = M.2.2 20) (h21 : b21 = a 21) (g21 : f21 = M.2.2 21) (h22 : b22 = a 22) (g22 : f22 = M.2.1 22) (h23 : b23 = a 23) (g23 : f23 = M.2.1 23) (h24 : b24 = a 24) (g24 : f24 = M.2.1 24) (h25 : b25 = a 25) (g25 : f25 = M.2.1 25) (h31 : b31 = a 31) (g31 : f31 = M.2.1 31) (h32 : b32 = a 32) (g32 : f32 = M.2.1 32) (h33 : b33 = a 33) (g33 : f33 = M.2.1 33) (h34 : b34 = a 34) (g34 : f34 = M.2.1 34) (h35 : b35 = a 35) (g35 : f35 = M.2.1 35) (h42 : b42 = a 42) (g42 : f42 = M.2.1 42) : (q, .inr (7, fl 45 F)) :: [(b8, .inl (G.2.2.1 0, 8, .inl f8)), (b9, .inl (G.2.2.1 0, 7, .inl f9)), (b10, .inl (G.2.2.1 0, 7, .inl f10)), (b11, .inl (G.2.2.1 0, 7, .inl f11)), (b12, .inl (G.2.2.1 0, 7, .inl f12)), (b13, .inl (G.2.2.1 0, 7, .inl f13)), (b14, .inl (G.2.2.1 0, 7, .inl f14)), (b15, .inl (G.2.2.1 0, 7, .inl f15)), (b16, .inl (G.2.2.1 0, 8, .inl f16)), (b17, .inl (G.2.2.1 0, 8, .inl f17)), (b18, .inl (G.2.2.1 0, 8, .inl f18)), (b19, .inl (G.2.2.1 0, 8, .inl f19)), (b20, .inl (G.2.2.1 1, 1280, .inr (.inl f20))), (b21, .inl (G.2.2.1 1, 160, .inr (.inl f21))), (b22, .inl (G.2.2.1 0, 36, .inl f22)), (b23, .inl (G.2.2.1 0, 6, .inl f23)), (b24, .inl (G.2.2.1 0, 6, .inl f24)), (b25, .inl (G.2.2.1 0, 6, .inl f25)), (b31, .inl (G.2.2.1 0, 60, .inl f31)), (b32, .inl (G.2.2.1 0, 60, .inl f32)), (b33, .inl (G.2.2.1 0, 7, .inl f33)), (b34, .inl (G.2.2.1 0, 7, .inl f34)), (b35, .inl (G.2.2.1 0, 7, .inl f35)), (b42, .inl (G.2.2.1 0, 20, .inl f42))] = mW G a M := by
  rw [fl45, e0, e1, e2, e3, e4, e5, e6, e7, e8, e9, e10, e11, e12, e13, e14, e15, e16, e17, e18, e19, e20, e21, e22, e23, e24, e25, e26, e27, e28, e29, e30, e31, e32, e33, e34, e35, e36, e37, e38, e39, e40, e41, e42, e43, e44]
  subst hq h8 h9 h10 h11 h12 h13 h14 h15 h16 h17 h18 h19 h20 h21 h22 h23 h24 h25 h31 h32 h33 h34 h35 h42 g8 g9 g10 g11 g12 g13 g14 g15 g16 g17 g18 g19 g20 g21 g22 g23 g24 g25 g31 g32 g33 g34 g35 g42
  rfl
theorem mI_z {j : Nat} (h2 : j ≠ 22) (h3 : j ≠ 23) (h4 : j ≠ 24) : (fun _ => 0 : Nat → Int32) = mI.2.1 j := by
  show (fun _ => 0 : Nat → Int32) = (if (j) = 22 then fa_fill t_words (fun _ => 0) 36 else if (j) = 23 then fa_fill t_numbers (fun _ => 0) 6 else if (j) = 24 then fa_fill t_mosts (fun _ => 0) 6 else fun _ => 0)
  rw [if_neg h2, if_neg h3, if_neg h4]
theorem mI_22 : fa_fill t_words (fun _ => 0) 36 = mI.2.1 22 := by
  show fa_fill t_words (fun _ => 0) 36 = (if (22 : Nat) = 22 then fa_fill t_words (fun _ => 0) 36 else if (22 : Nat) = 23 then fa_fill t_numbers (fun _ => 0) 6 else if (22 : Nat) = 24 then fa_fill t_mosts (fun _ => 0) 6 else fun _ => 0)
  rw [if_pos rfl]
theorem mI_23 : fa_fill t_numbers (fun _ => 0) 6 = mI.2.1 23 := by
  show fa_fill t_numbers (fun _ => 0) 6 = (if (23 : Nat) = 22 then fa_fill t_words (fun _ => 0) 36 else if (23 : Nat) = 23 then fa_fill t_numbers (fun _ => 0) 6 else if (23 : Nat) = 24 then fa_fill t_mosts (fun _ => 0) 6 else fun _ => 0)
  rw [if_neg (by decide), if_pos rfl]
theorem mI_24 : fa_fill t_mosts (fun _ => 0) 6 = mI.2.1 24 := by
  show fa_fill t_mosts (fun _ => 0) 6 = (if (24 : Nat) = 22 then fa_fill t_words (fun _ => 0) 36 else if (24 : Nat) = 23 then fa_fill t_numbers (fun _ => 0) 6 else if (24 : Nat) = 24 then fa_fill t_mosts (fun _ => 0) 6 else fun _ => 0)
  rw [if_neg (by decide), if_neg (by decide), if_pos rfl]
