/-! the first object's fields as a function -/
def fl (n : Nat) (f : Nat → Value) : List Value := (List.range n).map f
theorem fl_len (n : Nat) (f : Nat → Value) : (fl n f).length = n := by
  unfold fl
  rw [List.length_map, List.length_range]
theorem fl_get {n j : Nat} (f : Nat → Value) (h : j < n) : (fl n f)[j]? = some (f j) := by
  unfold fl
  rw [List.getElem?_map, List.getElem?_range h]
  rfl
theorem fl_set {n j : Nat} (f : Nat → Value) (v : Value) : (fl n f).set j v = fl n (va_up f j v) := by
  apply List.ext_getElem?
  intro i
  rw [List.getElem?_set, fl_len]
  by_cases hi : i < n
  · rw [fl_get f hi, fl_get (va_up f j v) hi]
    by_cases e : j = i
    · subst e
      rw [if_pos rfl, if_pos hi]
      exact congrArg some (show v = va_up f j v j from (if_pos rfl).symm)
    · rw [if_neg e]
      exact congrArg some (show f i = va_up f j v i from (if_neg (fun q => e q.symm)).symm)
  · have n1 : ∀ g : Nat → Value, (fl n g)[i]? = none := fun g => List.getElem?_eq_none (by rw [fl_len]; omega)
    rw [n1, n1]
    by_cases e : j = i
    · subst e
      rw [if_pos rfl, if_neg hi]
    · rw [if_neg e]
section CTORU
variable {K : zK} {G : zG} {P : pT} {Γ : zT} {k n : Nat} {lv : List (Nat × Value)} {pc : Nat} {st : List Value} {A : Nat → Prop} {h0 : Heap} {rest : va_W} {a m : Nat} {f : Nat → Value}
theorem z_putU {ci : Nat} {C : String} {T : u_T} {index : Nat} (hc : CL[ci]? = some (C, T, m)) (hin : ∀ w ∈ u_ws C T m, w ∈ TS) (ty0 : Nat → FieldType) (hty : ∀ k, k < m → parseFieldDescriptor (T k).2.2.1 = some (ty0 k)) (hnm : ∀ a, a < m → ∀ b, b < m → a ≠ b → (T a).2.1 ≠ (T b).2.1) (j : Nat) (hj : j < m) (hlink : Cond.fieldLink K.2.2.1 index C (T j).2.1 (T j).2.2.1 ∈ TS) (hdecl : (T j).1 = C) (hfin : (T j).2.2.2 = false) {ty : FieldType} {v : Value} (hd : ty0 j = ty) (hn : narrow ty v = v) (hfit : fits ty v = true) (hdg : decode K.1 pc = .ok (.putfield index, 3)) (h : Z K G Γ (wr G A h0 ((a, .inr (ci, fl m (va_up f j v))) :: rest)) k n lv (pc + 3) st) : Z K G Γ (wr G A h0 ((a, .inr (ci, fl m f)) :: rest)) k n lv pc (v :: .ref a :: st) :=
  z_put (fs := fl m f) (ws' := (a, .inr (ci, fl m (va_up f j v))) :: rest) 0 rfl hc hin ty0 hty hnm j hj hlink hdecl hfin hd hn hfit (by rw [fl_len]; exact hj) (by rw [List.set_cons_zero, fl_set]) hdg h
theorem z_putFU {ci : Nat} {C : String} {T : u_T} {index : Nat} (hin2 : Γ.2.2.2.1.2.1.name = "<init>") (hc : CL[ci]? = some (C, T, m)) (hin : ∀ w ∈ u_ws C T m, w ∈ TS) (ty0 : Nat → FieldType) (hty : ∀ k, k < m → parseFieldDescriptor (T k).2.2.1 = some (ty0 k)) (hnm : ∀ a, a < m → ∀ b, b < m → a ≠ b → (T a).2.1 ≠ (T b).2.1) (j : Nat) (hj : j < m) (hlink : Cond.fieldLink K.2.2.1 index C (T j).2.1 (T j).2.2.1 ∈ TS) (hdecl : (T j).1 = C) (hown : C = K.2.2.1) (hfin : (T j).2.2.2 = true) {ty : FieldType} {v : Value} (hd : ty0 j = ty) (hn : narrow ty v = v) (hfit : fits ty v = true) (hdg : decode K.1 pc = .ok (.putfield index, 3)) (h : Z K G Γ (wr G A h0 ((a, .inr (ci, fl m (va_up f j v))) :: rest)) k n lv (pc + 3) st) : Z K G Γ (wr G A h0 ((a, .inr (ci, fl m f)) :: rest)) k n lv pc (v :: .ref a :: st) :=
  z_putF (fs := fl m f) (ws' := (a, .inr (ci, fl m (va_up f j v))) :: rest) hin2 0 rfl hc hin ty0 hty hnm j hj hlink hdecl hown hfin hd hn hfit (by rw [fl_len]; exact hj) (by rw [List.set_cons_zero, fl_set]) hdg h
theorem z_getU {ws : va_W} {ci : Nat} {C : String} {T : u_T} {index : Nat} (he : ws[0]? = some (a, .inr (ci, fl m f))) (hc : CL[ci]? = some (C, T, m)) (hin : ∀ w ∈ u_ws C T m, w ∈ TS) (j : Nat) (hj : j < m) (hlink : Cond.fieldLink K.2.2.1 index C (T j).2.1 (T j).2.2.1 ∈ TS) (hdecl : (T j).1 = C) {v : Value} (hv : f j = v) (hdg : decode K.1 pc = .ok (.getfield index, 3)) (h : Z K G Γ (wr G A h0 ws) k n lv (pc + 3) (v :: st)) : Z K G Γ (wr G A h0 ws) k n lv pc (.ref a :: st) :=
  z_get (v := v) wr_P 0 he hc hin j hj hlink hdecl (by rw [fl_get _ hj, hv]) hdg h
end CTORU
