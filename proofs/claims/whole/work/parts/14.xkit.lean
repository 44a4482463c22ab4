/-! worlds of the class: a road, a shelf, an order, the moves, the reader, the object itself; what lies outside: the comers, what is static -/
abbrev sh (a : Nat → Nat) (k : Nat) : Nat → Nat := fun j => a (k + j)
abbrev rT : Type := (Nat → Int32) × (Nat → Nat → Int32) × (Nat → Option Nat)
abbrev sT : Type := (Nat → Int32) × (Nat → Int64)
abbrev oT : Type := (Nat → Int32) × (Nat → Nat → Int32)
abbrev vT : Type := (Nat → Int32) × (Nat → Int32) × Option Nat
abbrev eT : Type := (Nat → Int32) × (Nat → Int32) × Nat
abbrev nT : Type := (Nat → Int32) × (Nat → Int32)
abbrev fT : Type := Nat → sT
abbrev pT : Type := List Nat × (Nat → Nat → Int32)
def rsf (R : rT) (j : Nat) (v : Int32) : rT := (va_up R.1 j v, R.2)
def rsa (R : rT) (j : Nat) (f : Nat → Int32) : rT := (R.1, va_up R.2.1 j f, R.2.2)
def rsc (R : rT) (f : Nat → Option Nat) : rT := (R.1, R.2.1, f)
def ssf (S : sT) (j : Nat) (v : Int32) : sT := (va_up S.1 j v, S.2)
def ssa (S : sT) (f : Nat → Int64) : sT := (S.1, f)
def osf (O : oT) (j : Nat) (v : Int32) : oT := (va_up O.1 j v, O.2)
def osa (O : oT) (j : Nat) (f : Nat → Int32) : oT := (O.1, va_up O.2 j f)
def vsf (V : vT) (j : Nat) (v : Int32) : vT := (va_up V.1 j v, V.2)
def vsa (V : vT) (f : Nat → Int32) : vT := (V.1, f, V.2.2)
def vso (V : vT) (q : Option Nat) : vT := (V.1, V.2.1, q)
def esf (E : eT) (j : Nat) (v : Int32) : eT := (va_up E.1 j v, E.2)
def esa (E : eT) (f : Nat → Int32) : eT := (E.1, f, E.2.2)
def esl (E : eT) (q : Nat) : eT := (E.1, E.2.1, q)
def nsf (N : nT) (j : Nat) (v : Int32) : nT := (va_up N.1 j v, N.2)
def nsa (N : nT) (f : Nat → Int32) : nT := (N.1, f)
def cmF (o : Nat → Int32) : List Value := [.int (o 0), .int (o 1), .int (o 2), .int (o 3), .int (o 4)]
def cmW (q : Nat) (o : Nat → Int32) : va_W := [(q, .inr (0, cmF o))]
def rdF (a : Nat → Nat) (R : rT) : List Value := [.ref (a 1), .ref (a 2), .ref (a 3), .ref (a 4), .int (R.1 4), .int (R.1 5), .int (R.1 6), .int (R.1 7), .int (R.1 8), .int (R.1 9), .int (R.1 10)]
def rdW (G : zG) (a : Nat → Nat) (R : rT) : va_W := [(a 0, .inr (4, rdF a R)), (a 1, .inl (G.2.2.1 2, 7, .inr (.inr (.inr (.inr R.2.2))))), (a 2, .inl (G.2.2.1 0, 7, .inl (R.2.1 1))), (a 3, .inl (G.2.2.1 0, 7, .inl (R.2.1 2))), (a 4, .inl (G.2.2.1 0, 7, .inl (R.2.1 3)))]
def shF (a : Nat → Nat) (S : sT) : List Value := [.ref (a 1), .int (S.1 1), .int (S.1 2)]
def shW (G : zG) (a : Nat → Nat) (S : sT) : va_W := [(a 0, .inr (5, shF a S)), (a 1, .inl (G.2.2.1 1, 160, .inr (.inl S.2)))]
def orF (a b : Nat → Nat) (O : oT) : List Value := [.ref (b 0), .ref (a 1), .ref (a 2), .int (O.1 3), .int (O.1 4), .int (O.1 5), .int (O.1 6), .int (O.1 7)]
def orW (G : zG) (a b : Nat → Nat) (O : oT) : va_W := [(a 0, .inr (2, orF a b O)), (a 1, .inl (G.2.2.1 0, 7, .inl (O.2 1))), (a 2, .inl (G.2.2.1 0, 7, .inl (O.2 2)))]
def mvF (a : Nat → Nat) (V : vT) : List Value := [.ref (a 1), .int (V.1 1), va_rf V.2.2]
def mvW (G : zG) (a : Nat → Nat) (V : vT) : va_W := [(a 0, .inr (1, mvF a V)), (a 1, .inl (G.2.2.1 0, 20, .inl V.2.1))]
def reF (a : Nat → Nat) (E : eT) : List Value := [.ref (a 1), .int (E.1 1), .int (E.1 2), .ref E.2.2, .int (E.1 4), .int (E.1 5), .int (E.1 6)]
def reW (G : zG) (a : Nat → Nat) (E : eT) : va_W := [(a 0, .inr (3, reF a E)), (a 1, .inl (G.2.2.1 0, 6, .inl E.2.1))]
/-- where things lie: 0 to 2 the object, its shelves' row, its refusals; 10, 15, 20 the roads; 30 to 45 the shelves; 50 the reader; 60, 63, 66 the orders; 70 the moves -/
def maF (a : Nat → Nat) (N : nT) : List Value := [.ref (sh a 10 0), .ref (sh a 15 0), .ref (sh a 20 0), .ref (a 1), .ref (sh a 50 0), .ref (sh a 60 0), .ref (sh a 63 0), .ref (sh a 66 0), .ref (sh a 70 0), .ref (a 2), .int (N.1 10), .int (N.1 11)]
def maW (G : zG) (a : Nat → Nat) (N : nT) : va_W := [(a 0, .inr (6, maF a N)), (a 1, .inl (G.2.2.1 3, 8, .inr (.inr (.inr (.inr (fun j => some (sh a (30 + 2 * j) 0))))))), (a 2, .inl (G.2.2.1 0, 8, .inl N.2))]
def faW (G : zG) (a : Nat → Nat) (F : fT) : va_W := shW G (sh a (30 + 2 * 0)) (F 0) ++ (shW G (sh a (30 + 2 * 1)) (F 1) ++ (shW G (sh a (30 + 2 * 2)) (F 2) ++ (shW G (sh a (30 + 2 * 3)) (F 3) ++ (shW G (sh a (30 + 2 * 4)) (F 4) ++ (shW G (sh a (30 + 2 * 5)) (F 5) ++ (shW G (sh a (30 + 2 * 6)) (F 6) ++ shW G (sh a (30 + 2 * 7)) (F 7)))))))
/-- a row of longs at an address -/
def ltW (G : zG) (q : Nat) (f : Nat → Int64) : va_W := [(q, .inl (G.2.2.1 1, 160, .inr (.inl f)))]
/-! what lies outside -/
def xpl (G : zG) (P : pT) : zX := fun A H => ∀ q ∈ P.1, va_P G.2.1 CL (cmW q (P.2 q)) H ∧ ¬ A q
theorem xpl_ok (G : zG) (P : pT) : XOK (xpl G P) := by
  refine ⟨fun A H H1 h hq q hp => ?_, fun A B H hAB h q hp => ?_⟩
  · obtain ⟨h1, h2⟩ := h q hp
    exact ⟨h1.kept (fun j x hx => by
      rcases j with _ | j
      · cases hx
        exact hq q ((h1 0 _ rfl).lt) h2
      · simp [cmW] at hx), h2⟩
  · obtain ⟨h1, h2⟩ := h q hp
    exact ⟨h1, fun hb => h2 (hAB q ((h1 0 _ rfl).lt) hb)⟩
/-- a static row of ints: its field, its address, its places -/
def xrow (G : zG) (C n : String) (t N : Nat) (f : Nat → Int32) : zX := fun A H => va_Z C n "[I" (.ref t) A G.1 H ∧ va_T .int t N (fun j => .int (f j)) A G.1 H
theorem xrow_ok (G : zG) (C n : String) (t N : Nat) (f : Nat → Int32) : XOK (xrow G C n t N f) := by
  refine ⟨fun A H H1 h hq => ⟨va_Z.kept h.1 hq, va_T.kept h.2 hq⟩, fun A B H hAB h => ?_⟩
  obtain ⟨⟨cf, kf, fi, fd, a, cell, g1, g2, g3, g4, g5, g6, g7, g8⟩, cell2, k1, k2, k3, k4, k5, k6, k7⟩ := h
  exact ⟨⟨cf, kf, fi, fd, a, cell, g1, g2, g3, g4, g5, g6, g7, fun hb => g8 (hAB a (Array.getElem?_eq_some_iff.mp g5).1 hb)⟩, cell2, k1, k2, k3, k4, k5, k6, fun hb => k7 (hAB t (Array.getElem?_eq_some_iff.mp k1).1 hb)⟩
theorem xand_ok {X Y : zX} (hX : XOK X) (hY : XOK Y) : XOK (fun A H => X A H ∧ Y A H) := ⟨fun A H H1 h hq => ⟨hX.1 A H H1 h.1 hq, hY.1 A H H1 h.2 hq⟩, fun A B H hAB h => ⟨hX.2 A B H hAB h.1, hY.2 A B H hAB h.2⟩⟩
def t_above : Nat → Int32 := fun j => ([-1, 0, 0, 2, 0, 4, 1] : List Int32).getD j 0
def t_bodies : Nat → Int32 := fun j => ([10, 11, 12, 0, 20, 0, 30, 0, 0, 40, 0, 0, 51, 0, 50, 0, 0, 60, 70, 71, 0] : List Int32).getD j 0
def t_least : Nat → Int32 := fun j => ([0, 0, 0, 1, 0, 0] : List Int32).getD j 0
def t_most : Nat → Int32 := fun j => ([6, 9, 30, 9, 9, 99] : List Int32).getD j 0
/-- the texts: lengths, letters -/
def s_len : List Nat := [5, 5, 3, 3, 4, 4, 0]
def s_byt : List (List Int32) := [[99, 111, 109, 101, 114], [100, 111, 117, 98, 116], [119, 97, 121], [102, 111, 103], [116, 111, 108, 108], [112, 117, 115, 104], []]
/-- text i: its cell, its fields, its letters -/
def xstr1 (G : zG) (i : Nat) : zX := fun A H => va_O "java/lang/String" (G.2.2.2 (10 + i)) A G.1 H ∧ (va_OF "java/lang/String" "coder" "B" (.int 0) (G.2.2.2 (10 + i)) A G.1 H ∧ (va_OF "java/lang/String" "value" "[B" (.ref (G.2.2.2 (20 + i))) (G.2.2.2 (10 + i)) A G.1 H ∧ va_T .byte (G.2.2.2 (20 + i)) (s_len.getD i 0) (fun j => .int ((s_byt.getD i []).getD j 0)) A G.1 H))
theorem x_O_ok (E : String) (t : Nat) (U : State) : XOK (fun A H => va_O E t A U H) := ⟨fun _ _ _ h hq => va_O.kept h hq, fun A B H hAB h => by
  obtain ⟨cell, h1, h2, h3, h4⟩ := h
  exact ⟨cell, h1, h2, h3, fun hb => h4 (hAB t (Array.getElem?_eq_some_iff.mp h1).1 hb)⟩⟩
theorem x_OF_ok (o n d : String) (v : Value) (t : Nat) (U : State) : XOK (fun A H => va_OF o n d v t A U H) := ⟨fun _ _ _ h hq => va_OF.kept h hq, fun A B H hAB h => by
  obtain ⟨cf, k, i, f, cell, g1, g2, g3, g4, g5, g6⟩ := h
  exact ⟨cf, k, i, f, cell, g1, g2, g3, g4, g5, fun hb => g6 (hAB t (Array.getElem?_eq_some_iff.mp g3).1 hb)⟩⟩
theorem x_T_ok (ty : FieldType) (t N : Nat) (f : Nat → Value) (U : State) : XOK (fun A H => va_T ty t N f A U H) := ⟨fun _ _ _ h hq => va_T.kept h hq, fun A B H hAB h => by
  obtain ⟨cell, g1, g2, g3, g4, g5, g6, g7⟩ := h
  exact ⟨cell, g1, g2, g3, g4, g5, g6, fun hb => g7 (hAB t (Array.getElem?_eq_some_iff.mp g1).1 hb)⟩⟩
theorem x_Z_ok (C n d : String) (v : Value) (U : State) : XOK (fun A H => va_Z C n d v A U H) := ⟨fun _ _ _ h hq => va_Z.kept h hq, fun A B H hAB h => by
  obtain ⟨cf, kf, fi, fd, a, cell, g1, g2, g3, g4, g5, g6, g7, g8⟩ := h
  exact ⟨cf, kf, fi, fd, a, cell, g1, g2, g3, g4, g5, g6, g7, fun hb => g8 (hAB a (Array.getElem?_eq_some_iff.mp g5).1 hb)⟩⟩
theorem xor_ok {X Y : zX} (hX : XOK X) (hY : XOK Y) : XOK (fun A H => X A H ∨ Y A H) := ⟨fun A H H1 h hq => h.elim (fun h => Or.inl (hX.1 A H H1 h hq)) (fun h => Or.inr (hY.1 A H H1 h hq)), fun A B H hAB h => h.elim (fun h => Or.inl (hX.2 A B H hAB h)) (fun h => Or.inr (hY.2 A B H hAB h))⟩
theorem xex_ok {α : Type} {X : α → zX} (hX : ∀ i, XOK (X i)) : XOK (fun A H => ∃ i, X i A H) := ⟨fun A H H1 h hq => h.elim (fun i h => ⟨i, (hX i).1 A H H1 h hq⟩), fun A B H hAB h => h.elim (fun i h => ⟨i, (hX i).2 A B H hAB h⟩)⟩
theorem xal_ok {α : Type} {p : α → Prop} {X : α → zX} (hX : ∀ i, XOK (X i)) : XOK (fun A H => ∀ i, p i → X i A H) := ⟨fun A H H1 h hq i hi => (hX i).1 A H H1 (h i hi) hq, fun A B H hAB h i hi => (hX i).2 A B H hAB (h i hi)⟩
theorem xstr1_ok (G : zG) (i : Nat) : XOK (xstr1 G i) := xand_ok (x_O_ok ..) (xand_ok (x_OF_ok ..) (xand_ok (x_OF_ok ..) (x_T_ok ..)))
def xcs (G : zG) : zX := fun A H => va_Z "java/lang/String" "COMPACT_STRINGS" "Z" (.int 1) A G.1 H
def xsi (G : zG) : zX := fun A H => va_Z "jdk/internal/util/Preconditions" "SIOOBE_FORMATTER" "Ljava/util/function/BiFunction;" .null A G.1 H ∨ ∃ t : Nat, va_Z "jdk/internal/util/Preconditions" "SIOOBE_FORMATTER" "Ljava/util/function/BiFunction;" (.ref t) A G.1 H
def xstr (G : zG) : zX := fun A H => xcs G A H ∧ (xsi G A H ∧ ∀ i : Nat, i < 7 → xstr1 G i A H)
theorem xstr_ok (G : zG) : XOK (xstr G) := xand_ok (x_Z_ok ..) (xand_ok (xor_ok (x_Z_ok ..) (xex_ok fun _ => x_Z_ok ..)) (xal_ok fun i => xstr1_ok G i))
def xst (G : zG) : zX := fun A H => xrow G RX0 "ABOVE" (G.2.2.2 0) 7 t_above A H ∧ (xrow G RX1 "BODIES" (G.2.2.2 1) 21 t_bodies A H ∧ (xrow G RX3 "LEAST_OF_COMER" (G.2.2.2 2) 6 t_least A H ∧ (xrow G RX3 "MOST_OF_COMER" (G.2.2.2 3) 6 t_most A H ∧ xstr G A H)))
theorem xst_ok (G : zG) : XOK (xst G) := xand_ok (xrow_ok ..) (xand_ok (xrow_ok ..) (xand_ok (xrow_ok ..) (xand_ok (xrow_ok ..) (xstr_ok G))))
def gX (G : zG) (P : pT) : zX := fun A H => xst G A H ∧ xpl G P A H
theorem gX_ok (G : zG) (P : pT) : XOK (gX G P) := xand_ok (xst_ok G) (xpl_ok G P)
abbrev nA : Nat → Prop := fun _ => False
def Fr (G : zG) (P : pT) (ws : va_W) : Heap → Prop := fun H => va_P G.2.1 CL ws H ∧ gX G P nA H
section XKIT
variable {K : zK} {G : zG} {P : pT} {Γ : zT} {I : Heap → List Loc → Prop} {k n : Nat} {lv lv' : List (Nat × Value)} {pc : Nat} {st : List Value} {A : Nat → Prop} {h0 : Heap} {ws ws' wc : va_W} {a : Nat}
theorem wr_G (hw : wk (gX G P) A h0) : ∀ H locs, wr G A h0 ws H locs → gX G P nA H := fun H locs hi => (gX_ok G P).2 A nA H (fun _ _ h => h.elim) (wr_X hw H locs hi)
theorem fr_sub (hI : ∀ H locs, I H locs → va_P G.2.1 CL ws H) (hG : ∀ H locs, I H locs → gX G P nA H) (is : List Nat) (hs : is.map (fun i => ws[i]?) = wc.map some) : ∀ H locs, I H locs → Fr G P wc H := fun H locs hi => ⟨fun j q hq => by
    have h1 : (is.map (fun i => ws[i]?))[j]? = some (some q) := by rw [hs, List.getElem?_map, hq]; rfl
    rw [List.getElem?_map] at h1
    cases hj : is[j]? with
    | none => rw [hj] at h1; cases h1
    | some i => rw [hj] at h1; exact hI H locs hi i q (Option.some.inj h1), hG H locs hi⟩
theorem fr_all (hI : ∀ H locs, I H locs → va_P G.2.1 CL ws H) (hG : ∀ H locs, I H locs → gX G P nA H) : ∀ H locs, I H locs → Fr G P ws H := fun H locs hi => ⟨hI H locs hi, hG H locs hi⟩
theorem fr_P (h : ∀ H locs, I H locs → Fr G P ws H) : ∀ H locs, I H locs → va_P G.2.1 CL ws H := fun H locs hi => (h H locs hi).1
/-- one of the comers -/
theorem cm_P (hG : ∀ H locs, I H locs → gX G P nA H) {q : Nat} (hq : q ∈ P.1) : ∀ H locs, I H locs → va_P G.2.1 CL (cmW q (P.2 q)) H := fun H locs hi => ((hG H locs hi).2 q hq).1
theorem z_ialdx {ws : va_W} {nA : Nat} {f : Nat → Int32} {i x : Int32} (hI : ∀ H locs, I H locs → va_P G.2.1 CL ws H) (q0 : Nat) (he : ws[q0]? = some (a, .inl (G.2.2.1 0, nA, .inl f))) (hin : vp_in i nA) (hx : f i.toNatClampNeg = x) (hdg : decode K.1 pc = .ok (.iaload, 1)) (h : Z K G Γ I k n lv (pc + 1) (.int x :: st)) : Z K G Γ I k n lv pc (.int i :: .ref a :: st) := z_iald hI q0 he hin hdg (hx ▸ h)
theorem z_laldx {ws : va_W} {nA : Nat} {f : Nat → Int64} {i : Int32} {x : Int64} (hI : ∀ H locs, I H locs → va_P G.2.1 CL ws H) (q0 : Nat) (he : ws[q0]? = some (a, .inl (G.2.2.1 1, nA, .inr (.inl f)))) (hin : vp_in i nA) (hx : f i.toNatClampNeg = x) (hdg : decode K.1 pc = .ok (.laload, 1)) (h : Z K G Γ I k n lv (pc + 1) (.long x :: st)) : Z K G Γ I k n lv pc (.int i :: .ref a :: st) := z_lald hI q0 he hin hdg (hx ▸ h)
theorem z_aaldc {ws : va_W} {nA : Nat} {f : Nat → Option Nat} {i : Int32} {x : Option Nat} (hI : ∀ H locs, I H locs → va_P G.2.1 CL ws H) (q0 : Nat) (he : ws[q0]? = some (a, .inl (G.2.2.1 2, nA, .inr (.inr (.inr (.inr f)))))) (hin : vp_in i nA) (hx : f i.toNatClampNeg = x) (hdg : decode K.1 pc = .ok (.aaload, 1)) (h : Z K G Γ I k n lv (pc + 1) (va_rf x :: st)) : Z K G Γ I k n lv pc (.int i :: .ref a :: st) := z_aald 2 (fun _ => rfl) hI q0 he hin hdg (hx ▸ h)
theorem z_aalds {ws : va_W} {nA : Nat} {f : Nat → Option Nat} {i : Int32} {q : Nat} (hI : ∀ H locs, I H locs → va_P G.2.1 CL ws H) (q0 : Nat) (he : ws[q0]? = some (a, .inl (G.2.2.1 3, nA, .inr (.inr (.inr (.inr f)))))) (hin : vp_in i nA) (hx : f i.toNatClampNeg = some q) (hdg : decode K.1 pc = .ok (.aaload, 1)) (h : Z K G Γ I k n lv (pc + 1) (.ref q :: st)) : Z K G Γ I k n lv pc (.int i :: .ref a :: st) := z_aald 3 (fun _ => rfl) hI q0 he hin hdg (by rw [hx]; exact h)
theorem z_iastx {nA : Nat} {f F : Nat → Int32} {i x : Int32} (q0 : Nat) (he : ws[q0]? = some (a, .inl (G.2.2.1 0, nA, .inl f))) (hin : vp_in i nA) (hF : upd f i.toNatClampNeg x = F) (hs : ws.set q0 (a, .inl (G.2.2.1 0, nA, .inl F)) = ws') (hdg : decode K.1 pc = .ok (.iastore, 1)) (h : Z K G Γ (wr G A h0 ws') k n lv (pc + 1) st) : Z K G Γ (wr G A h0 ws) k n lv pc (.int x :: .int i :: .ref a :: st) := z_iast q0 he hin (hF ▸ hs) hdg h
theorem z_lastx {nA : Nat} {f F : Nat → Int64} {i : Int32} {x : Int64} (q0 : Nat) (he : ws[q0]? = some (a, .inl (G.2.2.1 1, nA, .inr (.inl f)))) (hin : vp_in i nA) (hF : vp_updL f i.toNatClampNeg x = F) (hs : ws.set q0 (a, .inl (G.2.2.1 1, nA, .inr (.inl F))) = ws') (hdg : decode K.1 pc = .ok (.lastore, 1)) (h : Z K G Γ (wr G A h0 ws') k n lv (pc + 1) st) : Z K G Γ (wr G A h0 ws) k n lv pc (.long x :: .int i :: .ref a :: st) := z_last q0 he hin (hF ▸ hs) hdg h
/-- a static row: its address, its places, its length -/
theorem z_gsrow {C nm : String} {t N index : Nat} {f : Nat → Int32} (hG : ∀ H locs, I H locs → xrow G C nm t N f nA H) (hlk : Cond.fieldLink K.2.2.1 index C nm "[I" ∈ TS) (hdg : decode K.1 pc = .ok (.getstatic index, 3)) (h : Z K G Γ I k n lv (pc + 3) (.ref t :: st)) : Z K G Γ I k n lv pc st := fun C' H locs ls hi hl => by
  obtain ⟨cf, kf, fi, fd, a, cell, g1, g2, g3, g4, g5, g6, g7, g8⟩ := va_Z.moved C'.2.2.2.2.2.2.2.1 (hG H locs hi).1
  exact W.gets C'.1 C'.2.1 C'.2.2.2.1 (C'.2.2.2.2.1 _ hlk) g1 g2 g3 g4 g5 (fun e => by rw [e] at g6; cases g6) g7 rfl hdg (h C' H locs ls hi hl)
theorem z_tald {C nm : String} {t N : Nat} {f : Nat → Int32} {i x : Int32} (hG : ∀ H locs, I H locs → xrow G C nm t N f nA H) (hin : vp_in i N) (hx : f i.toNatClampNeg = x) (hdg : decode K.1 pc = .ok (.iaload, 1)) (h : Z K G Γ I k n lv (pc + 1) (.int x :: st)) : Z K G Γ I k n lv pc (.int i :: .ref t :: st) := fun C' H locs ls hi hl => by
  obtain ⟨cell, h1, h2, h3, h4, h5, h6, h7⟩ := va_T.moved C'.2.2.2.2.2.2.2.1 (hG H locs hi).2
  have hlt : i.toNatClampNeg < N := Nat.not_le.mp fun q => hin (Or.inr q)
  exact W.iald (v := .int x) C'.1 C'.2.1 h1 h2 h3 (fun q => by rcases q with q | q; exact hin (Or.inl q); omega) (by rw [h6 _ hlt]; exact congrArg (fun v => some (Value.int v)) hx) rfl rfl hdg (h C' H locs ls hi hl)
theorem z_tlen {C nm : String} {t N : Nat} {f : Nat → Int32} {v : Int32} (hG : ∀ H locs, I H locs → xrow G C nm t N f nA H) (hv : Int32.ofNat N = v) (hdg : decode K.1 pc = .ok (.arraylength, 1)) (h : Z K G Γ I k n lv (pc + 1) (.int v :: st)) : Z K G Γ I k n lv pc (.ref t :: st) := fun C' H locs ls hi hl => by
  obtain ⟨cell, h1, h2, h3, h4, h5, h6, h7⟩ := va_T.moved C'.2.2.2.2.2.2.2.1 (hG H locs hi).2
  exact W.alen C'.1 C'.2.1 h1 h2 (h5.trans hv) rfl rfl hdg (h C' H locs ls hi hl)
end XKIT
/-! one shelf out of the family -/
def faR (G : zG) (a : Nat → Nat) (F : fT) (s : Nat) : va_W := (List.range 8).flatMap (fun j => if j = s then [] else shW G (sh a (30 + 2 * j)) (F j))
theorem faW_mem {G : zG} {a : Nat → Nat} {F : fT} {s : Nat} (hs : s < 8) : ∀ (j : Nat) (q : Nat × va_E), (shW G (sh a (30 + 2 * s)) (F s))[j]? = some q → (faW G a F)[2 * s + j]? = some q := by
  intro j q h
  have hj : j < 2 := (List.getElem?_eq_some_iff.mp h).1
  rcases (show s = 0 ∨ s = 1 ∨ s = 2 ∨ s = 3 ∨ s = 4 ∨ s = 5 ∨ s = 6 ∨ s = 7 by omega) with rfl | rfl | rfl | rfl | rfl | rfl | rfl | rfl <;> rcases (show j = 0 ∨ j = 1 by omega) with rfl | rfl <;> exact h
theorem fam_P {G : zG} {a : Nat → Nat} {F : fT} {s : Nat} (hs : s < 8) {I : Heap → List Loc → Prop} (hI : ∀ H locs, I H locs → va_P G.2.1 CL (faW G a F) H) : ∀ H locs, I H locs → va_P G.2.1 CL (shW G (sh a (30 + 2 * s)) (F s)) H := fun H locs hi j q hq => hI H locs hi _ q (faW_mem hs j q hq)
theorem sub_P {G : zG} {ws wc : va_W} {I : Heap → List Loc → Prop} (hI : ∀ H locs, I H locs → va_P G.2.1 CL ws H) (is : List Nat) (hs : is.map (fun i => ws[i]?) = wc.map some) : ∀ H locs, I H locs → va_P G.2.1 CL wc H := fun H locs hi j q hq => by
    have h1 : (is.map (fun i => ws[i]?))[j]? = some (some q) := by rw [hs, List.getElem?_map, hq]; rfl
    rw [List.getElem?_map] at h1
    cases hj : is[j]? with
    | none => rw [hj] at h1; cases h1
    | some i => rw [hj] at h1; exact hI H locs hi i q (Option.some.inj h1)
theorem va_P_perm {D : va_G} {cl : List vw_C} {ws ws' : va_W} {H : Heap} (hp : ws.Perm ws') (h : va_P D cl ws H) : va_P D cl ws' H := fun k q hq => by
  obtain ⟨i, hi⟩ := List.getElem?_of_mem (hp.symm.subset (List.mem_of_getElem? hq))
  exact h i q hi
theorem va_D_iff {A : Nat → Prop} {ws : va_W} : va_D A ws ↔ (ws.map Prod.fst).Nodup ∧ ∀ q ∈ ws, A q.1 := by
  constructor
  · intro h
    refine ⟨?_, fun q hq => ?_⟩
    · rw [List.nodup_iff_pairwise_ne, List.pairwise_iff_getElem]
      intro i j hi hj hij he
      rw [List.length_map] at hi hj
      rw [List.getElem_map, List.getElem_map] at he
      have := h.1 i j _ _ (List.getElem?_eq_getElem hi) (List.getElem?_eq_getElem hj) he
      omega
    · obtain ⟨i, hi⟩ := List.getElem?_of_mem hq
      exact h.2 i q hi
  · intro h
    refine ⟨fun i j p q hp hq hpq => ?_, fun k q hq => h.2 q (List.mem_of_getElem? hq)⟩
    obtain ⟨hi, hi2⟩ := List.getElem?_eq_some_iff.mp hp
    obtain ⟨hj, hj2⟩ := List.getElem?_eq_some_iff.mp hq
    have hn := h.1
    rw [List.nodup_iff_pairwise_ne, List.pairwise_iff_getElem] at hn
    rcases Nat.lt_trichotomy i j with hl | hl | hl
    · exact absurd (by rw [List.getElem_map, List.getElem_map, hi2, hj2]; exact hpq) (hn i j (by rw [List.length_map]; exact hi) (by rw [List.length_map]; exact hj) hl)
    · exact hl
    · exact absurd (by rw [List.getElem_map, List.getElem_map, hi2, hj2]; exact hpq.symm) (hn j i (by rw [List.length_map]; exact hj) (by rw [List.length_map]; exact hi) hl)
theorem va_D_perm {A : Nat → Prop} {ws ws' : va_W} (hp : ws.Perm ws') (h : va_D A ws) : va_D A ws' := by
  rw [va_D_iff] at h ⊢
  exact ⟨(hp.map _).nodup_iff.mp h.1, fun q hq => h.2 q (hp.symm.subset hq)⟩
theorem wr_perm {G : zG} {A : Nat → Prop} {h0 H : Heap} {locs : List Loc} {ws ws' : va_W} (hp : ws.Perm ws') (h : wr G A h0 ws H locs) : wr G A h0 ws' H locs := ⟨va_P_perm hp h.1, va_D_perm hp h.2.1, h.2.2⟩
theorem perm_mid {α : Type} (X m l r : List α) : (X ++ (l ++ (m ++ r))).Perm ((X ++ m) ++ (l ++ r)) := by
  rw [List.append_assoc]
  refine List.Perm.append_left X ?_
  rw [← List.append_assoc, ← List.append_assoc]
  exact List.Perm.append_right r List.perm_append_comm
theorem fam_perm {G : zG} {a : Nat → Nat} {F : fT} {s : Nat} (hs : s < 8) (X : va_W) : (X ++ faW G a F).Perm ((X ++ shW G (sh a (30 + 2 * s)) (F s)) ++ faR G a F s) := by
  have key : ∀ (l r : va_W), faW G a F = l ++ (shW G (sh a (30 + 2 * s)) (F s) ++ r) → faR G a F s = l ++ r → (X ++ faW G a F).Perm ((X ++ shW G (sh a (30 + 2 * s)) (F s)) ++ faR G a F s) := by
    intro l r h1 h2
    rw [h1, h2]
    exact perm_mid X _ l r
  let c : Nat → va_W := fun j => shW G (sh a (30 + 2 * j)) (F j)
  rcases (show s = 0 ∨ s = 1 ∨ s = 2 ∨ s = 3 ∨ s = 4 ∨ s = 5 ∨ s = 6 ∨ s = 7 by omega) with rfl | rfl | rfl | rfl | rfl | rfl | rfl | rfl
  · exact key [] (c 1 ++ (c 2 ++ (c 3 ++ (c 4 ++ (c 5 ++ (c 6 ++ c 7)))))) rfl rfl
  · exact key (c 0) (c 2 ++ (c 3 ++ (c 4 ++ (c 5 ++ (c 6 ++ c 7))))) rfl rfl
  · exact key (c 0 ++ c 1) (c 3 ++ (c 4 ++ (c 5 ++ (c 6 ++ c 7)))) rfl rfl
  · exact key (c 0 ++ (c 1 ++ c 2)) (c 4 ++ (c 5 ++ (c 6 ++ c 7))) rfl rfl
  · exact key (c 0 ++ (c 1 ++ (c 2 ++ c 3))) (c 5 ++ (c 6 ++ c 7)) rfl rfl
  · exact key (c 0 ++ (c 1 ++ (c 2 ++ (c 3 ++ c 4)))) (c 6 ++ c 7) rfl rfl
  · exact key (c 0 ++ (c 1 ++ (c 2 ++ (c 3 ++ (c 4 ++ c 5))))) (c 7) rfl rfl
  · exact key (c 0 ++ (c 1 ++ (c 2 ++ (c 3 ++ (c 4 ++ (c 5 ++ c 6)))))) [] rfl rfl
theorem faR_up {G : zG} {a : Nat → Nat} {F : fT} {s : Nat} {S : sT} : faR G a (va_up F s S) s = faR G a F s := by
  unfold faR
  congr 1
  funext j
  by_cases h : j = s
  · rw [if_pos h, if_pos h]
  · rw [if_neg h, if_neg h, va_up_ne _ _ h]
section XFAM
variable {K : zK} {G : zG} {P : pT} {Γ : zT} {I : Heap → List Loc → Prop} {k n : Nat} {lv lv' : List (Nat × Value)} {pc : Nat} {st : List Value} {A : Nat → Prop} {h0 : Heap} {X : va_W} {a : Nat → Nat} {F : fT} {s : Nat} {S : sT}
theorem z_out (hs : s < 8) (h : Z K G Γ (wr G A h0 ((X ++ shW G (sh a (30 + 2 * s)) (F s)) ++ faR G a F s)) k n lv pc st) : Z K G Γ (wr G A h0 (X ++ faW G a F)) k n lv pc st := z_inv h fun _ _ hi => wr_perm (fam_perm hs X) hi
theorem z_in (hs : s < 8) (h : Z K G Γ (wr G A h0 (X ++ faW G a (va_up F s S))) k n lv pc st) : Z K G Γ (wr G A h0 ((X ++ shW G (sh a (30 + 2 * s)) S) ++ faR G a F s)) k n lv pc st := z_inv h fun _ _ hi => by
  have := (fam_perm (G := G) (a := a) (F := va_up F s S) hs X).symm
  rw [va_up_self, faR_up] at this
  exact wr_perm this hi
end XFAM
