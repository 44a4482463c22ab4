theorem look_n {d z : Int} : Op.lookupswitch.offset [] d z = d := rfl
theorem look_c {x k : Int32} {a o d : Int} {r : List (Int × Int)} (h : ¬ x = k) (hk : k.toInt = a) (e : Op.lookupswitch.offset r d x.toInt = d) : Op.lookupswitch.offset ((a, o) :: r) d x.toInt = d := (lv_osw h hk).trans e
theorem look_in {x c : Int32} {l : List (Int × Int)} {d o : Int} (h : x = c) (e : Op.lookupswitch.offset l d c.toInt = o) : Op.lookupswitch.offset l d x.toInt = o := by rw [h]; exact e
section XKIT2
variable {K : zK} {G : zG} {P : pT} {Γ : zT} {I : Heap → List Loc → Prop} {k n : Nat} {lv lv' : List (Nat × Value)} {pc : Nat} {st : List Value} {A : Nat → Prop} {h0 : Heap} {ws ws' wc w1 X0 X1 T : va_W} {a : Nat}
theorem z_aload_nN {i : Fin 4} (hdg : decode K.1 pc = .ok (.aload_n i, 1)) (hi : zl lv (i : Nat) = some .null) (h : Z K G Γ I k n lv (pc + 1) (.null :: st)) : Z K G Γ I k n lv pc st := fun C H locs ls hI hl => lv_aload_nN C.1 C.2.1 hdg rfl (zl_at hl hi) (h C H locs ls hI hl)
theorem z_aloadN {i : Nat} (hdg : decode K.1 pc = .ok (.aload i, 2)) (hi : zl lv i = some .null) (h : Z K G Γ I k n lv (pc + 2) (.null :: st)) : Z K G Γ I k n lv pc st := fun C H locs ls hI hl => lv_aloadN C.1 C.2.1 hdg (zl_at hl hi) (h C H locs ls hI hl)
theorem z_astore_nN {i : Fin 4} (hdg : decode K.1 pc = .ok (.astore_n i, 1)) (hn : (i : Nat) < K.2.1) (hl : ((i : Nat), Value.null) :: lv.filter (fun q => !(q.1 == (i : Nat)) && !(q.1 + 1 == (i : Nat) && q.2.category == 2)) = lv') (h : Z K G Γ I k n lv' (pc + 1) st) : Z K G Γ I k n lv pc (.null :: st) := fun C H locs ls hI hv => lv_astore_nN C.1 C.2.1 hdg rfl hv hn hl (fun ls' hl' => h C H locs ls' hI hl')
theorem z_astoreN {i : Nat} (hdg : decode K.1 pc = .ok (.astore i, 2)) (hn : i < K.2.1) (hl : (i, Value.null) :: lv.filter (fun q => !(q.1 == i) && !(q.1 + 1 == i && q.2.category == 2)) = lv') (h : Z K G Γ I k n lv' (pc + 2) st) : Z K G Γ I k n lv pc (.null :: st) := fun C H locs ls hI hv => lv_astoreN C.1 C.2.1 hdg hv hn hl (fun ls' hl' => h C H locs ls' hI hl')
/-- storing a reference to a comer, or null -/
theorem z_aastc {nR : Nat} {f F : Nat → Option Nat} {i : Int32} {x : Option Nat} (hG : ∀ H locs, wr G A h0 ws H locs → gX G P nA H) (q0 : Nat) (he : ws[q0]? = some (a, .inl (G.2.2.1 2, nR, .inr (.inr (.inr (.inr f)))))) (hin : vp_in i nR) (hq : ∀ v : Nat, x = some v → v ∈ P.1) (hF : va_up f i.toNatClampNeg x = F) (hs : ws.set q0 (a, .inl (G.2.2.1 2, nR, .inr (.inr (.inr (.inr F))))) = ws') (hdg : decode K.1 pc = .ok (.aastore, 1)) (h : Z K G Γ (wr G A h0 ws') k n lv (pc + 1) st) : Z K G Γ (wr G A h0 ws) k n lv pc (va_rf x :: .int i :: .ref a :: st) := fun C H locs ls hi hl => by
  subst hF
  cases x with
  | none => exact va_astqN C.1 C.2.1 C.2.2.2.2.2.2.2.2.1 hi.1 hi.2.1 hi.2.2 q0 2 he rfl hin hdg (fun H1 locs1 hP hD hS => h C H1 locs1 ls ⟨hs ▸ hP, hs ▸ hD, hS⟩ hl)
  | some v =>
    have hK := C.2.2.2.2.2.2.2.2.1
    have hc := ((hG H locs hi).2 v (hq v rfl)).1 0 _ rfl
    obtain ⟨r, h1, cell, g1, g2, g3, -⟩ := hc
    cases h1
    have hcl := (hK.1 0 _ rfl).2
    obtain ⟨hf, kC, hkC, hkind⟩ := hcl
    refine va_astqM (E := RX0) C.1 C.2.1 hK hi.1 hi.2.1 hi.2.2 q0 2 he rfl ⟨cell, g1, by rw [g3]; rfl, ⟨kC, by rw [g2]; exact hkC⟩, fun comp hcomp => ?_⟩ hin hdg (fun H1 locs1 hP hD hS => h C H1 locs1 ls ⟨hs ▸ hP, hs ▸ hD, hS⟩ hl)
    have : comp = G.2.1.1 0 := Option.some.inj (hcomp.symm.trans hf)
    rw [this, g2]
    exact va_assign (hK.1 0 _ rfl).2
theorem z_casiD {X : zX} {v : Int32} {y : MethodName} {b : ByteArray} {maxL index mc ms : Nat} {ret : Option FieldType} {rm : Room} {As : List Value} {st0 : List Value} (hw : wk X A h0)
    (hM : ∀ sz, Met Γ.1 y (.code y b maxL ret :: TS) rm (Pz G As (Fw G X ws sz)) (Qwi G (fun r w => r = v ∧ w = ws') (va_A ws sz)) mc ms (va_A ws sz)) (hy : zcal y b maxL ret As.length) (hv : Cond.static y ∈ TS) (hlk : Cond.methodLink K.2.2.1 index y ∈ TS) (hR : zroom rm K.2.2.2.2 maxL mc ms k n) (hst : st0 = As.reverse ++ st) (hW : st.length ≤ 4) (hdg : decode K.1 pc = .ok (.invokestatic index, 3)) (h : Z K G Γ (wr G A h0 ws') (k + mc) (n + ms) lv (pc + 3) (.int v :: st)) : Z K G Γ (wr G A h0 ws) k n lv pc st0 := fun C H locs ls hi hl => by
  have hF : ∀ q, va_A ws H.size q → A q := fun q hq => by
    rcases hq with ⟨j, e, hq⟩ | hq
    · exact hi.2.1.2 j _ hq
    · exact hw.2.2 q (Nat.le_trans hi.2.2.1 hq)
  exact va_calli (z_runS C hl (hM H.size) hy hv hlk ⟨rfl, hi.1, hi.2.1.weaken (fun _ _ _ _ => trivial), hw.1.2 _ _ _ (fun q _ h => hF q h) (wr_X hw H locs hi)⟩ hR hst hW hdg) hi.2.2 (fun q _ h => hF q h) hF (fun r u t H1 locs1 ht hvm hp hb hz hk hS => by
    obtain ⟨h1, h2⟩ := hp
    subst h1; subst h2
    exact h C H1 locs1 ls ⟨ht ▸ hb.1, hb.2.weaken (fun _ q _ h => hF q.1 h), hS⟩ hl)
theorem z_casvD {X : zX} {y : MethodName} {b : ByteArray} {maxL index mc ms : Nat} {ret : Option FieldType} {rm : Room} {As : List Value} {st0 : List Value} (hw : wk X A h0)
    (hM : ∀ sz, Met Γ.1 y (.code y b maxL ret :: TS) rm (Pz G As (Fw G X ws sz)) (Qwv G (fun w => w = ws') (va_A ws sz)) mc ms (va_A ws sz)) (hy : zcal y b maxL ret As.length) (hv : Cond.static y ∈ TS) (hlk : Cond.methodLink K.2.2.1 index y ∈ TS) (hR : zroom rm K.2.2.2.2 maxL mc ms k n) (hst : st0 = As.reverse ++ st) (hW : st.length ≤ 4) (hdg : decode K.1 pc = .ok (.invokestatic index, 3)) (h : Z K G Γ (wr G A h0 ws') (k + mc) (n + ms) lv (pc + 3) st) : Z K G Γ (wr G A h0 ws) k n lv pc st0 := fun C H locs ls hi hl => by
  have hF : ∀ q, va_A ws H.size q → A q := fun q hq => by
    rcases hq with ⟨j, e, hq⟩ | hq
    · exact hi.2.1.2 j _ hq
    · exact hw.2.2 q (Nat.le_trans hi.2.2.1 hq)
  exact va_callv (z_runS C hl (hM H.size) hy hv hlk ⟨rfl, hi.1, hi.2.1.weaken (fun _ _ _ _ => trivial), hw.1.2 _ _ _ (fun q _ h => hF q h) (wr_X hw H locs hi)⟩ hR hst hW hdg) hi.2.2 (fun q _ h => hF q h) hF (fun u t H1 locs1 ht hvm hp hb hz hk hS => by
    subst hp
    exact h C H1 locs1 ls ⟨ht ▸ hb.1, hb.2.weaken (fun _ q _ h => hF q.1 h), hS⟩ hl)
/-- a plan: which cells the callee gets, which stay, in what order they come back -/
def zplan (isC isR isN : List Nat) (n0 : Nat) : Bool := va_nd isC && va_nd isR && va_nd isN && isR.all (fun i => Nat.blt i n0) && isR.all (fun i => !isC.contains i)
theorem zplan_spec {isC isR isN : List Nat} {n0 : Nat} (h : zplan isC isR isN n0 = true) : va_nd isC = true ∧ va_nd isR = true ∧ va_nd isN = true ∧ (∀ i ∈ isR, i < n0) ∧ ∀ i ∈ isR, i ∉ isC := by
  simp only [zplan, Bool.and_eq_true] at h
  obtain ⟨⟨⟨⟨h1, h2⟩, h3⟩, h4⟩, h5⟩ := h
  refine ⟨h1, h2, h3, fun i hi => ?_, fun i hi hc => ?_⟩
  · have := List.all_eq_true.mp h4 i hi
    exact Nat.le_of_ble_eq_true this
  · have := List.all_eq_true.mp h5 i hi
    rw [Bool.not_eq_true'] at this
    have h6 : isC.contains i = true := List.contains_iff_mem.mpr hc
    rw [h6] at this
    cases this
theorem z_cwviD {X : zX} {v : Int32} {y : MethodName} {C0 : String} {b : ByteArray} {maxL index mc ms : Nat} {ret : Option FieldType} {rm : Room} {As : List Value} {st0 : List Value} (hw : wk X A h0)
    (hM : ∀ sz, Met Γ.1 y (.code y b maxL ret :: TS) rm (Pz G (.ref a :: As) (Fw G X wc sz)) (Qwi G (fun r w => r = v ∧ w = w1) (va_A wc sz)) mc ms (va_A wc sz)) (isC isR isN : List Nat) (n0 : Nat) (hz : zplan isC isR isN n0 = true) (hlen : ws.length = n0) (hC : isC.map (fun i => ws[i]?) = wc.map some) (hN : isN.map (fun i => (pick ws isR ++ w1)[i]?) = ws'.map some) (hy : zcal y b maxL ret As.length) (hv : Cond.instanceMethod y ∈ TS ∧ Cond.selects C0 y y ∈ TS) (hlk : Cond.methodLink K.2.2.1 index y ∈ TS) (hrec : ∀ H locs, wr G A h0 ws H locs → zrec G C0 a H) (hR : zroom rm K.2.2.2.2 maxL mc ms k n) (hst : st0 = As.reverse ++ .ref a :: st) (hW : st.length ≤ 4) (hdg : decode K.1 pc = .ok (.invokevirtual index, 3)) (h : Z K G Γ (wr G A h0 ws') (k + mc) (n + ms) lv (pc + 3) (.int v :: st)) : Z K G Γ (wr G A h0 ws) k n lv pc st0 := by
  obtain ⟨p1, p2, p3, p4, p5⟩ := zplan_spec hz
  subst hlen
  exact z_cwvi hw hM isC isR hC p1 p4 p2 p5 hy hv hlk hrec hR hst hW hdg (fun r w hp => by obtain ⟨h1, h2⟩ := hp; subst h1; subst h2; exact z_arr isN hN p3 h)
theorem z_cwvvD {X : zX} {y : MethodName} {C0 : String} {b : ByteArray} {maxL index mc ms : Nat} {ret : Option FieldType} {rm : Room} {As : List Value} {st0 : List Value} (hw : wk X A h0)
    (hM : ∀ sz, Met Γ.1 y (.code y b maxL ret :: TS) rm (Pz G (.ref a :: As) (Fw G X wc sz)) (Qwv G (fun w => w = w1) (va_A wc sz)) mc ms (va_A wc sz)) (isC isR isN : List Nat) (n0 : Nat) (hz : zplan isC isR isN n0 = true) (hlen : ws.length = n0) (hC : isC.map (fun i => ws[i]?) = wc.map some) (hN : isN.map (fun i => (pick ws isR ++ w1)[i]?) = ws'.map some) (hy : zcal y b maxL ret As.length) (hv : Cond.instanceMethod y ∈ TS ∧ Cond.selects C0 y y ∈ TS) (hlk : Cond.methodLink K.2.2.1 index y ∈ TS) (hrec : ∀ H locs, wr G A h0 ws H locs → zrec G C0 a H) (hR : zroom rm K.2.2.2.2 maxL mc ms k n) (hst : st0 = As.reverse ++ .ref a :: st) (hW : st.length ≤ 4) (hdg : decode K.1 pc = .ok (.invokevirtual index, 3)) (h : Z K G Γ (wr G A h0 ws') (k + mc) (n + ms) lv (pc + 3) st) : Z K G Γ (wr G A h0 ws) k n lv pc st0 := by
  obtain ⟨p1, p2, p3, p4, p5⟩ := zplan_spec hz
  subst hlen
  exact z_cwvv hw hM isC isR hC p1 p4 p2 p5 hy hv hlk hrec hR hst hW hdg (fun w hp => by subst hp; exact z_arr isN hN p3 h)
theorem z_cwsvD {X : zX} {y : MethodName} {b : ByteArray} {maxL index mc ms : Nat} {ret : Option FieldType} {rm : Room} {As : List Value} {st0 : List Value} (hw : wk X A h0)
    (hM : ∀ sz, Met Γ.1 y (.code y b maxL ret :: TS) rm (Pz G As (Fw G X wc sz)) (Qwv G (fun w => w = w1) (va_A wc sz)) mc ms (va_A wc sz)) (isC isR isN : List Nat) (n0 : Nat) (hz : zplan isC isR isN n0 = true) (hlen : ws.length = n0) (hC : isC.map (fun i => ws[i]?) = wc.map some) (hN : isN.map (fun i => (pick ws isR ++ w1)[i]?) = ws'.map some) (hy : zcal y b maxL ret As.length) (hv : Cond.static y ∈ TS) (hlk : Cond.methodLink K.2.2.1 index y ∈ TS) (hR : zroom rm K.2.2.2.2 maxL mc ms k n) (hst : st0 = As.reverse ++ st) (hW : st.length ≤ 4) (hdg : decode K.1 pc = .ok (.invokestatic index, 3)) (h : Z K G Γ (wr G A h0 ws') (k + mc) (n + ms) lv (pc + 3) st) : Z K G Γ (wr G A h0 ws) k n lv pc st0 := by
  obtain ⟨p1, p2, p3, p4, p5⟩ := zplan_spec hz
  subst hlen
  exact z_cwsv hw hM isC isR hC p1 p4 p2 p5 hy hv hlk hR hst hW hdg (fun w hp => by subst hp; exact z_arr isN hN p3 h)
end XKIT2
