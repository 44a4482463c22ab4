/-! more of the class's kit: cells that lie behind (T), a shelf among others, arraycopy, a reference that may be null -/
theorem ap_P {G : zG} {ws wc : va_W} {I : Heap → List Loc → Prop} (h1 : ∀ H locs, I H locs → va_P G.2.1 CL ws H) (h2 : ∀ H locs, I H locs → va_P G.2.1 CL wc H) : ∀ H locs, I H locs → va_P G.2.1 CL (ws ++ wc) H := fun H locs hi => (h1 H locs hi).app (h2 H locs hi)
theorem pick_of {ws R : va_W} {is : List Nat} (h : is.map (fun i => ws[i]?) = R.map some) : pick ws is = R := by
  have h1 : pick ws is = (is.map (fun i => ws[i]?)).filterMap id := by
    unfold pick
    rw [List.filterMap_map]
    rfl
  rw [h1, h, List.filterMap_map]
  exact List.filterMap_some
theorem rng_map (wc R : va_W) : (List.range wc.length).map (fun i => (wc ++ R)[i]?) = wc.map some := by
  apply List.ext_getElem?
  intro i
  rw [List.getElem?_map, List.getElem?_map]
  by_cases h : i < wc.length
  · rw [List.getElem?_range h, Option.map_some, List.getElem?_append_left h, List.getElem?_eq_getElem h, Option.map_some]
  · rw [List.getElem?_eq_none (by rw [List.length_range]; omega), List.getElem?_eq_none (by omega)]
    rfl
theorem rng_map2 (wc R : va_W) : (List.range' wc.length R.length).map (fun i => (wc ++ R)[i]?) = R.map some := by
  apply List.ext_getElem?
  intro i
  rw [List.getElem?_map, List.getElem?_map]
  by_cases h : i < R.length
  · rw [List.getElem?_range' h, Option.map_some, List.getElem?_append_right (by omega), List.getElem?_eq_getElem h, Option.map_some]
    rw [show wc.length + 1 * i - wc.length = i by omega, List.getElem?_eq_getElem h]
  · rw [List.getElem?_eq_none (by rw [List.length_range']; omega), List.getElem?_eq_none (by omega)]
    rfl
theorem nd_of {l : List Nat} (h : l.Nodup) : va_nd l = true := by
  induction l with
  | nil => rfl
  | cons a l ih =>
    rw [List.nodup_cons] at h
    simp only [va_nd, Bool.and_eq_true, decide_eq_true_eq]
    exact ⟨h.1, ih h.2⟩
theorem perm_pick {ws wc R : va_W} {isC isR : List Nat} {n0 : Nat} (hz : (isC ++ isR).isPerm (List.range n0) = true) (hlen : ws.length = n0) (hC : isC.map (fun i => ws[i]?) = wc.map some) (hR : isR.map (fun i => ws[i]?) = R.map some) : ws.Perm (wc ++ R) := by
  subst hlen
  have h1 := List.isPerm_iff.mp hz
  have h2 : ((isC ++ isR).map (fun i => ws[i]?)).Perm ((List.range ws.length).map (fun i => ws[i]?)) := h1.map _
  have h3 := rng_map ws []
  rw [List.append_nil] at h3
  rw [h3, List.map_append, hC, hR, ← List.map_append] at h2
  have h4 := h2.filterMap id
  rw [List.filterMap_map, List.filterMap_map] at h4
  have h5 : ∀ l : va_W, l.filterMap (id ∘ some) = l := fun l => List.filterMap_some
  rw [h5, h5] at h4
  exact h4.symm
theorem vin_lt {i : Int32} {n : Nat} (h : vp_in i n) : i.toNatClampNeg < n := Nat.not_le.mp fun q => h (Or.inr q)
section XKIT3
variable {K : zK} {G : zG} {P : pT} {Γ : zT} {I : Heap → List Loc → Prop} {k n : Nat} {lv lv' : List (Nat × Value)} {pc : Nat} {st : List Value} {A : Nat → Prop} {h0 : Heap} {ws wc w1 W0 W1 R0 T : va_W} {a : Nat}
theorem z_perm (hp : ws.Perm w1) (h : Z K G Γ (wr G A h0 w1) k n lv pc st) : Z K G Γ (wr G A h0 ws) k n lv pc st := z_inv h fun _ _ hi => wr_perm hp hi
/-- which cells the callee gets, which stay, in what order they come back; T stays behind -/
def zplanT (isC isR isN : List Nat) (n0 : Nat) : Bool := (isC ++ isR).isPerm (List.range n0) && isN.isPerm (List.range n0)
theorem zT_in {isC isR isN : List Nat} {n0 : Nat} (hz : zplanT isC isR isN n0 = true) (hlen : W0.length = n0) (hC : isC.map (fun i => W0[i]?) = wc.map some) (hR : isR.map (fun i => W0[i]?) = R0.map some) : (W0 ++ T).Perm (wc ++ (R0 ++ T)) := by
  simp only [zplanT, Bool.and_eq_true] at hz
  rw [← List.append_assoc]
  exact (perm_pick hz.1 hlen hC hR).append_right T
theorem zT_out {isC isR isN : List Nat} {n0 : Nat} (hz : zplanT isC isR isN n0 = true) (hlen : (R0 ++ w1).length = n0) (hN : isN.map (fun i => (R0 ++ w1)[i]?) = W1.map some) : ((R0 ++ T) ++ w1).Perm (W1 ++ T) := by
  simp only [zplanT, Bool.and_eq_true] at hz
  have h1 : (R0 ++ w1).Perm W1 := by
    have := perm_pick (isR := []) (R := []) (by rw [List.append_nil]; exact hz.2) hlen hN rfl
    rwa [List.append_nil] at this
  refine List.Perm.trans ?_ (h1.append_right T)
  rw [List.append_assoc, List.append_assoc]
  exact List.Perm.append_left R0 List.perm_append_comm
theorem zT_isR (wc R : va_W) : (∀ i ∈ List.range' wc.length R.length, i < (wc ++ R).length) ∧ va_nd (List.range' wc.length R.length) = true ∧ (∀ i ∈ List.range' wc.length R.length, i ∉ List.range wc.length) ∧ va_nd (List.range wc.length) = true := by
  refine ⟨fun i hi => ?_, nd_of List.nodup_range', fun i hi hc => ?_, nd_of List.nodup_range⟩
  · rw [List.length_append]
    have := List.mem_range'_1.mp hi
    omega
  · have h1 := List.mem_range'_1.mp hi
    have h2 := List.mem_range.mp hc
    omega
theorem z_ctviD {X : zX} {v : Int32} {y : MethodName} {C0 : String} {b : ByteArray} {maxL index mc ms : Nat} {ret : Option FieldType} {rm : Room} {As : List Value} {st0 : List Value} (hw : wk X A h0)
    (hM : ∀ sz, Met Γ.1 y (.code y b maxL ret :: TS) rm (Pz G (.ref a :: As) (Fw G X wc sz)) (Qwi G (fun r w => r = v ∧ w = w1) (va_A wc sz)) mc ms (va_A wc sz)) (isC isR isN : List Nat) (n0 : Nat) (hz : zplanT isC isR isN n0 = true) (hlen : W0.length = n0) (hC : isC.map (fun i => W0[i]?) = wc.map some) (hR0 : isR.map (fun i => W0[i]?) = R0.map some) (hlen1 : (R0 ++ w1).length = n0) (hN : isN.map (fun i => (R0 ++ w1)[i]?) = W1.map some) (hy : zcal y b maxL ret As.length) (hv : Cond.instanceMethod y ∈ TS ∧ Cond.selects C0 y y ∈ TS) (hlk : Cond.methodLink K.2.2.1 index y ∈ TS) (hrec : ∀ H locs, wr G A h0 (W0 ++ T) H locs → zrec G C0 a H) (hR : zroom rm K.2.2.2.2 maxL mc ms k n) (hst : st0 = As.reverse ++ .ref a :: st) (hW : st.length ≤ 4) (hdg : decode K.1 pc = .ok (.invokevirtual index, 3)) (h : Z K G Γ (wr G A h0 (W1 ++ T)) (k + mc) (n + ms) lv (pc + 3) (.int v :: st)) : Z K G Γ (wr G A h0 (W0 ++ T)) k n lv pc st0 := by
  obtain ⟨q1, q2, q3, q4⟩ := zT_isR wc (R0 ++ T)
  have hp := zT_in (T := T) hz hlen hC hR0
  refine z_perm hp (z_cwvi hw hM (List.range wc.length) (List.range' wc.length (R0 ++ T).length) (rng_map _ _) q4 q1 q2 q3 hy hv hlk (fun H locs hi => hrec H locs (wr_perm hp.symm hi)) hR hst hW hdg (fun r w hp2 => ?_))
  obtain ⟨e1, e2⟩ := hp2
  subst e1; subst e2
  rw [pick_of (rng_map2 _ _)]
  exact z_perm (zT_out hz hlen1 hN) h
theorem z_ctvvD {X : zX} {y : MethodName} {C0 : String} {b : ByteArray} {maxL index mc ms : Nat} {ret : Option FieldType} {rm : Room} {As : List Value} {st0 : List Value} (hw : wk X A h0)
    (hM : ∀ sz, Met Γ.1 y (.code y b maxL ret :: TS) rm (Pz G (.ref a :: As) (Fw G X wc sz)) (Qwv G (fun w => w = w1) (va_A wc sz)) mc ms (va_A wc sz)) (isC isR isN : List Nat) (n0 : Nat) (hz : zplanT isC isR isN n0 = true) (hlen : W0.length = n0) (hC : isC.map (fun i => W0[i]?) = wc.map some) (hR0 : isR.map (fun i => W0[i]?) = R0.map some) (hlen1 : (R0 ++ w1).length = n0) (hN : isN.map (fun i => (R0 ++ w1)[i]?) = W1.map some) (hy : zcal y b maxL ret As.length) (hv : Cond.instanceMethod y ∈ TS ∧ Cond.selects C0 y y ∈ TS) (hlk : Cond.methodLink K.2.2.1 index y ∈ TS) (hrec : ∀ H locs, wr G A h0 (W0 ++ T) H locs → zrec G C0 a H) (hR : zroom rm K.2.2.2.2 maxL mc ms k n) (hst : st0 = As.reverse ++ .ref a :: st) (hW : st.length ≤ 4) (hdg : decode K.1 pc = .ok (.invokevirtual index, 3)) (h : Z K G Γ (wr G A h0 (W1 ++ T)) (k + mc) (n + ms) lv (pc + 3) st) : Z K G Γ (wr G A h0 (W0 ++ T)) k n lv pc st0 := by
  obtain ⟨q1, q2, q3, q4⟩ := zT_isR wc (R0 ++ T)
  have hp := zT_in (T := T) hz hlen hC hR0
  refine z_perm hp (z_cwvv hw hM (List.range wc.length) (List.range' wc.length (R0 ++ T).length) (rng_map _ _) q4 q1 q2 q3 hy hv hlk (fun H locs hi => hrec H locs (wr_perm hp.symm hi)) hR hst hW hdg (fun w hp2 => ?_))
  subst hp2
  rw [pick_of (rng_map2 _ _)]
  exact z_perm (zT_out hz hlen1 hN) h
theorem z_aload_nQ {i : Fin 4} {x : Option Nat} (hdg : decode K.1 pc = .ok (.aload_n i, 1)) (hi : zl lv (i : Nat) = some (va_rf x)) (h : Z K G Γ I k n lv (pc + 1) (va_rf x :: st)) : Z K G Γ I k n lv pc st := by
  cases x with
  | none => exact z_aload_nN hdg hi h
  | some q => exact z_aload_n hdg hi h
theorem z_aloadQ {i : Nat} {x : Option Nat} (hdg : decode K.1 pc = .ok (.aload i, 2)) (hi : zl lv i = some (va_rf x)) (h : Z K G Γ I k n lv (pc + 2) (va_rf x :: st)) : Z K G Γ I k n lv pc st := by
  cases x with
  | none => exact z_aloadN hdg hi h
  | some q => exact z_aload hdg hi h
theorem z_cvi8 {y : MethodName} {C0 : String} {b : ByteArray} {maxL index : Nat} {ret : Option FieldType} {rm : Room} {As : List Value} {F : Heap → Prop} {v : Int32} {st0 : List Value}
    (hM : Met Γ.1 y (.code y b maxL ret :: TS) rm (Pz G (.ref a :: As) F) (vp_Si (fun r => r = v)) 0 0 (fun _ => False)) (hy : zcal y b maxL ret As.length) (hv : Cond.instanceMethod y ∈ TS ∧ Cond.selects C0 y y ∈ TS) (hlk : Cond.methodLink K.2.2.1 index y ∈ TS) (hrec : ∀ H locs, I H locs → zrec G C0 a H) (hF : ∀ H locs, I H locs → F H) (hR : zroom rm K.2.2.2.2 maxL 0 0 k n) (hst : st0 = As.reverse ++ .ref a :: st) (hW : (st.map fun v => v.category).sum ≤ 8) (hdg : decode K.1 pc = .ok (.invokevirtual index, 3)) (h : Z K G Γ I k n lv (pc + 3) (.int v :: st)) : Z K G Γ I k n lv pc st0 := fun C H locs ls hi hl => by
  have C0' := C
  obtain ⟨hx, hb, hml, ho, hts, hlo, hre, hG⟩ := C
  exact vp_callSi (run_of_va (va_runV (n := As.length) ⟨hx, hb, hml, ho, hts⟩ hM ⟨callB_of As.length hts (zcal_good hy) rfl hR.1 hR.2.1 (hts _ hy.2.1) (hts _ hlk) ⟨hy.2.2.1.1, hy.2.2.1.2, hy.2.2.2⟩ hR.2.2.1, hts _ hv.1, hts _ hv.2⟩ ⟨Pz_blind, zrec_cell hG.2.1 (hrec H locs hi), fun U hU hW => ⟨rfl, hG.warm hW, by rw [hU]; exact hF H locs hi⟩⟩ rfl rfl hl.1 hst (lv_room hW) hdg hR.2.2.2)) (fun r hr => hr ▸ h C0' H locs ls hi hl)
/-- System.arraycopy between two shelves' rows -/
theorem z_copyl {b : Nat} {n1 n2 : Nat} {f g F : Nat → Int64} {index : Nat} {sp dp m : Int32} {ws' : va_W} (hlink : Cond.methodLink K.2.2.1 index arraycopyName ∈ TS) (hnat : Cond.native arraycopyName ∈ TS) (hstat : Cond.static arraycopyName ∈ TS) (hini : Cond.initialized "java/lang/System" ∈ TS) (q0 q1 : Nat) (ha0 : ws[q0]? = some (b, .inl (G.2.2.1 1, n1, .inr (.inl f)))) (ha1 : ws[q1]? = some (a, .inl (G.2.2.1 1, n2, .inr (.inl g)))) (h1 : ¬ sp < 0) (h2 : ¬ dp < 0) (h3 : ¬ m < 0) (h4 : sp.toNatClampNeg + m.toNatClampNeg ≤ n1) (h5 : dp.toNatClampNeg + m.toNatClampNeg ≤ n2) (hF : va_cpy f g sp.toNatClampNeg dp.toNatClampNeg m.toNatClampNeg = F) (hs : ws.set q1 (a, .inl (G.2.2.1 1, n2, .inr (.inl F))) = ws')
    (hR : 1 ≤ K.2.2.2.2.frames ∧ (st.map fun v => v.category).sum + (nativeFrameWords "java/lang/System" "arraycopy" 5 + 11) ≤ K.2.2.2.2.locals) (hdg : decode K.1 pc = .ok (.invokestatic index, 3)) (h : Z K G Γ (wr G A h0 ws') k n lv (pc + 3) st) : Z K G Γ (wr G A h0 ws) k n lv pc (.int m :: .int dp :: .ref a :: .int sp :: .ref b :: st) := fun C H locs ls hi hl => by
  subst hF
  exact va_copyl C.1 C.2.1 (C.2.2.1.trans hl.1.symm) C.2.2.2.1 (C.2.2.2.2.1 _ hlink) (C.2.2.2.2.1 _ hnat) (C.2.2.2.2.1 _ hstat) (C.2.2.2.2.1 _ hini) C.2.2.2.2.2.2.2.2.1 hi.1 hi.2.1 hi.2.2 q0 q1 1 1 ha0 ha1 rfl rfl rfl h1 h2 h3 h4 h5 (fun _ _ => rfl) hR.1 hR.2 hdg (fun H1 locs1 hP hD hS => h C H1 locs1 ls ⟨hs ▸ hP, hs ▸ hD, hS⟩ hl)
end XKIT3
theorem fam_at {G : zG} {a : Nat → Nat} {F : fT} {s : Nat} (hs : s < 8) (X : va_W) : (X ++ faW G a F)[X.length + (2 * s + 1)]? = some (sh a (30 + 2 * s) 1, .inl (G.2.2.1 1, 160, .inr (.inl (F s).2))) := by
  rw [List.getElem?_append_right (by omega), show X.length + (2 * s + 1) - X.length = 2 * s + 1 by omega]
  exact faW_mem hs 1 _ rfl
theorem fam_set {G : zG} {a : Nat → Nat} {F : fT} {s : Nat} (hs : s < 8) (X : va_W) (f : Nat → Int64) : (X ++ faW G a F).set (X.length + (2 * s + 1)) (sh a (30 + 2 * s) 1, .inl (G.2.2.1 1, 160, .inr (.inl f))) = X ++ faW G a (va_up F s (ssa (F s) f)) := by
  rw [List.set_append_right _ _ (by omega), show X.length + (2 * s + 1) - X.length = 2 * s + 1 by omega]
  congr 1
  rcases (show s = 0 ∨ s = 1 ∨ s = 2 ∨ s = 3 ∨ s = 4 ∨ s = 5 ∨ s = 6 ∨ s = 7 by omega) with rfl | rfl | rfl | rfl | rfl | rfl | rfl | rfl <;> rfl
theorem z_in0 {K : zK} {G : zG} {Γ : zT} {k n : Nat} {lv : List (Nat × Value)} {pc : Nat} {st : List Value} {A : Nat → Prop} {h0 : Heap} {X : va_W} {a : Nat → Nat} {F : fT} {s : Nat} (hs : s < 8) (h : Z K G Γ (wr G A h0 (X ++ faW G a F)) k n lv pc st) : Z K G Γ (wr G A h0 ((X ++ shW G (sh a (30 + 2 * s)) (F s)) ++ faR G a F s)) k n lv pc st := z_inv h fun _ _ hi => wr_perm (fam_perm (G := G) (a := a) (F := F) hs X).symm hi
