/-! the reader's world; methods that make comers: their answer is told by a relation, the new comers come behind -/
abbrev e2T : Type := (Nat → Int32) × (Nat → Int32)
def e2f (E : e2T) (j : Nat) (v : Int32) : e2T := (va_up E.1 j v, E.2)
def e2a (E : e2T) (f : Nat → Int32) : e2T := (E.1, f)
def re2F (a : Nat → Nat) (q : Nat) (E : e2T) : List Value := [.ref (a 1), .int (E.1 1), .int (E.1 2), .ref q, .int (E.1 4), .int (E.1 5), .int (E.1 6)]
def re2W (G : zG) (a : Nat → Nat) (q : Nat) (E : e2T) : va_W := [(a 0, .inr (3, re2F a q E)), (a 1, .inl (G.2.2.1 0, 6, .inl E.2))]
abbrev LL : Type := List (Nat × (Nat → Int32))
def cmL (L : LL) : va_W := L.map (fun e => (e.1, .inr (0, cmF e.2)))
theorem cmL_app (L1 L2 : LL) : cmL (L1 ++ L2) = cmL L1 ++ cmL L2 := List.map_append
theorem gt_t {T : Type} {G0 : T → Prop} {c : Prop} [Decidable c] {A B : T → Prop} (h : ∀ r, (if c then A r else B r) → G0 r) (hc : c) : ∀ r, A r → G0 r := fun r ha => h r (by rw [if_pos hc]; exact ha)
theorem gt_f {T : Type} {G0 : T → Prop} {c : Prop} [Decidable c] {A B : T → Prop} (h : ∀ r, (if c then A r else B r) → G0 r) (hc : ¬ c) : ∀ r, B r → G0 r := fun r ha => h r (by rw [if_neg hc]; exact ha)
theorem gk_q {T α : Type} {G0 : T → Prop} {e q : α} {f : T → α → Prop} (h : ∀ r, kk e (f r) → G0 r) (hq : q = e) : ∀ r, f r q → G0 r := by subst hq; exact h
theorem go_q {T α : Type} {G0 : T → Prop} {e q : Option α} {b : T → Prop} {f : T → α → Prop} (h : ∀ r, oc e (b r) (f r) → G0 r) (hq : q = e) : ∀ r, oc q (b r) (f r) → G0 r := by subst hq; exact h
theorem go_n {T α : Type} {G0 : T → Prop} {b : T → Prop} {f : T → α → Prop} (h : ∀ r, oc none (b r) (f r) → G0 r) : ∀ r, b r → G0 r := h
theorem go_s {T α : Type} {G0 : T → Prop} {b : T → Prop} {f : T → α → Prop} {a : α} (h : ∀ r, oc (some a) (b r) (f r) → G0 r) : ∀ r, f r a → G0 r := h
theorem ge_q {T α : Type} {G0 : T → Prop} {g : α → Prop} {f : T → α → Prop} {q : α} (h : ∀ r, (∃ q, g q ∧ f r q) → G0 r) (hq : g q) : ∀ r, f r q → G0 r := fun r hr => h r ⟨q, hq, hr⟩
section RDKIT
variable {K : zK} {G : zG} {P : pT} {Γ : zT} {I : Heap → List Loc → Prop} {k n : Nat} {lv lv' : List (Nat × Value)} {pc : Nat} {st : List Value} {A : Nat → Prop} {h0 : Heap} {ws ws' wc W0 W1 R0 T : va_W} {a : Nat}
theorem z_nil (h : Z K G Γ (wr G A h0 (ws ++ cmL [])) k n lv pc st) : Z K G Γ (wr G A h0 ws) k n lv pc st := z_eqw (List.append_nil ws).symm h
theorem z_nil' (h : Z K G Γ (wr G A h0 ws) k n lv pc st) : Z K G Γ (wr G A h0 (ws ++ cmL [])) k n lv pc st := z_eqw (List.append_nil ws) h
/-- a new object -/
theorem z_new {ci index N : Nat} {C : String} {T0 : u_T} {fs : List Value} (hw : wk (gX G P) A h0) (hc : CL[ci]? = some (C, T0, N)) (hin : ∀ w ∈ u_ws C T0 N, w ∈ TS) (ty : Nat → FieldType) (hty : ∀ k, k < N → parseFieldDescriptor (T0 k).2.2.1 = some (ty k)) (hcl : Cond.classLink K.2.2.1 index C ∈ TS) (hinst : Cond.instantiable C N ∈ TS) (hini : Cond.initialized C ∈ TS) (hfs : ∀ j, j < N → defaultValue (ty j) = vp_V fs j) (hcells : k + 1 ≤ K.2.2.2.2.cells) (hslots : n + N ≤ K.2.2.2.2.slots) (hdg : decode K.1 pc = .ok (.new index, 3))
    (h : ∀ q : Nat, Z K G Γ (wr G A h0 (ws ++ [(q, .inr (ci, fs))])) (k + 1) (n + N) lv (pc + 3) (.ref q :: st)) : Z K G Γ (wr G A h0 ws) k n lv pc st := fun C' H locs ls hi hl =>
  va_new C'.1 C'.2.1 C'.2.2.2.2.1 hin ty hty C'.2.2.2.1 (C'.2.2.2.2.1 _ hcl) (C'.2.2.2.2.1 _ hinst) (C'.2.2.2.2.1 _ hini) C'.2.2.2.2.2.2.2.2.1 hi.1 hi.2.1 hi.2.2 hw.2.2 hc hfs hcells hslots hdg (fun q H1 hP hD hS => h q C' H1 locs ls ⟨hP, hD, hS⟩ hl)
/-- a constructor's call -/
theorem z_runI {y : MethodName} {q : Nat} {b : ByteArray} {maxL mc ms index : Nat} {rm : Room} {As : List Value} {F : Heap → Prop} {Qc : Array Value → State → Outcome → State → Prop} {free : Addr → Prop} {ls : Array Slot} {H : Heap} {locs : List Loc} {st0 : List Value} (C : zC K G Γ) (hl : lv_has ls K.2.1 lv)
    (hM : Met Γ.1 y (.code y b maxL none :: TS) rm (Pz G (.ref q :: As) F) Qc mc ms free) (hy : zcal y b maxL none As.length) (hv : y.name = "<init>" ∧ Cond.instanceMethod y ∈ TS) (hlk : Cond.methodLink K.2.2.1 index y ∈ TS) (hF : F H) (hR : zroom rm K.2.2.2.2 maxL mc ms k n) (hst : st0 = As.reverse ++ .ref q :: st) (hW : st.length ≤ 4) (hdg : decode K.1 pc = .ok (.invokespecial index, 3)) :
    va_Run Γ.2.1.1 Γ.1 Γ.2.1.2 K.2.2.2.2 Γ.2.2.1.1 Γ.2.2.1.2.1 Γ.2.2.1.2.2 Γ.2.2.2.1.1 Γ.2.2.2.1.2.1 Γ.2.2.2.1.2.2 H locs k n mc ms (F0 Γ.2.2.1.2.1 pc ls st0) st (Qc (Value.ref q :: As).toArray) free := by
  obtain ⟨hx, hb, hml, ho, hts, hlo, hre, hG⟩ := C
  refine va_runI (n := As.length) ⟨hx, hb, hml, ho, hts⟩ hM ⟨callB_of As.length hts (zcal_good hy) rfl hR.1 hR.2.1 (hts _ hy.2.1) (hts _ hlk) ⟨hy.2.2.1.1, hy.2.2.1.2, hy.2.2.2⟩ hR.2.2.1, hv.1, hts _ hv.2⟩ ⟨Pz_blind, fun U hU hW => ⟨rfl, hG.warm hW, by rw [hU]; exact hF⟩⟩ rfl rfl hl.1 hst (lv_room (zcat hW)) hdg hR.2.2.2
theorem z_runIN {y : MethodName} {host : String} {q : Nat} {b : ByteArray} {maxL mc ms index : Nat} {rm : Room} {As : List Value} {F : Heap → Prop} {Qc : Array Value → State → Outcome → State → Prop} {free : Addr → Prop} {ls : Array Slot} {H : Heap} {locs : List Loc} {st0 : List Value} (C : zC K G Γ) (hl : lv_has ls K.2.1 lv)
    (hM : Met Γ.1 y (.code y b maxL none :: TS) rm (Pz G (.ref q :: As) F) Qc mc ms free) (hy : zcal y b maxL none As.length) (hv : y.name = "<init>" ∧ Cond.instanceMethod y ∈ TS) (hlk : (K.2.2.1, index, y, host) ∈ NWs) (hF : F H) (hR : zroom rm K.2.2.2.2 maxL mc ms k n) (hst : st0 = As.reverse ++ .ref q :: st) (hW : st.length ≤ 4) (hdg : decode K.1 pc = .ok (.invokespecial index, 3)) :
    va_Run Γ.2.1.1 Γ.1 Γ.2.1.2 K.2.2.2.2 Γ.2.2.1.1 Γ.2.2.1.2.1 Γ.2.2.1.2.2 Γ.2.2.2.1.1 Γ.2.2.2.1.2.1 Γ.2.2.2.1.2.2 H locs k n mc ms (F0 Γ.2.2.1.2.1 pc ls st0) st (Qc (Value.ref q :: As).toArray) free := by
  obtain ⟨hx, hb, hml, ho, hts, hlo, hre, hG⟩ := C
  refine va_runIN (n := As.length) ⟨hx, hb, hml, ho, hts⟩ hM ⟨va_cnB As.length hts (zcal_good hy) rfl hR.1 hR.2.1 (hG.2.2.2.1 _ hlk) (hts _ hy.2.1) ⟨hy.2.2.1.1, hy.2.2.1.2, hy.2.2.2⟩ hR.2.2.1, hv.1, hts _ hv.2⟩ ⟨Pz_blind, fun U hU hW => ⟨rfl, hG.warm hW, by rw [hU]; exact hF⟩⟩ rfl rfl hl.1 hst (lv_room (zcat hW)) hdg hR.2.2.2
/-- who makes comers, called by a method: what is told of them comes as a relation, they come behind -/
theorem z_ctviR {X : zX} {α : Type} {g : α → Prop} {nb : α → Prop} {fr : α → Int32} {fw : α → va_W} {fl : α → LL} {y : MethodName} {C0 : String} {b : ByteArray} {maxL index mc ms : Nat} {ret : Option FieldType} {rm : Room} {As : List Value} {st0 : List Value} {W1 : α → va_W} (hw : wk X A h0)
    (hM : ∀ sz, Met Γ.1 y (.code y b maxL ret :: TS) rm (Pz G (.ref a :: As) (Fw G X wc sz)) (Qwi G (fun r w => ∃ res : α, g res ∧ r = fr res ∧ nb res ∧ w = fw res ++ cmL (fl res)) (va_A wc sz)) mc ms (va_A wc sz)) (isC isR isN : List Nat) (n0 : Nat) (hz : zplanT isC isR isN n0 = true) (hlen : W0.length = n0) (hC : isC.map (fun i => W0[i]?) = wc.map some) (hR0 : isR.map (fun i => W0[i]?) = R0.map some) (hlen1 : ∀ res, (R0 ++ fw res).length = n0) (hN : ∀ res, isN.map (fun i => (R0 ++ fw res)[i]?) = (W1 res).map some) (hy : zcal y b maxL ret As.length) (hv : Cond.instanceMethod y ∈ TS ∧ Cond.selects C0 y y ∈ TS) (hlk : Cond.methodLink K.2.2.1 index y ∈ TS) (hrec : ∀ H locs, wr G A h0 (W0 ++ T) H locs → zrec G C0 a H) (hR : zroom rm K.2.2.2.2 maxL mc ms k n) (hst : st0 = As.reverse ++ .ref a :: st) (hW : st.length ≤ 4) (hdg : decode K.1 pc = .ok (.invokevirtual index, 3)) (h : ∀ res, g res → nb res → Z K G Γ (wr G A h0 (W1 res ++ (T ++ cmL (fl res)))) (k + mc) (n + ms) lv (pc + 3) (.int (fr res) :: st)) : Z K G Γ (wr G A h0 (W0 ++ T)) k n lv pc st0 := by
  obtain ⟨q1, q2, q3, q4⟩ := zT_isR wc (R0 ++ T)
  have hp := zT_in (T := T) hz hlen hC hR0
  refine z_perm hp (z_cwvi hw hM (List.range wc.length) (List.range' wc.length (R0 ++ T).length) (rng_map _ _) q4 q1 q2 q3 hy hv hlk (fun H locs hi => hrec H locs (wr_perm hp.symm hi)) hR hst hW hdg (fun r w hp2 => ?_))
  obtain ⟨res, e0, e1, e2, e3⟩ := hp2
  subst e1; subst e3
  rw [pick_of (rng_map2 _ _)]
  refine z_perm ?_ (h res e0 e2)
  have := (zT_out (T := T) hz (hlen1 res) (hN res)).append_right (cmL (fl res))
  rwa [List.append_assoc, List.append_assoc (W1 res)] at this
theorem z_ctvvR {X : zX} {α : Type} {g : α → Prop} {fw : α → va_W} {fl : α → LL} {y : MethodName} {C0 : String} {b : ByteArray} {maxL index mc ms : Nat} {ret : Option FieldType} {rm : Room} {As : List Value} {st0 : List Value} {W1 : α → va_W} (hw : wk X A h0)
    (hM : ∀ sz, Met Γ.1 y (.code y b maxL ret :: TS) rm (Pz G (.ref a :: As) (Fw G X wc sz)) (Qwv G (fun w => ∃ res : α, g res ∧ w = fw res ++ cmL (fl res)) (va_A wc sz)) mc ms (va_A wc sz)) (isC isR isN : List Nat) (n0 : Nat) (hz : zplanT isC isR isN n0 = true) (hlen : W0.length = n0) (hC : isC.map (fun i => W0[i]?) = wc.map some) (hR0 : isR.map (fun i => W0[i]?) = R0.map some) (hlen1 : ∀ res, (R0 ++ fw res).length = n0) (hN : ∀ res, isN.map (fun i => (R0 ++ fw res)[i]?) = (W1 res).map some) (hy : zcal y b maxL ret As.length) (hv : Cond.instanceMethod y ∈ TS ∧ Cond.selects C0 y y ∈ TS) (hlk : Cond.methodLink K.2.2.1 index y ∈ TS) (hrec : ∀ H locs, wr G A h0 (W0 ++ T) H locs → zrec G C0 a H) (hR : zroom rm K.2.2.2.2 maxL mc ms k n) (hst : st0 = As.reverse ++ .ref a :: st) (hW : st.length ≤ 4) (hdg : decode K.1 pc = .ok (.invokevirtual index, 3)) (h : ∀ res, g res → Z K G Γ (wr G A h0 (W1 res ++ (T ++ cmL (fl res)))) (k + mc) (n + ms) lv (pc + 3) st) : Z K G Γ (wr G A h0 (W0 ++ T)) k n lv pc st0 := by
  obtain ⟨q1, q2, q3, q4⟩ := zT_isR wc (R0 ++ T)
  have hp := zT_in (T := T) hz hlen hC hR0
  refine z_perm hp (z_cwvv hw hM (List.range wc.length) (List.range' wc.length (R0 ++ T).length) (rng_map _ _) q4 q1 q2 q3 hy hv hlk (fun H locs hi => hrec H locs (wr_perm hp.symm hi)) hR hst hW hdg (fun w hp2 => ?_))
  obtain ⟨res, e0, e3⟩ := hp2
  subst e3
  rw [pick_of (rng_map2 _ _)]
  refine z_perm ?_ (h res e0)
  have := (zT_out (T := T) hz (hlen1 res) (hN res)).append_right (cmL (fl res))
  rwa [List.append_assoc, List.append_assoc (W1 res)] at this
theorem z_newT {ci index N : Nat} {C : String} {T0 : u_T} {fs : List Value} (hw : wk (gX G P) A h0) (hc : CL[ci]? = some (C, T0, N)) (hin : ∀ w ∈ u_ws C T0 N, w ∈ TS) (ty : Nat → FieldType) (hty : ∀ k, k < N → parseFieldDescriptor (T0 k).2.2.1 = some (ty k)) (hcl : Cond.classLink K.2.2.1 index C ∈ TS) (hinst : Cond.instantiable C N ∈ TS) (hini : Cond.initialized C ∈ TS) (hfs : ∀ j, j < N → defaultValue (ty j) = vp_V fs j) (hcells : k + 1 ≤ K.2.2.2.2.cells) (hslots : n + N ≤ K.2.2.2.2.slots) (hdg : decode K.1 pc = .ok (.new index, 3))
    (h : ∀ q : Nat, (fun _ : Nat => True) q → Z K G Γ (wr G A h0 (ws ++ [(q, .inr (ci, fs))])) (k + 1) (n + N) lv (pc + 3) (.ref q :: st)) : Z K G Γ (wr G A h0 ws) k n lv pc st := z_new hw hc hin ty hty hcl hinst hini hfs hcells hslots hdg (fun q => h q trivial)
theorem z_csq {y : MethodName} {b : ByteArray} {maxL index : Nat} {ret : Option FieldType} {rm : Room} {As : List Value} {F : Heap → Prop} {v : Option Nat} {st0 : List Value}
    (hM : Met Γ.1 y (.code y b maxL ret :: TS) rm (Pz G As F) (va_Sq (fun r => r = v)) 0 0 (fun _ => False)) (hy : zcal y b maxL ret As.length) (hv : Cond.static y ∈ TS) (hlk : Cond.methodLink K.2.2.1 index y ∈ TS) (hF : ∀ H locs, I H locs → F H) (hR : zroom rm K.2.2.2.2 maxL 0 0 k n) (hst : st0 = As.reverse ++ st) (hW : st.length ≤ 4) (hdg : decode K.1 pc = .ok (.invokestatic index, 3)) (h : Z K G Γ I k n lv (pc + 3) (va_rf v :: st)) : Z K G Γ I k n lv pc st0 := fun C H locs ls hi hl =>
  va_csq (run_of_va (z_runS C hl hM hy hv hlk (hF H locs hi) hR hst hW hdg)) (fun r hr => hr ▸ h C H locs ls hi hl)
theorem z_objinit {index : Nat} (hlink : Cond.methodLink K.2.2.1 index objectInit ∈ TS) (hinst : Cond.instanceMethod objectInit ∈ TS) (hcode : Cond.code objectInit ⟨#[0xb1]⟩ 1 none ∈ TS) (hR : 1 ≤ K.2.2.2.2.frames ∧ (st.map fun v => v.category).sum + 12 ≤ K.2.2.2.2.locals) (hdg : decode K.1 pc = .ok (.invokespecial index, 3)) (h : Z K G Γ I k n lv (pc + 3) st) : Z K G Γ I k n lv pc (.ref a :: st) := fun C H locs ls hi hl =>
  W.objInit C.1 C.2.1 C.2.2.2.1 (C.2.2.2.2.1 _ hlink) (C.2.2.2.2.1 _ hinst) (C.2.2.2.2.1 _ hcode) rfl (hl.1.trans C.2.2.1.symm) rfl hdg hR.1 (by show 2 * 0 + _ + 12 ≤ _; omega) (h C H locs ls hi hl)
theorem z_cwIv {X : zX} {post : va_W → Prop} {y : MethodName} {b : ByteArray} {maxL index mc ms : Nat} {rm : Room} {As : List Value} {st0 : List Value} (hw : wk X A h0)
    (hM : ∀ sz, Met Γ.1 y (.code y b maxL none :: TS) rm (Pz G (.ref a :: As) (Fw G X wc sz)) (Qwv G post (va_A wc sz)) mc ms (va_A wc sz)) (isC isR : List Nat) (hC : isC.map (fun i => ws[i]?) = wc.map some) (hnC : va_nd isC = true) (hlt : ∀ i ∈ isR, i < ws.length) (hnR : va_nd isR = true) (hdis : ∀ i ∈ isR, i ∉ isC) (hy : zcal y b maxL none As.length) (hv : y.name = "<init>" ∧ Cond.instanceMethod y ∈ TS) (hlk : Cond.methodLink K.2.2.1 index y ∈ TS) (hR : zroom rm K.2.2.2.2 maxL mc ms k n) (hst : st0 = As.reverse ++ .ref a :: st) (hW : st.length ≤ 4) (hdg : decode K.1 pc = .ok (.invokespecial index, 3)) (h : ∀ (w1 : va_W), post w1 → Z K G Γ (wr G A h0 (pick ws isR ++ w1)) (k + mc) (n + ms) lv (pc + 3) st) : Z K G Γ (wr G A h0 ws) k n lv pc st0 := fun C H locs ls hi hl => by
  obtain ⟨hpre, hF⟩ := z_pre hw hi isC hC hnC
  exact va_callv (z_runI C hl (hM H.size) hy hv hlk hpre hR hst hW hdg) hi.2.2 (fun q _ h => hF q h) hF (fun u t H1 locs1 ht hvm hp hb hz hk hS => h u hp C H1 locs1 ls (z_join (locs := locs) hi isC isR hC hlt hnR hdis hF hk (ht ▸ hb.1) hb.2 hS) hl)
theorem z_cwIvN {X : zX} {post : va_W → Prop} {y : MethodName} {host : String} {b : ByteArray} {maxL index mc ms : Nat} {rm : Room} {As : List Value} {st0 : List Value} (hw : wk X A h0)
    (hM : ∀ sz, Met Γ.1 y (.code y b maxL none :: TS) rm (Pz G (.ref a :: As) (Fw G X wc sz)) (Qwv G post (va_A wc sz)) mc ms (va_A wc sz)) (isC isR : List Nat) (hC : isC.map (fun i => ws[i]?) = wc.map some) (hnC : va_nd isC = true) (hlt : ∀ i ∈ isR, i < ws.length) (hnR : va_nd isR = true) (hdis : ∀ i ∈ isR, i ∉ isC) (hy : zcal y b maxL none As.length) (hv : y.name = "<init>" ∧ Cond.instanceMethod y ∈ TS) (hlk : (K.2.2.1, index, y, host) ∈ NWs) (hR : zroom rm K.2.2.2.2 maxL mc ms k n) (hst : st0 = As.reverse ++ .ref a :: st) (hW : st.length ≤ 4) (hdg : decode K.1 pc = .ok (.invokespecial index, 3)) (h : ∀ (w1 : va_W), post w1 → Z K G Γ (wr G A h0 (pick ws isR ++ w1)) (k + mc) (n + ms) lv (pc + 3) st) : Z K G Γ (wr G A h0 ws) k n lv pc st0 := fun C H locs ls hi hl => by
  obtain ⟨hpre, hF⟩ := z_pre hw hi isC hC hnC
  exact va_callv (z_runIN C hl (hM H.size) hy hv hlk hpre hR hst hW hdg) hi.2.2 (fun q _ h => hF q h) hF (fun u t H1 locs1 ht hvm hp hb hz hk hS => h u hp C H1 locs1 ls (z_join (locs := locs) hi isC isR hC hlt hnR hdis hF hk (ht ▸ hb.1) hb.2 hS) hl)
/-- the constructor of the cells that came last -/
theorem z_cinit {X : zX} {post : va_W → Prop} {y : MethodName} {b : ByteArray} {maxL index mc ms : Nat} {rm : Room} {As : List Value} {st0 : List Value} (hw : wk X A h0)
    (hM : ∀ sz, Met Γ.1 y (.code y b maxL none :: TS) rm (Pz G (.ref a :: As) (Fw G X wc sz)) (Qwv G post (va_A wc sz)) mc ms (va_A wc sz)) (hy : zcal y b maxL none As.length) (hv : y.name = "<init>" ∧ Cond.instanceMethod y ∈ TS) (hlk : Cond.methodLink K.2.2.1 index y ∈ TS) (hR : zroom rm K.2.2.2.2 maxL mc ms k n) (hst : st0 = As.reverse ++ .ref a :: st) (hW : st.length ≤ 4) (hdg : decode K.1 pc = .ok (.invokespecial index, 3)) (h : ∀ (w1 : va_W), post w1 → Z K G Γ (wr G A h0 (ws ++ w1)) (k + mc) (n + ms) lv (pc + 3) st) : Z K G Γ (wr G A h0 (ws ++ wc)) k n lv pc st0 := by
  obtain ⟨q1, q2, q3, q4⟩ := zT_isR wc ws
  refine z_perm List.perm_append_comm (z_cwIv hw hM (List.range wc.length) (List.range' wc.length ws.length) (rng_map _ _) q4 q1 q2 q3 hy hv hlk hR hst hW hdg (fun w hp2 => ?_))
  rw [pick_of (rng_map2 _ _)]
  exact h w hp2
theorem z_cinitN {X : zX} {post : va_W → Prop} {y : MethodName} {host : String} {b : ByteArray} {maxL index mc ms : Nat} {rm : Room} {As : List Value} {st0 : List Value} (hw : wk X A h0)
    (hM : ∀ sz, Met Γ.1 y (.code y b maxL none :: TS) rm (Pz G (.ref a :: As) (Fw G X wc sz)) (Qwv G post (va_A wc sz)) mc ms (va_A wc sz)) (hy : zcal y b maxL none As.length) (hv : y.name = "<init>" ∧ Cond.instanceMethod y ∈ TS) (hlk : (K.2.2.1, index, y, host) ∈ NWs) (hR : zroom rm K.2.2.2.2 maxL mc ms k n) (hst : st0 = As.reverse ++ .ref a :: st) (hW : st.length ≤ 4) (hdg : decode K.1 pc = .ok (.invokespecial index, 3)) (h : ∀ (w1 : va_W), post w1 → Z K G Γ (wr G A h0 (ws ++ w1)) (k + mc) (n + ms) lv (pc + 3) st) : Z K G Γ (wr G A h0 (ws ++ wc)) k n lv pc st0 := by
  obtain ⟨q1, q2, q3, q4⟩ := zT_isR wc ws
  refine z_perm List.perm_append_comm (z_cwIvN hw hM (List.range wc.length) (List.range' wc.length ws.length) (rng_map _ _) q4 q1 q2 q3 hy hv hlk hR hst hW hdg (fun w hp2 => ?_))
  rw [pick_of (rng_map2 _ _)]
  exact h w hp2
/-- storing a reference to an object of the world in a row -/
theorem z_aastn {nR v ci : Nat} {f F : Nat → Option Nat} {i : Int32} {fs : List Value} (t0 : Nat) {E : String} {T0 : u_T} {N : Nat} (ht : ∀ G : zG, (TYS G)[t0]? = some (G.2.2.1 t0, .object E)) (hc : CL[ci]? = some (E, T0, N)) (q0 : Nat) (he : ws[q0]? = some (a, .inl (G.2.2.1 t0, nR, .inr (.inr (.inr (.inr f)))))) (hin : vp_in i nR) (qn : Nat) (hn : ws[qn]? = some (v, .inr (ci, fs))) (hF : va_up f i.toNatClampNeg (some v) = F) (hs : ws.set q0 (a, .inl (G.2.2.1 t0, nR, .inr (.inr (.inr (.inr F))))) = ws') (hdg : decode K.1 pc = .ok (.aastore, 1)) (h : Z K G Γ (wr G A h0 ws') k n lv (pc + 1) st) : Z K G Γ (wr G A h0 ws) k n lv pc (.ref v :: .int i :: .ref a :: st) := fun C H locs ls hi hl => by
  subst hF
  have hK := C.2.2.2.2.2.2.2.2.1
  refine va_astqM (E := E) C.1 C.2.1 hK hi.1 hi.2.1 hi.2.2 q0 t0 he (ht G) (va_rAny hK hi.1 hn hc (fun comp c0 h1 h2 => ?_)) hin hdg (fun H1 locs1 hP hD hS => h C H1 locs1 ls ⟨hs ▸ hP, hs ▸ hD, hS⟩ hl)
  have hcl := (hK.1 ci _ hc).2
  have e1 : comp = G.2.1.1 ci := Option.some.inj (h1.symm.trans hcl.1)
  have e2 : c0 = G.2.1.1 ci := Option.some.inj (h2.symm.trans hcl.1)
  rw [e1, e2]
  exact va_assign hcl
theorem z_capp {L1 L2 : LL} (h : Z K G Γ (wr G A h0 (ws ++ cmL (L1 ++ L2))) k n lv pc st) : Z K G Γ (wr G A h0 (ws ++ (cmL L1 ++ cmL L2))) k n lv pc st := z_eqw (by rw [cmL_app]) h
/-- what comes back -/
theorem z_iret_R {α : Type} {g : α → Prop} {fr : α → Int32} {fw : α → va_W} {x : Int32} {mc ms : Nat} (hQ : zQ Γ (Qwi G (fun r w => ∃ res : α, g res ∧ r = fr res ∧ w = fw res) A) mc ms A) (hr : K.2.2.2.1 = some .int) (hk : k ≤ mc) (hn : n ≤ ms) (res : α) (hg : g res) (hx : x = fr res) (hws : ws = fw res) (hdg : decode K.1 pc = .ok (.ireturn, 1)) : Z K G Γ (wr G A Γ.2.2.1.1.heap ws) k n lv pc [.int x] := z_iret_W hQ hr (Nat.ble_eq_true_of_le hk) (Nat.ble_eq_true_of_le hn) ⟨res, hg, hx, hws⟩ hdg
end RDKIT
theorem z_in0T {K : zK} {G : zG} {Γ : zT} {k n : Nat} {lv : List (Nat × Value)} {pc : Nat} {st : List Value} {A : Nat → Prop} {h0 : Heap} {X T : va_W} {a : Nat → Nat} {F : fT} {s : Nat} (hs : s < 8) (h : Z K G Γ (wr G A h0 ((X ++ faW G a F) ++ T)) k n lv pc st) : Z K G Γ (wr G A h0 ((X ++ shW G (sh a (30 + 2 * s)) (F s)) ++ (faR G a F s ++ T))) k n lv pc st := z_perm (by rw [← List.append_assoc]; exact ((fam_perm (G := G) (a := a) (F := F) hs X).symm).append_right T) h
/-- the comers that are new, and those that were there -/
def pAdd (P : pT) (L : LL) : pT := (L.map Prod.fst ++ P.1, fun q => match L.find? (fun e => e.1 == q) with
  | some e => e.2
  | none => P.2 q)
theorem pAdd_P {G : zG} {P : pT} {A : Nat → Prop} {h0 H : Heap} {locs : List Loc} {W0 : va_W} {L : LL} {wc : va_W} (hw : wk (gX G P) A h0) (hi : wr G A h0 (W0 ++ cmL L) H locs) (hsub : ∀ q ∈ wc, ∃ e, (q.1, e) ∈ W0) : gX G (pAdd P L) (va_A wc H.size) H := by
  have hA : ∀ q, va_A wc H.size q → A q := by
    rintro q (⟨j, e, hq⟩ | hq)
    · obtain ⟨e', he⟩ := hsub _ (List.mem_of_getElem? hq)
      obtain ⟨i, hI⟩ := List.getElem?_of_mem (List.mem_append_left (cmL L) he)
      exact hi.2.1.2 i _ hI
    · exact hw.2.2 q (Nat.le_trans hi.2.2.1 hq)
  have h1 := (gX_ok G P).2 A (va_A wc H.size) H (fun q _ h => hA q h) (wr_X hw H locs hi)
  have hX := wr_X hw H locs hi
  refine ⟨h1.1, fun q hq => ?_⟩
  have hD := va_D_iff.mp hi.2.1
  cases hf : L.find? (fun e => e.1 == q) with
  | some e =>
    have he := List.mem_of_find?_eq_some hf
    have heq : e.1 = q := by have := List.find?_some hf; simpa using this
    have hP2 : (pAdd P L).2 q = e.2 := by show (match L.find? (fun e => e.1 == q) with | some e => e.2 | none => P.2 q) = e.2; rw [hf]
    have hmem : ((q, .inr (0, cmF e.2)) : Nat × va_E) ∈ cmL L := by
      rw [← heq]; exact List.mem_map.mpr ⟨e, he, rfl⟩
    obtain ⟨i, hI⟩ := List.getElem?_of_mem (List.mem_append_right W0 hmem)
    refine ⟨fun j x hx => ?_, ?_⟩
    · rw [hP2] at hx
      rcases j with _ | j
      · cases hx
        exact hi.1 i _ hI
      · simp [cmW] at hx
    · rintro (⟨j, e2, hq2⟩ | hq2)
      · obtain ⟨e', he'⟩ := hsub _ (List.mem_of_getElem? hq2)
        have hn := hD.1
        rw [List.map_append] at hn
        exact (List.nodup_append.mp hn).2.2 q (List.mem_map.mpr ⟨_, he', rfl⟩) q (List.mem_map.mpr ⟨_, hmem, rfl⟩) rfl
      · have := (hi.1 i _ hI).lt
        have : q < H.size := this
        omega
  | none =>
    have hP2 : (pAdd P L).2 q = P.2 q := by show (match L.find? (fun e => e.1 == q) with | some e => e.2 | none => P.2 q) = P.2 q; rw [hf]
    have hq' : q ∈ P.1 := by
      rcases List.mem_append.mp hq with h | h
      · obtain ⟨e, he, rfl⟩ := List.mem_map.mp h
        have := List.find?_eq_none.mp hf e he
        simp at this
      · exact h
    rw [hP2]
    exact h1.2 q hq'
theorem z_ctvvP {K : zK} {G : zG} {P : pT} {Γ : zT} {k n : Nat} {lv : List (Nat × Value)} {pc : Nat} {st : List Value} {A : Nat → Prop} {h0 : Heap} {wc w1 W0 W1 R0 : va_W} {a : Nat} {L : LL} {y : MethodName} {C0 : String} {b : ByteArray} {maxL index mc ms : Nat} {ret : Option FieldType} {rm : Room} {As : List Value} {st0 : List Value} (hw : wk (gX G P) A h0)
    (hM : ∀ sz, Met Γ.1 y (.code y b maxL ret :: TS) rm (Pz G (.ref a :: As) (Fw G (gX G (pAdd P L)) wc sz)) (Qwv G (fun w => w = w1) (va_A wc sz)) mc ms (va_A wc sz)) (isC isR isN : List Nat) (n0 : Nat) (hz : zplanT isC isR isN n0 = true) (hlen : W0.length = n0) (hC : isC.map (fun i => W0[i]?) = wc.map some) (hR0 : isR.map (fun i => W0[i]?) = R0.map some) (hlen1 : (R0 ++ w1).length = n0) (hN : isN.map (fun i => (R0 ++ w1)[i]?) = W1.map some) (hy : zcal y b maxL ret As.length) (hv : Cond.instanceMethod y ∈ TS ∧ Cond.selects C0 y y ∈ TS) (hlk : Cond.methodLink K.2.2.1 index y ∈ TS) (hrec : ∀ H locs, wr G A h0 (W0 ++ cmL L) H locs → zrec G C0 a H) (hR : zroom rm K.2.2.2.2 maxL mc ms k n) (hst : st0 = As.reverse ++ .ref a :: st) (hW : st.length ≤ 4) (hdg : decode K.1 pc = .ok (.invokevirtual index, 3)) (h : Z K G Γ (wr G A h0 (W1 ++ cmL L)) (k + mc) (n + ms) lv (pc + 3) st) : Z K G Γ (wr G A h0 (W0 ++ cmL L)) k n lv pc st0 := by
  obtain ⟨q1, q2, q3, q4⟩ := zT_isR wc (R0 ++ cmL L)
  have hp := zT_in (T := cmL L) hz hlen hC hR0
  have hsub : ∀ q ∈ wc, ∃ e, (q.1, e) ∈ W0 := fun q hq => by
    have h1 : some q ∈ isC.map (fun i => W0[i]?) := by rw [hC]; exact List.mem_map.mpr ⟨q, hq, rfl⟩
    obtain ⟨i, -, hi⟩ := List.mem_map.mp h1
    exact ⟨q.2, List.mem_of_getElem? hi⟩
  intro C H locs ls hi hl
  have hi' := wr_perm hp hi
  obtain ⟨hpre, hF⟩ := z_pre hw hi' (List.range wc.length) (rng_map _ _) q4
  have hpre' : Fw G (gX G (pAdd P L)) wc H.size H := ⟨hpre.1, hpre.2.1, hpre.2.2.1, pAdd_P hw hi hsub⟩
  refine va_callv (z_runV C hl (hM H.size) hy hv hlk (hrec H locs hi) hpre' hR hst hW hdg) hi'.2.2 (fun q _ h => hF q h) hF (fun u t H1 locs1 ht hvm hp2 hb hz1 hk hS => ?_)
  subst hp2
  have hj := z_join (locs := locs) hi' (List.range wc.length) (List.range' wc.length (R0 ++ cmL L).length) (rng_map _ _) q1 q2 q3 hF hk (ht ▸ hb.1) hb.2 hS
  rw [pick_of (rng_map2 _ _)] at hj
  exact h C H1 locs1 ls (wr_perm (zT_out hz hlen1 hN) hj) hl
