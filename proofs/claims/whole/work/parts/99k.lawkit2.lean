/-! the law's rows -/
abbrev kL : zK := (code, 4, RL, ret, room_1)
def lA (Γ : zT) : Nat → Prop := fun q => Γ.2.2.1.1.heap.size ≤ q
abbrev LJ (G : zG) (P : pT) (Γ : zT) (ws : va_W) : Heap → List Loc → Prop := LI G (gX G P) (lA Γ) Γ.2.2.1.1.heap ws
/-- room for one more call -/
def Lk (k n : Nat) : Prop := k + 162 ≤ 600000 ∧ n + 810 ≤ 7302250
abbrev lwW (G : zG) (a a' : Nat → Nat) (q : Nat) (N : nT) (R Q D : rT) (E : e2T) (O T U : oT) (V : vT) (F : fT) (M : mT) : va_W := maW G a N ++ (rdW G (sh a 10) R ++ (rdW G (sh a 15) Q ++ (rdW G (sh a 20) D ++ (re2W G (sh a 50) q E ++ (orW G (sh a 60) (sh a 10) O ++ (orW G (sh a 63) (sh a 10) T ++ (orW G (sh a 66) (sh a 10) U ++ (mvW G (sh a 70) V ++ (faW G a F ++ mW G a' M)))))))))
/-- at pc, i places of the script read, whatever the two hold, as long as it is the same -/
def lwS (G : zG) (Γ : zT) (b i k n pc : Nat) : Prop := ∀ (P : pT) (a a' : Nat → Nat) (q : Nat) (N : nT) (R Q D : rT) (E : e2T) (O T U : oT) (V : vT) (F : fT) (M : mT), RA P N R Q V F M → Z kL G Γ (LJ G P Γ (lwW G a a' q N R Q D E O T U V F M)) k n [(3, .int (Int32.ofNat i)), (2, .ref (a' 0)), (1, .ref (a 0)), (0, .ref b)] pc []
theorem lcmp_eq {x y : Int64} (h : x = y) : lg_cmp x y = 0 := by
  subst h
  unfold lg_cmp
  rw [if_neg (by rw [gt_iff_lt, Int64.lt_iff_toInt_lt]; omega), if_pos rfl]
theorem va_P_sub {D : va_G} {cl : List vw_C} {ws ws' : va_W} {H : Heap} (hs : ∀ e, e ∈ ws' → e ∈ ws) (h : va_P D cl ws H) : va_P D cl ws' H := fun k q hq => by
  obtain ⟨i, hi⟩ := List.getElem?_of_mem (hs q (List.mem_of_getElem? hq))
  exact h i q hi
theorem L_k1 {k n mc : Nat} (hk : Lk k n) (h : Nat.ble mc 162 = true) : k + mc ≤ k + 162 := Nat.add_le_add_left (Nat.le_of_ble_eq_true h) k
theorem L_k2 {k n ms : Nat} (hk : Lk k n) (h : Nat.ble ms 810 = true) : n + ms ≤ n + 810 := Nat.add_le_add_left (Nat.le_of_ble_eq_true h) n
theorem L_room {rm : Room} {maxL mc ms k n : Nat} (h : (Nat.beq rm.cells mc && Nat.beq rm.slots ms && Nat.ble (rm.frames + 1) 2048 && Nat.ble (8 + (maxL + 11) + rm.locals) 84000 && Nat.ble mc 162 && Nat.ble ms 810) = true) (hk : Lk k n) : zroom rm kL.2.2.2.2 maxL mc ms k n := by
  simp only [Bool.and_eq_true] at h
  obtain ⟨⟨⟨⟨⟨h1, h2⟩, h3⟩, h4⟩, h5⟩, h6⟩ := h
  exact ⟨Nat.eq_of_beq_eq_true h1, Nat.eq_of_beq_eq_true h2, ⟨Nat.le_of_ble_eq_true h3, Nat.le_of_ble_eq_true h4⟩, Nat.le_trans (L_k1 hk h5) hk.1, Nat.le_trans (L_k2 hk h6) hk.2⟩
theorem L_room7 {rm : Room} {maxL k n : Nat} (h : (Nat.beq rm.cells 0 && Nat.beq rm.slots 0 && Nat.ble (rm.frames + 1) 2048 && Nat.ble (8 + (maxL + 11) + rm.locals) 84000) = true) (hk : Lk k n) : zroom rm kL.2.2.2.2 maxL 0 0 (k + 162) (n + 810) := by
  simp only [Bool.and_eq_true] at h
  obtain ⟨⟨⟨h1, h2⟩, h3⟩, h4⟩ := h
  exact ⟨Nat.eq_of_beq_eq_true h1, Nat.eq_of_beq_eq_true h2, ⟨Nat.le_of_ble_eq_true h3, Nat.le_of_ble_eq_true h4⟩, hk.1, hk.2⟩
section LAWKIT2
variable {G : zG} {Γ : zT} {P : pT} {K : zK} {k n k1 n1 : Nat} {lv : List (Nat × Value)} {pc : Nat} {st : List Value} {ws wc rest w0 w1 : va_W} {a : Nat} {LL0 : LL}
theorem lA_up : ∀ q : Nat, Γ.2.2.1.1.heap.size ≤ q → lA Γ q := fun _ h => h
theorem L_perm (hp : ws.Perm w1) (h : Z K G Γ (LJ G P Γ w1) k n lv pc st) : Z K G Γ (LJ G P Γ ws) k n lv pc st := zL_perm (gX_ok G P) hp h
/-- new comers leave the world and join the others -/
theorem LI_grow {A : Nat → Prop} {h0 H : Heap} {locs : List Loc} (hi : LI G (gX G P) A h0 ((w0 ++ cmL LL0) ++ rest) H locs) : FR P LL0 ∧ LI G (gX G (pAdd P LL0)) A h0 (w0 ++ rest) H locs := by
  obtain ⟨⟨hP, hD, hS⟩, hx⟩ := hi
  have hp : ((w0 ++ cmL LL0) ++ rest).Perm (cmL LL0 ++ (w0 ++ rest)) := by
    rw [← List.append_assoc]
    exact List.perm_append_comm.append_right rest
  have hP1 := va_P_perm hp hP
  obtain ⟨hn, hA⟩ := va_D_iff.mp (va_D_perm hp hD)
  rw [List.map_append, List.nodup_append] at hn
  obtain ⟨n1, n2, n3⟩ := hn
  have hmap : (cmL LL0).map Prod.fst = LL0.map Prod.fst := by
    unfold cmL
    rw [List.map_map]
    rfl
  have hin : ∀ e, e ∈ LL0 → va_A ((w0 ++ cmL LL0) ++ rest) H.size e.1 := fun e he => Or.inl (vaA_mem.mpr ⟨.inr (0, cmF e.2), List.mem_append_left _ (List.mem_append_right _ (List.mem_map.mpr ⟨e, he, rfl⟩))⟩)
  have hfr : FR P LL0 := ⟨fun e he hq => (hx.2 e.1 hq).2 (hin e he), hmap ▸ n1⟩
  have hsub : ∀ q, va_A (w0 ++ rest) H.size q → va_A ((w0 ++ cmL LL0) ++ rest) H.size q := fun q hq => vaA_sub (fun q e he => ⟨e, hp.mem_iff.mpr (List.mem_append_right _ he)⟩) hq
  refine ⟨hfr, ⟨va_P_sub (fun e he => List.mem_append_right _ he) hP1, va_D_iff.mpr ⟨n2, fun q hq => hA q (List.mem_append_right _ hq)⟩, hS⟩, ?_, ?_⟩
  · exact (xst_ok G).2 _ _ H (fun q _ hq => hsub q hq) hx.1
  · intro q hq
    rcases (pAdd_in P LL0 q).mp hq with ⟨e, he, rfl⟩ | hq
    · have hc : va_P G.2.1 CL (cmW e.1 e.2) H := va_P_sub (fun x hx => by
        rw [List.mem_singleton.mp hx]
        exact List.mem_append_left _ (List.mem_map.mpr ⟨e, he, rfl⟩)) hP1
      refine ⟨by rw [pAdd_new hfr.2 he]; exact hc, fun hq => ?_⟩
      rcases hq with hq | hq
      · obtain ⟨x, hx⟩ := vaA_mem.mp hq
        exact n3 e.1 (List.mem_map.mpr ⟨_, List.mem_map.mpr ⟨e, he, rfl⟩, rfl⟩) e.1 (List.mem_map.mpr ⟨_, hx, rfl⟩) rfl
      · exact absurd (hc 0 _ rfl).lt (Nat.not_lt.mpr hq)
    · obtain ⟨g1, g2⟩ := hx.2 q hq
      exact ⟨by rw [pAdd_old (fun e he c => hfr.1 e he (c ▸ hq))]; exact g1, fun h => g2 (hsub q h)⟩
/-- a call of one who writes -/
theorem L_xwi {post : Int32 → va_W → Prop} {y : MethodName} {C0 : String} {b : ByteArray} {maxL index mc ms ci N : Nat} {T : u_T} {fs : List Value} {ret : Option FieldType} {rm : Room} {As : List Value} {st0 : List Value}
    (hM : ∀ sz, Met Γ.1 y (.code y b maxL ret :: TS) rm (Pz G (.ref a :: As) (Fw G (gX G P) wc sz)) (Qwi G post (va_A wc sz)) mc ms (va_A wc sz)) (hp : ws.Perm (wc ++ rest)) (he : wc[0]? = some (a, .inr (ci, fs))) (hc : CL[ci]? = some (C0, T, N)) (hy : zcal y b maxL ret As.length) (hv : Cond.instanceMethod y ∈ TS ∧ Cond.selects C0 y y ∈ TS) (hlk : Cond.methodLink K.2.2.1 index y ∈ TS) (hR : zroom rm K.2.2.2.2 maxL mc ms k n) (hst : st0 = As.reverse ++ .ref a :: st) (hW : st.length ≤ 4) (hdg : decode K.1 pc = .ok (.invokevirtual index, 3)) (h : ∀ (r : Int32) (w1 : va_W), post r w1 → Z K G Γ (LJ G P Γ (w1 ++ rest)) (k + mc) (n + ms) lv (pc + 3) (.int r :: st)) : Z K G Γ (LJ G P Γ ws) k n lv pc st0 := fun C H locs ls hi hl => by
  have hi := LI_perm (gX_ok G P) hp hi
  obtain ⟨hpre, hF⟩ := LI_pre (gX_ok G P) lA_up hi
  exact va_calli (z_runV C hl (hM H.size) hy hv hlk (zrec_of (I := LJ G P Γ (wc ++ rest)) (fun _ _ hi => wc_P hi.1) 0 he hc H locs hi) hpre hR hst hW hdg) hi.1.2.2 (fun q _ h => hF q h) hF (fun r u t H1 locs1 ht hvm hp hb hz hk hS => h r u hp C H1 locs1 ls (LI_post (gX_ok G P) hi hF hk (ht ▸ hb.1) hb.2 hS) hl)
theorem L_xw {v : Int32} {y : MethodName} {C0 : String} {b : ByteArray} {maxL index mc ms ci N : Nat} {T : u_T} {fs : List Value} {ret : Option FieldType} {rm : Room} {As : List Value} {st0 : List Value}
    (hM : ∀ sz, Met Γ.1 y (.code y b maxL ret :: TS) rm (Pz G (.ref a :: As) (Fw G (gX G P) wc sz)) (Qwi G (fun r w => r = v ∧ w = w1) (va_A wc sz)) mc ms (va_A wc sz)) (hp : ws.Perm (wc ++ rest)) (he : wc[0]? = some (a, .inr (ci, fs))) (hc : CL[ci]? = some (C0, T, N)) (hy : zcal y b maxL ret As.length) (hv : Cond.instanceMethod y ∈ TS ∧ Cond.selects C0 y y ∈ TS) (hlk : Cond.methodLink K.2.2.1 index y ∈ TS) (hR : zroom rm K.2.2.2.2 maxL mc ms k n) (hst : st0 = As.reverse ++ .ref a :: st) (hW : st.length ≤ 4) (hdg : decode K.1 pc = .ok (.invokevirtual index, 3)) (hk : k + mc ≤ k1) (hn : n + ms ≤ n1) (h : Z K G Γ (LJ G P Γ (w1 ++ rest)) k1 n1 lv (pc + 3) (.int v :: st)) : Z K G Γ (LJ G P Γ ws) k n lv pc st0 :=
  L_xwi hM hp he hc hy hv hlk hR hst hW hdg (fun r w e => by
    obtain ⟨e1, e2⟩ := e
    subst e1
    subst e2
    exact z_widen hk hn h)
/-- a call that makes comers -/
theorem L_xg {α : Type} {gg : α → Prop} {pr : α → Int32} {pw : α → va_W} {pl : α → LL} {y : MethodName} {C0 : String} {b : ByteArray} {maxL index mc ms ci N : Nat} {T : u_T} {fs : List Value} {ret : Option FieldType} {rm : Room} {As : List Value} {st0 : List Value}
    (hM : ∀ sz, Met Γ.1 y (.code y b maxL ret :: TS) rm (Pz G (.ref a :: As) (Fw G (gX G P) wc sz)) (Qwi G (fun r w => ∃ res : α, gg res ∧ r = pr res ∧ True ∧ w = pw res ++ cmL (pl res)) (va_A wc sz)) mc ms (va_A wc sz)) (hp : ws.Perm (wc ++ rest)) (he : wc[0]? = some (a, .inr (ci, fs))) (hc : CL[ci]? = some (C0, T, N)) (hy : zcal y b maxL ret As.length) (hv : Cond.instanceMethod y ∈ TS ∧ Cond.selects C0 y y ∈ TS) (hlk : Cond.methodLink K.2.2.1 index y ∈ TS) (hR : zroom rm K.2.2.2.2 maxL mc ms k n) (hst : st0 = As.reverse ++ .ref a :: st) (hW : st.length ≤ 4) (hdg : decode K.1 pc = .ok (.invokevirtual index, 3)) (hk : k + mc ≤ k1) (hn : n + ms ≤ n1) (h : ∀ res : α, gg res → FR P (pl res) → Z K G Γ (LJ G (pAdd P (pl res)) Γ (pw res ++ rest)) k1 n1 lv (pc + 3) (.int (pr res) :: st)) : Z K G Γ (LJ G P Γ ws) k n lv pc st0 :=
  L_xwi hM hp he hc hy hv hlk hR hst hW hdg (fun r w e => by
    obtain ⟨res, g1, e1, -, e2⟩ := e
    subst e1
    subst e2
    exact fun C H locs ls hi hl => by
      obtain ⟨hf, hi2⟩ := LI_grow hi
      exact z_widen hk hn (h res g1 hf) C H locs ls hi2 hl)
/-- calls of those who only read -/
theorem L_xri {v : Int32} {y : MethodName} {C0 : String} {b : ByteArray} {maxL index ci N : Nat} {T : u_T} {fs : List Value} {ret : Option FieldType} {rm : Room} {As : List Value} {st0 : List Value}
    (hM : Met Γ.1 y (.code y b maxL ret :: TS) rm (Pz G (.ref a :: As) (Fr G P wc)) (vp_Si (fun r => r = v)) 0 0 (fun _ => False)) (hp : ws.Perm (wc ++ rest)) (he : wc[0]? = some (a, .inr (ci, fs))) (hc : CL[ci]? = some (C0, T, N)) (hy : zcal y b maxL ret As.length) (hv : Cond.instanceMethod y ∈ TS ∧ Cond.selects C0 y y ∈ TS) (hlk : Cond.methodLink K.2.2.1 index y ∈ TS) (hR : zroom rm K.2.2.2.2 maxL 0 0 k n) (hst : st0 = As.reverse ++ .ref a :: st) (hW : st.length ≤ 4) (hdg : decode K.1 pc = .ok (.invokevirtual index, 3)) (hk : k ≤ k1) (hn : n ≤ n1) (h : Z K G Γ (LJ G P Γ ws) k1 n1 lv (pc + 3) (.int v :: st)) : Z K G Γ (LJ G P Γ ws) k n lv pc st0 :=
  z_cvi hM hy hv hlk (zrec_of (fun _ _ hi => wc_P (LI_perm (gX_ok G P) hp hi).1) 0 he hc) (fun H locs hi => ⟨wc_P (LI_perm (gX_ok G P) hp hi).1, (gX_ok G P).2 _ nA H (fun _ _ h => h.elim) hi.2⟩) hR hst hW hdg (z_widen hk hn h)
theorem L_xrl {v : Int64} {y : MethodName} {C0 : String} {b : ByteArray} {maxL index ci N : Nat} {T : u_T} {fs : List Value} {ret : Option FieldType} {rm : Room} {As : List Value} {st0 : List Value}
    (hM : Met Γ.1 y (.code y b maxL ret :: TS) rm (Pz G (.ref a :: As) (Fr G P wc)) (vp_Sl (fun r => r = v)) 0 0 (fun _ => False)) (hp : ws.Perm (wc ++ rest)) (he : wc[0]? = some (a, .inr (ci, fs))) (hc : CL[ci]? = some (C0, T, N)) (hy : zcal y b maxL ret As.length) (hv : Cond.instanceMethod y ∈ TS ∧ Cond.selects C0 y y ∈ TS) (hlk : Cond.methodLink K.2.2.1 index y ∈ TS) (hR : zroom rm K.2.2.2.2 maxL 0 0 k n) (hst : st0 = As.reverse ++ .ref a :: st) (hW : st.length ≤ 4) (hdg : decode K.1 pc = .ok (.invokevirtual index, 3)) (hk : k ≤ k1) (hn : n ≤ n1) (h : Z K G Γ (LJ G P Γ ws) k1 n1 lv (pc + 3) (.long v :: st)) : Z K G Γ (LJ G P Γ ws) k n lv pc st0 :=
  z_cvl hM hy hv hlk (zrec_of (fun _ _ hi => wc_P (LI_perm (gX_ok G P) hp hi).1) 0 he hc) (fun H locs hi => ⟨wc_P (LI_perm (gX_ok G P) hp hi).1, (gX_ok G P).2 _ nA H (fun _ _ h => h.elim) hi.2⟩) hR hst hW hdg (z_widen hk hn h)
theorem L_mri {v : Int32} {y : MethodName} {C0 : String} {b : ByteArray} {maxL index ci N : Nat} {T : u_T} {fs : List Value} {ret : Option FieldType} {rm : Room} {As : List Value} {st0 : List Value}
    (hM : Met Γ.1 y (.code y b maxL ret :: TS) rm (Pz G (.ref a :: As) (va_P G.2.1 CL wc)) (vp_Si (fun r => r = v)) 0 0 (fun _ => False)) (hp : ws.Perm (wc ++ rest)) (he : wc[0]? = some (a, .inr (ci, fs))) (hc : CL[ci]? = some (C0, T, N)) (hy : zcal y b maxL ret As.length) (hv : Cond.instanceMethod y ∈ TS ∧ Cond.selects C0 y y ∈ TS) (hlk : Cond.methodLink K.2.2.1 index y ∈ TS) (hR : zroom rm K.2.2.2.2 maxL 0 0 k n) (hst : st0 = As.reverse ++ .ref a :: st) (hW : st.length ≤ 4) (hdg : decode K.1 pc = .ok (.invokevirtual index, 3)) (hk : k ≤ k1) (hn : n ≤ n1) (h : Z K G Γ (LJ G P Γ ws) k1 n1 lv (pc + 3) (.int v :: st)) : Z K G Γ (LJ G P Γ ws) k n lv pc st0 :=
  z_cvi hM hy hv hlk (zrec_of (fun _ _ hi => wc_P (LI_perm (gX_ok G P) hp hi).1) 0 he hc) (fun H locs hi => wc_P (LI_perm (gX_ok G P) hp hi).1) hR hst hW hdg (z_widen hk hn h)
theorem L_mrl {v : Int64} {y : MethodName} {C0 : String} {b : ByteArray} {maxL index ci N : Nat} {T : u_T} {fs : List Value} {ret : Option FieldType} {rm : Room} {As : List Value} {st0 : List Value}
    (hM : Met Γ.1 y (.code y b maxL ret :: TS) rm (Pz G (.ref a :: As) (va_P G.2.1 CL wc)) (vp_Sl (fun r => r = v)) 0 0 (fun _ => False)) (hp : ws.Perm (wc ++ rest)) (he : wc[0]? = some (a, .inr (ci, fs))) (hc : CL[ci]? = some (C0, T, N)) (hy : zcal y b maxL ret As.length) (hv : Cond.instanceMethod y ∈ TS ∧ Cond.selects C0 y y ∈ TS) (hlk : Cond.methodLink K.2.2.1 index y ∈ TS) (hR : zroom rm K.2.2.2.2 maxL 0 0 k n) (hst : st0 = As.reverse ++ .ref a :: st) (hW : st.length ≤ 4) (hdg : decode K.1 pc = .ok (.invokevirtual index, 3)) (hk : k ≤ k1) (hn : n ≤ n1) (h : Z K G Γ (LJ G P Γ ws) k1 n1 lv (pc + 3) (.long v :: st)) : Z K G Γ (LJ G P Γ ws) k n lv pc st0 :=
  z_cvl hM hy hv hlk (zrec_of (fun _ _ hi => wc_P (LI_perm (gX_ok G P) hp hi).1) 0 he hc) (fun H locs hi => wc_P (LI_perm (gX_ok G P) hp hi).1) hR hst hW hdg (z_widen hk hn h)
/-- a word of the script -/
theorem L_sld {b L : Nat} {xs : Nat → Int32} {x : Int32} {j : Nat} (hX : va_X b L xs Γ.2.2.1.1 Γ.2.2.1.1.heap) (hb : b < Γ.2.2.1.1.heap.size) (hL : L ≤ 3584) (hj : j < L) (hx : x = Int32.ofNat j) (hdg : decode K.1 pc = .ok (.iaload, 1)) (h : Z K G Γ (LJ G P Γ ws) k n lv (pc + 1) (.int (xs j) :: st)) : Z K G Γ (LJ G P Γ ws) k n lv pc (.int x :: .ref b :: st) := fun C H locs ls hi hl => by
  subst hx
  have e : (Int32.ofNat j).toNatClampNeg = j := by
    rw [n_tn, n_of (by omega)]
    omega
  refine va_sld C.1 C.2.1 hX hb (Nat.not_le.mpr hb) hi.1.2.2 ?_ hdg ?_
  · rw [vp_iff, n_of (by omega)]
    omega
  · rw [e]
    exact h C H locs ls hi hl
theorem L_slen {b L : Nat} {xs : Nat → Int32} (hX : va_X b L xs Γ.2.2.1.1 Γ.2.2.1.1.heap) (hb : b < Γ.2.2.1.1.heap.size) (hdg : decode K.1 pc = .ok (.arraylength, 1)) (h : Z K G Γ (LJ G P Γ ws) k n lv (pc + 1) (.int (Int32.ofNat L) :: st)) : Z K G Γ (LJ G P Γ ws) k n lv pc (.ref b :: st) := fun C H locs ls hi hl => va_slen C.1 C.2.1 hX hb (Nat.not_le.mpr hb) hi.1.2.2 hdg (h C H locs ls hi hl)
theorem L_arg {b L i : Nat} {xs : Nat → Int32} {n0 : Int} (hX : va_X b L xs Γ.2.2.1.1 Γ.2.2.1.1.heap) (hb : b < Γ.2.2.1.1.heap.size) (hL : L ≤ 3584) (hi : i + 7 ≤ L) (j : Nat) (hj : j < 7) (hn : Int32.ofInt n0 = Int32.ofNat j) (h0 : zl lv 0 = some (.ref b)) (h3 : zl lv 3 = some (.int (Int32.ofNat i))) (d0 : decode K.1 pc = .ok (.aload_n 0, 1)) (d1 : decode K.1 (pc + 1) = .ok (.iload_n 3, 1)) (d2 : decode K.1 (pc + 1 + 1) = .ok (.iconst n0, 1)) (d3 : decode K.1 (pc + 1 + 1 + 1) = .ok (.iadd, 1)) (d4 : decode K.1 (pc + 1 + 1 + 1 + 1) = .ok (.iaload, 1)) (h : Z K G Γ (LJ G P Γ ws) k n lv (pc + 1 + 1 + 1 + 1 + 1) (.int (xs (i + j)) :: st)) : Z K G Γ (LJ G P Γ ws) k n lv pc st := by
  refine z_aload_n d0 h0 ?_
  refine z_iload_n d1 h3 ?_
  refine z_iconst d2 hn ?_
  refine z_iadd d3 ?_
  exact L_sld hX hb hL (by omega) (Int32.ofNat_add i j).symm d4 h
theorem L_arg2 {b L i : Nat} {xs : Nat → Int32} {n0 : Int} (hX : va_X b L xs Γ.2.2.1.1 Γ.2.2.1.1.heap) (hb : b < Γ.2.2.1.1.heap.size) (hL : L ≤ 3584) (hi : i + 7 ≤ L) (j : Nat) (hj : j < 7) (hn : (Int8.ofInt n0).toInt32 = Int32.ofNat j) (h0 : zl lv 0 = some (.ref b)) (h3 : zl lv 3 = some (.int (Int32.ofNat i))) (d0 : decode K.1 pc = .ok (.aload_n 0, 1)) (d1 : decode K.1 (pc + 1) = .ok (.iload_n 3, 1)) (d2 : decode K.1 (pc + 1 + 1) = .ok (.bipush n0, 2)) (d3 : decode K.1 (pc + 1 + 1 + 2) = .ok (.iadd, 1)) (d4 : decode K.1 (pc + 1 + 1 + 2 + 1) = .ok (.iaload, 1)) (h : Z K G Γ (LJ G P Γ ws) k n lv (pc + 1 + 1 + 2 + 1 + 1) (.int (xs (i + j)) :: st)) : Z K G Γ (LJ G P Γ ws) k n lv pc st := by
  refine z_aload_n d0 h0 ?_
  refine z_iload_n d1 h3 ?_
  refine z_bipush d2 hn ?_
  refine z_iadd d3 ?_
  exact L_sld hX hb hL (by omega) (Int32.ofNat_add i j).symm d4 h
end LAWKIT2
