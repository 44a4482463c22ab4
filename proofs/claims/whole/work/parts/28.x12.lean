theorem tw_m_RX4_3 : Cond.methodLink RX4 3 objectInit ∈ TS := ts_mem 96 (by decide +kernel) rfl
theorem tw_o_84 : Cond.arrayClass .int ∈ TS := ts_mem 151 (by decide +kernel) rfl
theorem tw_code_yX4_init : Cond.code yX4_init cX4_init 1 none ∈ TS := ts_mem 95 (by decide +kernel) rfl
theorem tw_m_RX5_3 : Cond.methodLink RX5 3 objectInit ∈ TS := ts_mem 158 (by decide +kernel) rfl
theorem tw_o_107 : Cond.arrayClass .long ∈ TS := ts_mem 174 (by decide +kernel) rfl
theorem tw_code_yX5_init : Cond.code yX5_init cX5_init 1 none ∈ TS := ts_mem 157 (by decide +kernel) rfl
theorem tw_m_RX3_3 : Cond.methodLink RX3 3 objectInit ∈ TS := ts_mem 180 (by decide +kernel) rfl
theorem tw_code_yX3_init : Cond.code yX3_init cX3_init 1 none ∈ TS := ts_mem 179 (by decide +kernel) rfl
theorem tw_m_RX2_3 : Cond.methodLink RX2 3 objectInit ∈ TS := ts_mem 210 (by decide +kernel) rfl
theorem tw_code_yX2_init : Cond.code yX2_init cX2_init 2 none ∈ TS := ts_mem 209 (by decide +kernel) rfl
theorem tw_m_RX1_3 : Cond.methodLink RX1 3 objectInit ∈ TS := ts_mem 245 (by decide +kernel) rfl
theorem tw_code_yX1_init : Cond.code yX1_init cX1_init 1 none ∈ TS := ts_mem 244 (by decide +kernel) rfl
section CTORS
variable {K : zK} {G : zG} {P : pT} {Γ : zT} {k n : Nat} {lv : List (Nat × Value)} {pc : Nat} {st : List Value} {A : Nat → Prop} {h0 : Heap} {ws : va_W}
theorem ra_eq {s : State} {G : zG} {cl : List vw_C} {cA : ClassId} {ty : FieldType} (hK : va_K G.2.1 cl (TYS G ++ [(cA, ty)]) s) (t0 : Nat) {cB : ClassId} (ht : (TYS G)[t0]? = some (cB, ty)) (hty : (∃ C, ty = .object C) ∨ ty = .int ∨ ty = .long) : cA = cB := by
  have h1 := (hK.2 (TYS G).length (cA, ty) (by simp)).2
  have h2 := (hK.2 t0 (cB, ty) (by rw [List.getElem?_append_left (List.getElem?_eq_some_iff.mp ht).1]; exact ht)).2
  rcases hty with ⟨C, rfl⟩ | rfl | rfl
  · obtain ⟨_, _, _, _, _, e1⟩ := h1
    obtain ⟨_, _, _, _, _, e2⟩ := h2
    exact Option.some.inj (e1.symm.trans e2)
  · exact Option.some.inj ((show s.vm.findClass _ = some cA from h1).symm.trans h2)
  · exact Option.some.inj ((show s.vm.findClass _ = some cA from h1).symm.trans h2)
theorem z_newi {m : Int32} {N : Nat} (hw : wk (gX G P) A h0) (harr : Cond.arrayClass .int ∈ TS) (hn : ¬ m < 0) (hN : m.toNatClampNeg = N) (hbytes : N * componentBytes .int ≤ 536870912) (hcells : k + 1 ≤ K.2.2.2.2.cells) (hslots : n + N ≤ K.2.2.2.2.slots) (hdg : decode K.1 pc = .ok (.newarray .int, 2)) (h : ∀ q : Nat, Z K G Γ (wr G A h0 (ws ++ [(q, .inl (G.2.2.1 0, N, .inl (fun _ => 0)))])) (k + 1) (n + N) lv (pc + 2) (.ref q :: st)) : Z K G Γ (wr G A h0 ws) k n lv pc (.int m :: st) := fun C H locs ls hi hl =>
  va_newa (atype := .int) (a0 := (N, .inl (fun _ => 0))) C.1 C.2.1 (C.2.2.2.2.1 _ harr) rfl C.2.2.2.2.2.2.2.2.1 hi.1 hi.2.1 hi.2.2 hw.2.2 (fun cA => by rw [vp_cell_i]; rfl) hn hN hbytes hcells hslots hdg (fun q cA H1 hK hP hD hS => by
    have e := ra_eq hK 0 rfl (Or.inr (Or.inl rfl))
    subst e
    exact h q C H1 locs ls ⟨hP, hD, hS⟩ hl)
theorem z_newl {m : Int32} {N : Nat} (hw : wk (gX G P) A h0) (harr : Cond.arrayClass .long ∈ TS) (hn : ¬ m < 0) (hN : m.toNatClampNeg = N) (hbytes : N * componentBytes .long ≤ 536870912) (hcells : k + 1 ≤ K.2.2.2.2.cells) (hslots : n + N ≤ K.2.2.2.2.slots) (hdg : decode K.1 pc = .ok (.newarray .long, 2)) (h : ∀ q : Nat, Z K G Γ (wr G A h0 (ws ++ [(q, .inl (G.2.2.1 1, N, .inr (.inl (fun _ => 0))))])) (k + 1) (n + N) lv (pc + 2) (.ref q :: st)) : Z K G Γ (wr G A h0 ws) k n lv pc (.int m :: st) := fun C H locs ls hi hl =>
  va_newa (atype := .long) (a0 := (N, .inr (.inl (fun _ => 0)))) C.1 C.2.1 (C.2.2.2.2.1 _ harr) rfl C.2.2.2.2.2.2.2.2.1 hi.1 hi.2.1 hi.2.2 hw.2.2 (fun cA => by rw [vp_cell_l]; rfl) hn hN hbytes hcells hslots hdg (fun q cA H1 hK hP hD hS => by
    have e := ra_eq hK 1 rfl (Or.inr (Or.inr rfl))
    subst e
    exact h q C H1 locs ls ⟨hP, hD, hS⟩ hl)
theorem z_newq {C0 : String} {index : Nat} {m : Int32} {N : Nat} (t0 : Nat) (ht : ∀ G : zG, (TYS G)[t0]? = some (G.2.2.1 t0, .object C0)) (hao : ∀ U, GK G U → va_AO C0 U) (hw : wk (gX G P) A h0) (hcl : Cond.classLink K.2.2.1 index C0 ∈ TS) (hn : ¬ m < 0) (hN : m.toNatClampNeg = N) (hbytes : N * 4 ≤ 536870912) (hcells : k + 1 ≤ K.2.2.2.2.cells) (hslots : n + N ≤ K.2.2.2.2.slots) (hdg : decode K.1 pc = .ok (.anewarray index, 3)) (h : ∀ q : Nat, Z K G Γ (wr G A h0 (ws ++ [(q, .inl (G.2.2.1 t0, N, .inr (.inr (.inr (.inr (fun _ => none))))))])) (k + 1) (n + N) lv (pc + 3) (.ref q :: st)) : Z K G Γ (wr G A h0 ws) k n lv pc (.int m :: st) := fun C H locs ls hi hl =>
  va_newq C.1 C.2.1 C.2.2.2.1 (C.2.2.2.2.1 _ hcl) (hao _ C.2.2.2.2.2.2.2) C.2.2.2.2.2.2.2.2.1 hi.1 hi.2.1 hi.2.2 hw.2.2 hn hN hbytes hcells hslots hdg (fun q cA H1 hK hP hD hS => by
    have e := ra_eq hK t0 (ht G) (Or.inl ⟨_, rfl⟩)
    subst e
    exact h q C H1 locs ls ⟨hP, hD, hS⟩ hl)
theorem z_iastL {W : va_W} {a nA : Nat} {f F : Nat → Int32} {i x : Int32} (hin : vp_in i nA) (hF : upd f i.toNatClampNeg x = F) (hdg : decode K.1 pc = .ok (.iastore, 1)) (h : Z K G Γ (wr G A h0 (W ++ [(a, .inl (G.2.2.1 0, nA, .inl F))])) k n lv (pc + 1) st) : Z K G Γ (wr G A h0 (W ++ [(a, .inl (G.2.2.1 0, nA, .inl f))])) k n lv pc (.int x :: .int i :: .ref a :: st) := z_iastx (f := f) W.length (by rw [List.getElem?_append_right (Nat.le_refl _), Nat.sub_self]; rfl) hin hF (by rw [List.set_append_right _ _ (Nat.le_refl _), Nat.sub_self]; rfl) hdg h
end CTORS
theorem app_c {α : Type} {a a' b b' : List α} (h1 : a = a') (h2 : b = b') : a ++ b = a' ++ b' := by rw [h1, h2]
theorem ctor_perm {α : Type} (m R1 R2 R3 sa S0 S1 S2 S3 S4 S5 S6 S7 E O1 O2 O3 V ra : List α) : (m ++ R1 ++ R2 ++ R3 ++ sa ++ S0 ++ S1 ++ S2 ++ S3 ++ S4 ++ S5 ++ S6 ++ S7 ++ E ++ O1 ++ O2 ++ O3 ++ V ++ ra).Perm (((m ++ sa ++ ra) ++ R1 ++ R2 ++ R3 ++ E ++ O1 ++ O2 ++ O3 ++ V) ++ (S0 ++ (S1 ++ (S2 ++ (S3 ++ (S4 ++ (S5 ++ (S6 ++ S7)))))))) := by
  haveI : DecidableEq α := fun a b => Classical.propDecidable (a = b)
  rw [List.perm_iff_count]
  intro x
  simp only [List.count_append]
  omega
theorem rdW_c {G : zG} {a b : Nat → Nat} {R : rT} (h0 : a 0 = b 0) (h1 : a 1 = b 1) (h2 : a 2 = b 2) (h3 : a 3 = b 3) (h4 : a 4 = b 4) : rdW G a R = rdW G b R := by
  unfold rdW rdF
  rw [h0, h1, h2, h3, h4]
theorem shW_c {G : zG} {a b : Nat → Nat} {S : sT} (h0 : a 0 = b 0) (h1 : a 1 = b 1) : shW G a S = shW G b S := by
  unfold shW shF
  rw [h0, h1]
theorem orW_c {G : zG} {a b c d : Nat → Nat} {O : oT} (h0 : a 0 = b 0) (h1 : a 1 = b 1) (h2 : a 2 = b 2) (h3 : c 0 = d 0) : orW G a c O = orW G b d O := by
  unfold orW orF
  rw [h0, h1, h2, h3]
theorem mvW_c {G : zG} {a b : Nat → Nat} {V : vT} (h0 : a 0 = b 0) (h1 : a 1 = b 1) : mvW G a V = mvW G b V := by
  unfold mvW mvF
  rw [h0, h1]
theorem re2W_c {G : zG} {a b : Nat → Nat} {q : Nat} {E : e2T} (h0 : a 0 = b 0) (h1 : a 1 = b 1) : re2W G a q E = re2W G b q E := by
  unfold re2W re2F
  rw [h0, h1]
theorem arrV_congr {cI : ClassId} {N : Nat} {f g : Nat → Value} (h : ∀ j, j < N → f j = g j) : arrV cI N f = arrV cI N g := by
  unfold arrV
  congr 1
  congr 1
  funext j
  exact h j.val j.isLt
theorem z_eqcell {K : zK} {G : zG} {Γ : zT} {k n : Nat} {lv : List (Nat × Value)} {pc : Nat} {st : List Value} {A : Nat → Prop} {h0 : Heap} {ws ws' : va_W} {a N : Nat} {f F : Nat → Option Nat} (q0 t0 : Nat) (he : ws[q0]? = some (a, .inl (G.2.2.1 t0, N, .inr (.inr (.inr (.inr f)))))) (hf : ∀ j, j < N → f j = F j) (hs : ws.set q0 (a, .inl (G.2.2.1 t0, N, .inr (.inr (.inr (.inr F))))) = ws') (h : Z K G Γ (wr G A h0 ws') k n lv pc st) : Z K G Γ (wr G A h0 ws) k n lv pc st := by
  subst hs
  have hl : q0 < List.length ws := (List.getElem?_eq_some_iff.mp he).1
  refine z_inv h fun H locs hi => ⟨fun j x hx => ?_, va_D.set hi.2.1 he, hi.2.2⟩
  by_cases hj : j = q0
  · subst hj
    rw [List.getElem?_set_self hl] at hx
    cases hx
    have := hi.1 j _ he
    show H[a]? = some (vp_cell _ _)
    have h2 : H[a]? = some (vp_cell _ _) := this
    rw [h2, vp_cell_q, vp_cell_q]
    exact congrArg some (arrV_congr fun i hi => by rw [hf i hi])
  · rw [List.getElem?_set_ne (fun e => hj e.symm)] at hx
    exact hi.1 j x hx
/-- f where k < i, what stood there else -/
theorem fa_fill_0 {α : Type} (f g : Nat → α) : fa_fill f g 0 = g := funext fun k => if_neg (Nat.not_lt_zero k)
theorem fa_fill_in {α : Type} {f g : Nat → α} {i k : Nat} (h : k < i) : fa_fill f g i k = f k := if_pos h
theorem fa_fill_out {α : Type} {f g : Nat → α} {i k : Nat} (h : i ≤ k) : fa_fill f g i k = g k := if_neg (Nat.not_lt.mpr h)
theorem fa_fill_succ (f g : Nat → Int32) (i : Nat) : upd (fa_fill f g i) i (f i) = fa_fill f g (i + 1) := by
  funext k
  by_cases e : k = i
  · subst e
    rw [pk_us]
    exact (if_pos (Nat.lt_succ_self k)).symm
  · rw [pk_un e]
    by_cases h : k < i
    · rw [fa_fill_in h, fa_fill_in (Nat.lt_succ_of_lt h)]
    · rw [fa_fill_out (Nat.le_of_not_lt h), fa_fill_out (by omega)]
def ad (l : List Nat) : Nat → Nat := fun j => l.getD j 0

theorem dX4_init_0 : decode cX4_init 0 = .ok (.aload_n 0, 1) := by decide +kernel
theorem dX4_init_1 : decode cX4_init 1 = .ok (.invokespecial 3, 3) := by decide +kernel
theorem dX4_init_4 : decode cX4_init 4 = .ok (.aload_n 0, 1) := by decide +kernel
theorem dX4_init_5 : decode cX4_init 5 = .ok (.bipush 7, 2) := by decide +kernel
theorem dX4_init_7 : decode cX4_init 7 = .ok (.anewarray 9, 3) := by decide +kernel
theorem dX4_init_10 : decode cX4_init 10 = .ok (.putfield 11, 3) := by decide +kernel
theorem dX4_init_13 : decode cX4_init 13 = .ok (.aload_n 0, 1) := by decide +kernel
theorem dX4_init_14 : decode cX4_init 14 = .ok (.bipush 7, 2) := by decide +kernel
theorem dX4_init_16 : decode cX4_init 16 = .ok (.newarray .int, 2) := by decide +kernel
theorem dX4_init_18 : decode cX4_init 18 = .ok (.putfield 17, 3) := by decide +kernel
theorem dX4_init_21 : decode cX4_init 21 = .ok (.aload_n 0, 1) := by decide +kernel
theorem dX4_init_22 : decode cX4_init 22 = .ok (.bipush 7, 2) := by decide +kernel
theorem dX4_init_24 : decode cX4_init 24 = .ok (.newarray .int, 2) := by decide +kernel
theorem dX4_init_26 : decode cX4_init 26 = .ok (.putfield 21, 3) := by decide +kernel
theorem dX4_init_29 : decode cX4_init 29 = .ok (.aload_n 0, 1) := by decide +kernel
theorem dX4_init_30 : decode cX4_init 30 = .ok (.bipush 7, 2) := by decide +kernel
theorem dX4_init_32 : decode cX4_init 32 = .ok (.newarray .int, 2) := by decide +kernel
theorem dX4_init_34 : decode cX4_init 34 = .ok (.putfield 24, 3) := by decide +kernel
theorem dX4_init_37 : decode cX4_init 37 = .ok (.aload_n 0, 1) := by decide +kernel
theorem dX4_init_38 : decode cX4_init 38 = .ok (.iconst 0, 1) := by decide +kernel
theorem dX4_init_39 : decode cX4_init 39 = .ok (.putfield 27, 3) := by decide +kernel
theorem dX4_init_42 : decode cX4_init 42 = .ok (.aload_n 0, 1) := by decide +kernel
theorem dX4_init_43 : decode cX4_init 43 = .ok (.bipush 8, 2) := by decide +kernel
theorem dX4_init_45 : decode cX4_init 45 = .ok (.putfield 31, 3) := by decide +kernel
theorem dX4_init_48 : decode cX4_init 48 = .ok (.aload_n 0, 1) := by decide +kernel
theorem dX4_init_49 : decode cX4_init 49 = .ok (.iconst 0, 1) := by decide +kernel
theorem dX4_init_50 : decode cX4_init 50 = .ok (.putfield 34, 3) := by decide +kernel
theorem dX4_init_53 : decode cX4_init 53 = .ok (.aload_n 0, 1) := by decide +kernel
theorem dX4_init_54 : decode cX4_init 54 = .ok (.iconst 5, 1) := by decide +kernel
theorem dX4_init_55 : decode cX4_init 55 = .ok (.putfield 37, 3) := by decide +kernel
theorem dX4_init_58 : decode cX4_init 58 = .ok (.aload_n 0, 1) := by decide +kernel
theorem dX4_init_59 : decode cX4_init 59 = .ok (.iconst 1, 1) := by decide +kernel
theorem dX4_init_60 : decode cX4_init 60 = .ok (.putfield 40, 3) := by decide +kernel
theorem dX4_init_63 : decode cX4_init 63 = .ok (.aload_n 0, 1) := by decide +kernel
theorem dX4_init_64 : decode cX4_init 64 = .ok (.iconst 0, 1) := by decide +kernel
theorem dX4_init_65 : decode cX4_init 65 = .ok (.putfield 43, 3) := by decide +kernel
theorem dX4_init_68 : decode cX4_init 68 = .ok (.aload_n 0, 1) := by decide +kernel
theorem dX4_init_69 : decode cX4_init 69 = .ok (.iconst 1, 1) := by decide +kernel
theorem dX4_init_70 : decode cX4_init 70 = .ok (.putfield 46, 3) := by decide +kernel
theorem dX4_init_73 : decode cX4_init 73 = .ok (.return_, 1) := by decide +kernel
abbrev k_X4_init : zK := (cX4_init, 1, RX4, none, ({ frames := 1, cells := 4, slots := 28, locals := 12 } : Room))
theorem zc_X4_init : zcal yX4_init k_X4_init.1 k_X4_init.2.1 k_X4_init.2.2.2.1 0 := ⟨tw_code_yX4_init, tw_i_TollForHesitators_Road, ⟨by decide +kernel, by decide +kernel⟩, by decide +kernel⟩
set_option maxRecDepth 8000 in
set_option maxHeartbeats 40000000 in
theorem c_X4_init {l : Launch} (G : zG) (P : pT) (q : Nat) (sz : Nat) : Met l yX4_init (.code yX4_init k_X4_init.1 k_X4_init.2.1 k_X4_init.2.2.2.1 :: TS) k_X4_init.2.2.2.2 (Pz G [.ref q] (Fw G (gX G P) ([(q, .inr (4, [.null, .null, .null, .null, .int 0, .int 0, .int 0, .int 0, .int 0, .int 0, .int 0]))]) sz)) (Qwv G (fun w => ∃ a : Nat → Nat, a 0 = q ∧ w = rdW G a rI) (va_A ([(q, .inr (4, [.null, .null, .null, .null, .int 0, .int 0, .int 0, .int 0, .int 0, .int 0, .int 0]))]) sz)) 4 28 (va_A ([(q, .inr (4, [.null, .null, .null, .null, .int 0, .int 0, .int 0, .int 0, .int 0, .int 0, .int 0]))]) sz) := by
  refine zmet (K := k_X4_init) (by decide +kernel) rfl rfl (fun Γ hl0 hQ hN hF => ?_)
  refine z_start (gX_ok G P) hF (fun hw => ?_)
  generalize va_A ([(q, .inr (4, [.null, .null, .null, .null, .int 0, .int 0, .int 0, .int 0, .int 0, .int 0, .int 0]))]) sz = A at hQ hw ⊢
  show Z k_X4_init G Γ _ 0 0 [(0, .ref q)] 0 []
  refine z_aload_n dX4_init_0 rfl ?_
  refine z_objinit tw_m_RX4_3 tw_inst_objectInit tw_objcode ⟨Nat.le_of_ble_eq_true rfl, Nat.le_of_ble_eq_true rfl⟩ dX4_init_1 ?_
  refine z_aload_n dX4_init_4 rfl ?_
  refine z_bipush (v := 7) dX4_init_5 rfl ?_
  refine z_newq (N := 7) 2 (fun _ => rfl) (fun U h => h.2.2.1.1) hw tw_k_RX4_9 (by decide) (by decide) (by decide) (Nat.le_of_ble_eq_true rfl) (Nat.le_of_ble_eq_true rfl) dX4_init_7 (fun a1 => ?_)
  refine z_putF (fs := [.null, .null, .null, .null, .int 0, .int 0, .int 0, .int 0, .int 0, .int 0, .int 0]) (v := .ref a1) (ws' := [(q, .inr (4, [.ref a1, .null, .null, .null, .int 0, .int 0, .int 0, .int 0, .int 0, .int 0, .int 0]))] ++ [(a1, .inl (G.2.2.1 2, 7, .inr (.inr (.inr (.inr (fun _ => none))))))]) hN 0 rfl rfl uin_X4 tyX4 tyX4_ok nmX4 0 (Nat.le_of_ble_eq_true rfl) tw_f_RX4_11 rfl rfl rfl (ty := (.array (.object RX0))) rfl rfl rfl (Nat.le_of_ble_eq_true rfl) rfl dX4_init_10 ?_
  refine z_aload_n dX4_init_13 rfl ?_
  refine z_bipush (v := 7) dX4_init_14 rfl ?_
  refine z_newi (N := 7) hw tw_o_84 (by decide) (by decide) (by decide) (Nat.le_of_ble_eq_true rfl) (Nat.le_of_ble_eq_true rfl) dX4_init_16 (fun a2 => ?_)
  refine z_putF (fs := [.ref a1, .null, .null, .null, .int 0, .int 0, .int 0, .int 0, .int 0, .int 0, .int 0]) (v := .ref a2) (ws' := [(q, .inr (4, [.ref a1, .ref a2, .null, .null, .int 0, .int 0, .int 0, .int 0, .int 0, .int 0, .int 0]))] ++ [(a1, .inl (G.2.2.1 2, 7, .inr (.inr (.inr (.inr (fun _ => none))))))] ++ [(a2, .inl (G.2.2.1 0, 7, .inl (fun _ => 0)))]) hN 0 rfl rfl uin_X4 tyX4 tyX4_ok nmX4 1 (Nat.le_of_ble_eq_true rfl) tw_f_RX4_17 rfl rfl rfl (ty := (.array .int)) rfl rfl rfl (Nat.le_of_ble_eq_true rfl) rfl dX4_init_18 ?_
  refine z_aload_n dX4_init_21 rfl ?_
  refine z_bipush (v := 7) dX4_init_22 rfl ?_
  refine z_newi (N := 7) hw tw_o_84 (by decide) (by decide) (by decide) (Nat.le_of_ble_eq_true rfl) (Nat.le_of_ble_eq_true rfl) dX4_init_24 (fun a3 => ?_)
  refine z_putF (fs := [.ref a1, .ref a2, .null, .null, .int 0, .int 0, .int 0, .int 0, .int 0, .int 0, .int 0]) (v := .ref a3) (ws' := [(q, .inr (4, [.ref a1, .ref a2, .ref a3, .null, .int 0, .int 0, .int 0, .int 0, .int 0, .int 0, .int 0]))] ++ [(a1, .inl (G.2.2.1 2, 7, .inr (.inr (.inr (.inr (fun _ => none))))))] ++ [(a2, .inl (G.2.2.1 0, 7, .inl (fun _ => 0)))] ++ [(a3, .inl (G.2.2.1 0, 7, .inl (fun _ => 0)))]) hN 0 rfl rfl uin_X4 tyX4 tyX4_ok nmX4 2 (Nat.le_of_ble_eq_true rfl) tw_f_RX4_21 rfl rfl rfl (ty := (.array .int)) rfl rfl rfl (Nat.le_of_ble_eq_true rfl) rfl dX4_init_26 ?_
  refine z_aload_n dX4_init_29 rfl ?_
  refine z_bipush (v := 7) dX4_init_30 rfl ?_
  refine z_newi (N := 7) hw tw_o_84 (by decide) (by decide) (by decide) (Nat.le_of_ble_eq_true rfl) (Nat.le_of_ble_eq_true rfl) dX4_init_32 (fun a4 => ?_)
  refine z_putF (fs := [.ref a1, .ref a2, .ref a3, .null, .int 0, .int 0, .int 0, .int 0, .int 0, .int 0, .int 0]) (v := .ref a4) (ws' := [(q, .inr (4, [.ref a1, .ref a2, .ref a3, .ref a4, .int 0, .int 0, .int 0, .int 0, .int 0, .int 0, .int 0]))] ++ [(a1, .inl (G.2.2.1 2, 7, .inr (.inr (.inr (.inr (fun _ => none))))))] ++ [(a2, .inl (G.2.2.1 0, 7, .inl (fun _ => 0)))] ++ [(a3, .inl (G.2.2.1 0, 7, .inl (fun _ => 0)))] ++ [(a4, .inl (G.2.2.1 0, 7, .inl (fun _ => 0)))]) hN 0 rfl rfl uin_X4 tyX4 tyX4_ok nmX4 3 (Nat.le_of_ble_eq_true rfl) tw_f_RX4_24 rfl rfl rfl (ty := (.array .int)) rfl rfl rfl (Nat.le_of_ble_eq_true rfl) rfl dX4_init_34 ?_
  refine z_aload_n dX4_init_37 rfl ?_
  refine z_iconst (v := 0) dX4_init_38 rfl ?_
  refine z_put (fs := [.ref a1, .ref a2, .ref a3, .ref a4, .int 0, .int 0, .int 0, .int 0, .int 0, .int 0, .int 0]) (v := .int 0) (ws' := [(q, .inr (4, [.ref a1, .ref a2, .ref a3, .ref a4, .int 0, .int 0, .int 0, .int 0, .int 0, .int 0, .int 0]))] ++ [(a1, .inl (G.2.2.1 2, 7, .inr (.inr (.inr (.inr (fun _ => none))))))] ++ [(a2, .inl (G.2.2.1 0, 7, .inl (fun _ => 0)))] ++ [(a3, .inl (G.2.2.1 0, 7, .inl (fun _ => 0)))] ++ [(a4, .inl (G.2.2.1 0, 7, .inl (fun _ => 0)))]) 0 rfl rfl uin_X4 tyX4 tyX4_ok nmX4 4 (Nat.le_of_ble_eq_true rfl) tw_f_RX4_27 rfl rfl (ty := .int) rfl rfl rfl (Nat.le_of_ble_eq_true rfl) rfl dX4_init_39 ?_
  refine z_aload_n dX4_init_42 rfl ?_
  refine z_bipush (v := 8) dX4_init_43 rfl ?_
  refine z_put (fs := [.ref a1, .ref a2, .ref a3, .ref a4, .int 0, .int 0, .int 0, .int 0, .int 0, .int 0, .int 0]) (v := .int 8) (ws' := [(q, .inr (4, [.ref a1, .ref a2, .ref a3, .ref a4, .int 0, .int 8, .int 0, .int 0, .int 0, .int 0, .int 0]))] ++ [(a1, .inl (G.2.2.1 2, 7, .inr (.inr (.inr (.inr (fun _ => none))))))] ++ [(a2, .inl (G.2.2.1 0, 7, .inl (fun _ => 0)))] ++ [(a3, .inl (G.2.2.1 0, 7, .inl (fun _ => 0)))] ++ [(a4, .inl (G.2.2.1 0, 7, .inl (fun _ => 0)))]) 0 rfl rfl uin_X4 tyX4 tyX4_ok nmX4 5 (Nat.le_of_ble_eq_true rfl) tw_f_RX4_31 rfl rfl (ty := .int) rfl rfl rfl (Nat.le_of_ble_eq_true rfl) rfl dX4_init_45 ?_
  refine z_aload_n dX4_init_48 rfl ?_
  refine z_iconst (v := 0) dX4_init_49 rfl ?_
  refine z_put (fs := [.ref a1, .ref a2, .ref a3, .ref a4, .int 0, .int 8, .int 0, .int 0, .int 0, .int 0, .int 0]) (v := .int 0) (ws' := [(q, .inr (4, [.ref a1, .ref a2, .ref a3, .ref a4, .int 0, .int 8, .int 0, .int 0, .int 0, .int 0, .int 0]))] ++ [(a1, .inl (G.2.2.1 2, 7, .inr (.inr (.inr (.inr (fun _ => none))))))] ++ [(a2, .inl (G.2.2.1 0, 7, .inl (fun _ => 0)))] ++ [(a3, .inl (G.2.2.1 0, 7, .inl (fun _ => 0)))] ++ [(a4, .inl (G.2.2.1 0, 7, .inl (fun _ => 0)))]) 0 rfl rfl uin_X4 tyX4 tyX4_ok nmX4 6 (Nat.le_of_ble_eq_true rfl) tw_f_RX4_34 rfl rfl (ty := .int) rfl rfl rfl (Nat.le_of_ble_eq_true rfl) rfl dX4_init_50 ?_
  refine z_aload_n dX4_init_53 rfl ?_
  refine z_iconst (v := 5) dX4_init_54 rfl ?_
  refine z_put (fs := [.ref a1, .ref a2, .ref a3, .ref a4, .int 0, .int 8, .int 0, .int 0, .int 0, .int 0, .int 0]) (v := .int 5) (ws' := [(q, .inr (4, [.ref a1, .ref a2, .ref a3, .ref a4, .int 0, .int 8, .int 0, .int 5, .int 0, .int 0, .int 0]))] ++ [(a1, .inl (G.2.2.1 2, 7, .inr (.inr (.inr (.inr (fun _ => none))))))] ++ [(a2, .inl (G.2.2.1 0, 7, .inl (fun _ => 0)))] ++ [(a3, .inl (G.2.2.1 0, 7, .inl (fun _ => 0)))] ++ [(a4, .inl (G.2.2.1 0, 7, .inl (fun _ => 0)))]) 0 rfl rfl uin_X4 tyX4 tyX4_ok nmX4 7 (Nat.le_of_ble_eq_true rfl) tw_f_RX4_37 rfl rfl (ty := .int) rfl rfl rfl (Nat.le_of_ble_eq_true rfl) rfl dX4_init_55 ?_
  refine z_aload_n dX4_init_58 rfl ?_
  refine z_iconst (v := 1) dX4_init_59 rfl ?_
  refine z_put (fs := [.ref a1, .ref a2, .ref a3, .ref a4, .int 0, .int 8, .int 0, .int 5, .int 0, .int 0, .int 0]) (v := .int 1) (ws' := [(q, .inr (4, [.ref a1, .ref a2, .ref a3, .ref a4, .int 0, .int 8, .int 0, .int 5, .int 1, .int 0, .int 0]))] ++ [(a1, .inl (G.2.2.1 2, 7, .inr (.inr (.inr (.inr (fun _ => none))))))] ++ [(a2, .inl (G.2.2.1 0, 7, .inl (fun _ => 0)))] ++ [(a3, .inl (G.2.2.1 0, 7, .inl (fun _ => 0)))] ++ [(a4, .inl (G.2.2.1 0, 7, .inl (fun _ => 0)))]) 0 rfl rfl uin_X4 tyX4 tyX4_ok nmX4 8 (Nat.le_of_ble_eq_true rfl) tw_f_RX4_40 rfl rfl (ty := .int) rfl rfl rfl (Nat.le_of_ble_eq_true rfl) rfl dX4_init_60 ?_
  refine z_aload_n dX4_init_63 rfl ?_
  refine z_iconst (v := 0) dX4_init_64 rfl ?_
  refine z_put (fs := [.ref a1, .ref a2, .ref a3, .ref a4, .int 0, .int 8, .int 0, .int 5, .int 1, .int 0, .int 0]) (v := .int 0) (ws' := [(q, .inr (4, [.ref a1, .ref a2, .ref a3, .ref a4, .int 0, .int 8, .int 0, .int 5, .int 1, .int 0, .int 0]))] ++ [(a1, .inl (G.2.2.1 2, 7, .inr (.inr (.inr (.inr (fun _ => none))))))] ++ [(a2, .inl (G.2.2.1 0, 7, .inl (fun _ => 0)))] ++ [(a3, .inl (G.2.2.1 0, 7, .inl (fun _ => 0)))] ++ [(a4, .inl (G.2.2.1 0, 7, .inl (fun _ => 0)))]) 0 rfl rfl uin_X4 tyX4 tyX4_ok nmX4 9 (Nat.le_of_ble_eq_true rfl) tw_f_RX4_43 rfl rfl (ty := .int) rfl rfl rfl (Nat.le_of_ble_eq_true rfl) rfl dX4_init_65 ?_
  refine z_aload_n dX4_init_68 rfl ?_
  refine z_iconst (v := 1) dX4_init_69 rfl ?_
  refine z_put (fs := [.ref a1, .ref a2, .ref a3, .ref a4, .int 0, .int 8, .int 0, .int 5, .int 1, .int 0, .int 0]) (v := .int 1) (ws' := [(q, .inr (4, [.ref a1, .ref a2, .ref a3, .ref a4, .int 0, .int 8, .int 0, .int 5, .int 1, .int 0, .int 1]))] ++ [(a1, .inl (G.2.2.1 2, 7, .inr (.inr (.inr (.inr (fun _ => none))))))] ++ [(a2, .inl (G.2.2.1 0, 7, .inl (fun _ => 0)))] ++ [(a3, .inl (G.2.2.1 0, 7, .inl (fun _ => 0)))] ++ [(a4, .inl (G.2.2.1 0, 7, .inl (fun _ => 0)))]) 0 rfl rfl uin_X4 tyX4 tyX4_ok nmX4 10 (Nat.le_of_ble_eq_true rfl) tw_f_RX4_46 rfl rfl (ty := .int) rfl rfl rfl (Nat.le_of_ble_eq_true rfl) rfl dX4_init_70 ?_
  exact z_vret_W hQ rfl rfl rfl ⟨ad [q, a1, a2, a3, a4], rfl, rfl⟩ dX4_init_73
theorem dX5_init_0 : decode cX5_init 0 = .ok (.aload_n 0, 1) := by decide +kernel
theorem dX5_init_1 : decode cX5_init 1 = .ok (.invokespecial 3, 3) := by decide +kernel
theorem dX5_init_4 : decode cX5_init 4 = .ok (.aload_n 0, 1) := by decide +kernel
theorem dX5_init_5 : decode cX5_init 5 = .ok (.sipush 160, 3) := by decide +kernel
theorem dX5_init_8 : decode cX5_init 8 = .ok (.newarray .long, 2) := by decide +kernel
theorem dX5_init_10 : decode cX5_init 10 = .ok (.putfield 9, 3) := by decide +kernel
theorem dX5_init_13 : decode cX5_init 13 = .ok (.aload_n 0, 1) := by decide +kernel
theorem dX5_init_14 : decode cX5_init 14 = .ok (.iconst (-1), 1) := by decide +kernel
theorem dX5_init_15 : decode cX5_init 15 = .ok (.putfield 15, 3) := by decide +kernel
theorem dX5_init_18 : decode cX5_init 18 = .ok (.aload_n 0, 1) := by decide +kernel
theorem dX5_init_19 : decode cX5_init 19 = .ok (.iconst 0, 1) := by decide +kernel
theorem dX5_init_20 : decode cX5_init 20 = .ok (.putfield 19, 3) := by decide +kernel
theorem dX5_init_23 : decode cX5_init 23 = .ok (.return_, 1) := by decide +kernel
abbrev k_X5_init : zK := (cX5_init, 1, RX5, none, ({ frames := 1, cells := 1, slots := 160, locals := 12 } : Room))
theorem zc_X5_init : zcal yX5_init k_X5_init.1 k_X5_init.2.1 k_X5_init.2.2.2.1 0 := ⟨tw_code_yX5_init, tw_i_TollForHesitators_Shelf, ⟨by decide +kernel, by decide +kernel⟩, by decide +kernel⟩
set_option maxRecDepth 8000 in
set_option maxHeartbeats 40000000 in
theorem c_X5_init {l : Launch} (G : zG) (P : pT) (q : Nat) (sz : Nat) : Met l yX5_init (.code yX5_init k_X5_init.1 k_X5_init.2.1 k_X5_init.2.2.2.1 :: TS) k_X5_init.2.2.2.2 (Pz G [.ref q] (Fw G (gX G P) ([(q, .inr (5, [.null, .int 0, .int 0]))]) sz)) (Qwv G (fun w => ∃ a : Nat → Nat, a 0 = q ∧ w = shW G a sI) (va_A ([(q, .inr (5, [.null, .int 0, .int 0]))]) sz)) 1 160 (va_A ([(q, .inr (5, [.null, .int 0, .int 0]))]) sz) := by
  refine zmet (K := k_X5_init) (by decide +kernel) rfl rfl (fun Γ hl0 hQ hN hF => ?_)
  refine z_start (gX_ok G P) hF (fun hw => ?_)
  generalize va_A ([(q, .inr (5, [.null, .int 0, .int 0]))]) sz = A at hQ hw ⊢
  show Z k_X5_init G Γ _ 0 0 [(0, .ref q)] 0 []
  refine z_aload_n dX5_init_0 rfl ?_
  refine z_objinit tw_m_RX5_3 tw_inst_objectInit tw_objcode ⟨Nat.le_of_ble_eq_true rfl, Nat.le_of_ble_eq_true rfl⟩ dX5_init_1 ?_
  refine z_aload_n dX5_init_4 rfl ?_
  refine z_sipush (v := 160) dX5_init_5 rfl ?_
  refine z_newl (N := 160) hw tw_o_107 (by decide) (by decide) (by decide) (Nat.le_of_ble_eq_true rfl) (Nat.le_of_ble_eq_true rfl) dX5_init_8 (fun a1 => ?_)
  refine z_putF (fs := [.null, .int 0, .int 0]) (v := .ref a1) (ws' := [(q, .inr (5, [.ref a1, .int 0, .int 0]))] ++ [(a1, .inl (G.2.2.1 1, 160, .inr (.inl (fun _ => 0))))]) hN 0 rfl rfl uin_X5 tyX5 tyX5_ok nmX5 0 (Nat.le_of_ble_eq_true rfl) tw_f_RX5_9 rfl rfl rfl (ty := (.array .long)) rfl rfl rfl (Nat.le_of_ble_eq_true rfl) rfl dX5_init_10 ?_
  refine z_aload_n dX5_init_13 rfl ?_
  refine z_iconst (v := (-1)) dX5_init_14 rfl ?_
  refine z_put (fs := [.ref a1, .int 0, .int 0]) (v := .int (-1)) (ws' := [(q, .inr (5, [.ref a1, .int (-1), .int 0]))] ++ [(a1, .inl (G.2.2.1 1, 160, .inr (.inl (fun _ => 0))))]) 0 rfl rfl uin_X5 tyX5 tyX5_ok nmX5 1 (Nat.le_of_ble_eq_true rfl) tw_f_RX5_15 rfl rfl (ty := .int) rfl rfl rfl (Nat.le_of_ble_eq_true rfl) rfl dX5_init_15 ?_
  refine z_aload_n dX5_init_18 rfl ?_
  refine z_iconst (v := 0) dX5_init_19 rfl ?_
  refine z_put (fs := [.ref a1, .int (-1), .int 0]) (v := .int 0) (ws' := [(q, .inr (5, [.ref a1, .int (-1), .int 0]))] ++ [(a1, .inl (G.2.2.1 1, 160, .inr (.inl (fun _ => 0))))]) 0 rfl rfl uin_X5 tyX5 tyX5_ok nmX5 2 (Nat.le_of_ble_eq_true rfl) tw_f_RX5_19 rfl rfl (ty := .int) rfl rfl rfl (Nat.le_of_ble_eq_true rfl) rfl dX5_init_20 ?_
  exact z_vret_W hQ rfl rfl rfl ⟨ad [q, a1], rfl, rfl⟩ dX5_init_23
theorem dX3_init_0 : decode cX3_init 0 = .ok (.aload_n 0, 1) := by decide +kernel
theorem dX3_init_1 : decode cX3_init 1 = .ok (.invokespecial 3, 3) := by decide +kernel
theorem dX3_init_4 : decode cX3_init 4 = .ok (.aload_n 0, 1) := by decide +kernel
theorem dX3_init_5 : decode cX3_init 5 = .ok (.bipush 6, 2) := by decide +kernel
theorem dX3_init_7 : decode cX3_init 7 = .ok (.newarray .int, 2) := by decide +kernel
theorem dX3_init_9 : decode cX3_init 9 = .ok (.putfield 9, 3) := by decide +kernel
theorem dX3_init_12 : decode cX3_init 12 = .ok (.aload_n 0, 1) := by decide +kernel
theorem dX3_init_13 : decode cX3_init 13 = .ok (.iconst (-1), 1) := by decide +kernel
theorem dX3_init_14 : decode cX3_init 14 = .ok (.putfield 15, 3) := by decide +kernel
theorem dX3_init_17 : decode cX3_init 17 = .ok (.aload_n 0, 1) := by decide +kernel
theorem dX3_init_18 : decode cX3_init 18 = .ok (.iconst 0, 1) := by decide +kernel
theorem dX3_init_19 : decode cX3_init 19 = .ok (.putfield 19, 3) := by decide +kernel
theorem dX3_init_22 : decode cX3_init 22 = .ok (.aload_n 0, 1) := by decide +kernel
theorem dX3_init_23 : decode cX3_init 23 = .ok (.iconst 0, 1) := by decide +kernel
theorem dX3_init_24 : decode cX3_init 24 = .ok (.newarray .long, 2) := by decide +kernel
theorem dX3_init_26 : decode cX3_init 26 = .ok (.putfield 22, 3) := by decide +kernel
theorem dX3_init_29 : decode cX3_init 29 = .ok (.aload_n 0, 1) := by decide +kernel
theorem dX3_init_30 : decode cX3_init 30 = .ok (.iconst 0, 1) := by decide +kernel
theorem dX3_init_31 : decode cX3_init 31 = .ok (.putfield 26, 3) := by decide +kernel
theorem dX3_init_34 : decode cX3_init 34 = .ok (.aload_n 0, 1) := by decide +kernel
theorem dX3_init_35 : decode cX3_init 35 = .ok (.iconst 0, 1) := by decide +kernel
theorem dX3_init_36 : decode cX3_init 36 = .ok (.putfield 29, 3) := by decide +kernel
theorem dX3_init_39 : decode cX3_init 39 = .ok (.aload_n 0, 1) := by decide +kernel
theorem dX3_init_40 : decode cX3_init 40 = .ok (.iconst 0, 1) := by decide +kernel
theorem dX3_init_41 : decode cX3_init 41 = .ok (.putfield 32, 3) := by decide +kernel
theorem dX3_init_44 : decode cX3_init 44 = .ok (.return_, 1) := by decide +kernel
abbrev k_X3_init : zK := (cX3_init, 1, RX3, none, ({ frames := 1, cells := 2, slots := 6, locals := 12 } : Room))
theorem zc_X3_init : zcal yX3_init k_X3_init.1 k_X3_init.2.1 k_X3_init.2.2.2.1 0 := ⟨tw_code_yX3_init, tw_i_TollForHesitators_Reader, ⟨by decide +kernel, by decide +kernel⟩, by decide +kernel⟩
set_option maxRecDepth 8000 in
set_option maxHeartbeats 40000000 in
theorem c_X3_init {l : Launch} (G : zG) (P : pT) (q : Nat) (sz : Nat) : Met l yX3_init (.code yX3_init k_X3_init.1 k_X3_init.2.1 k_X3_init.2.2.2.1 :: TS) k_X3_init.2.2.2.2 (Pz G [.ref q] (Fw G (gX G P) ([(q, .inr (3, [.null, .int 0, .int 0, .null, .int 0, .int 0, .int 0]))]) sz)) (Qwv G (fun w => ∃ (a : Nat → Nat) (b : Nat), a 0 = q ∧ w = re2W G a b eI) (va_A ([(q, .inr (3, [.null, .int 0, .int 0, .null, .int 0, .int 0, .int 0]))]) sz)) 2 6 (va_A ([(q, .inr (3, [.null, .int 0, .int 0, .null, .int 0, .int 0, .int 0]))]) sz) := by
  refine zmet (K := k_X3_init) (by decide +kernel) rfl rfl (fun Γ hl0 hQ hN hF => ?_)
  refine z_start (gX_ok G P) hF (fun hw => ?_)
  generalize va_A ([(q, .inr (3, [.null, .int 0, .int 0, .null, .int 0, .int 0, .int 0]))]) sz = A at hQ hw ⊢
  show Z k_X3_init G Γ _ 0 0 [(0, .ref q)] 0 []
  refine z_aload_n dX3_init_0 rfl ?_
  refine z_objinit tw_m_RX3_3 tw_inst_objectInit tw_objcode ⟨Nat.le_of_ble_eq_true rfl, Nat.le_of_ble_eq_true rfl⟩ dX3_init_1 ?_
  refine z_aload_n dX3_init_4 rfl ?_
  refine z_bipush (v := 6) dX3_init_5 rfl ?_
  refine z_newi (N := 6) hw tw_o_84 (by decide) (by decide) (by decide) (Nat.le_of_ble_eq_true rfl) (Nat.le_of_ble_eq_true rfl) dX3_init_7 (fun a1 => ?_)
  refine z_putF (fs := [.null, .int 0, .int 0, .null, .int 0, .int 0, .int 0]) (v := .ref a1) (ws' := [(q, .inr (3, [.ref a1, .int 0, .int 0, .null, .int 0, .int 0, .int 0]))] ++ [(a1, .inl (G.2.2.1 0, 6, .inl (fun _ => 0)))]) hN 0 rfl rfl uin_X3 tyX3 tyX3_ok nmX3 0 (Nat.le_of_ble_eq_true rfl) tw_f_RX3_9 rfl rfl rfl (ty := (.array .int)) rfl rfl rfl (Nat.le_of_ble_eq_true rfl) rfl dX3_init_9 ?_
  refine z_aload_n dX3_init_12 rfl ?_
  refine z_iconst (v := (-1)) dX3_init_13 rfl ?_
  refine z_put (fs := [.ref a1, .int 0, .int 0, .null, .int 0, .int 0, .int 0]) (v := .int (-1)) (ws' := [(q, .inr (3, [.ref a1, .int (-1), .int 0, .null, .int 0, .int 0, .int 0]))] ++ [(a1, .inl (G.2.2.1 0, 6, .inl (fun _ => 0)))]) 0 rfl rfl uin_X3 tyX3 tyX3_ok nmX3 1 (Nat.le_of_ble_eq_true rfl) tw_f_RX3_15 rfl rfl (ty := .int) rfl rfl rfl (Nat.le_of_ble_eq_true rfl) rfl dX3_init_14 ?_
  refine z_aload_n dX3_init_17 rfl ?_
  refine z_iconst (v := 0) dX3_init_18 rfl ?_
  refine z_put (fs := [.ref a1, .int (-1), .int 0, .null, .int 0, .int 0, .int 0]) (v := .int 0) (ws' := [(q, .inr (3, [.ref a1, .int (-1), .int 0, .null, .int 0, .int 0, .int 0]))] ++ [(a1, .inl (G.2.2.1 0, 6, .inl (fun _ => 0)))]) 0 rfl rfl uin_X3 tyX3 tyX3_ok nmX3 2 (Nat.le_of_ble_eq_true rfl) tw_f_RX3_19 rfl rfl (ty := .int) rfl rfl rfl (Nat.le_of_ble_eq_true rfl) rfl dX3_init_19 ?_
  refine z_aload_n dX3_init_22 rfl ?_
  refine z_iconst (v := 0) dX3_init_23 rfl ?_
  refine z_newl (N := 0) hw tw_o_107 (by decide) (by decide) (by decide) (Nat.le_of_ble_eq_true rfl) (Nat.le_of_ble_eq_true rfl) dX3_init_24 (fun a2 => ?_)
  refine z_put (fs := [.ref a1, .int (-1), .int 0, .null, .int 0, .int 0, .int 0]) (v := .ref a2) (ws' := [(q, .inr (3, [.ref a1, .int (-1), .int 0, .ref a2, .int 0, .int 0, .int 0]))] ++ [(a1, .inl (G.2.2.1 0, 6, .inl (fun _ => 0)))] ++ [(a2, .inl (G.2.2.1 1, 0, .inr (.inl (fun _ => 0))))]) 0 rfl rfl uin_X3 tyX3 tyX3_ok nmX3 3 (Nat.le_of_ble_eq_true rfl) tw_f_RX3_22 rfl rfl (ty := (.array .long)) rfl rfl rfl (Nat.le_of_ble_eq_true rfl) rfl dX3_init_26 ?_
  refine z_aload_n dX3_init_29 rfl ?_
  refine z_iconst (v := 0) dX3_init_30 rfl ?_
  refine z_put (fs := [.ref a1, .int (-1), .int 0, .ref a2, .int 0, .int 0, .int 0]) (v := .int 0) (ws' := [(q, .inr (3, [.ref a1, .int (-1), .int 0, .ref a2, .int 0, .int 0, .int 0]))] ++ [(a1, .inl (G.2.2.1 0, 6, .inl (fun _ => 0)))] ++ [(a2, .inl (G.2.2.1 1, 0, .inr (.inl (fun _ => 0))))]) 0 rfl rfl uin_X3 tyX3 tyX3_ok nmX3 4 (Nat.le_of_ble_eq_true rfl) tw_f_RX3_26 rfl rfl (ty := .int) rfl rfl rfl (Nat.le_of_ble_eq_true rfl) rfl dX3_init_31 ?_
  refine z_aload_n dX3_init_34 rfl ?_
  refine z_iconst (v := 0) dX3_init_35 rfl ?_
  refine z_put (fs := [.ref a1, .int (-1), .int 0, .ref a2, .int 0, .int 0, .int 0]) (v := .int 0) (ws' := [(q, .inr (3, [.ref a1, .int (-1), .int 0, .ref a2, .int 0, .int 0, .int 0]))] ++ [(a1, .inl (G.2.2.1 0, 6, .inl (fun _ => 0)))] ++ [(a2, .inl (G.2.2.1 1, 0, .inr (.inl (fun _ => 0))))]) 0 rfl rfl uin_X3 tyX3 tyX3_ok nmX3 5 (Nat.le_of_ble_eq_true rfl) tw_f_RX3_29 rfl rfl (ty := .int) rfl rfl rfl (Nat.le_of_ble_eq_true rfl) rfl dX3_init_36 ?_
  refine z_aload_n dX3_init_39 rfl ?_
  refine z_iconst (v := 0) dX3_init_40 rfl ?_
  refine z_put (fs := [.ref a1, .int (-1), .int 0, .ref a2, .int 0, .int 0, .int 0]) (v := .int 0) (ws' := [(q, .inr (3, [.ref a1, .int (-1), .int 0, .ref a2, .int 0, .int 0, .int 0]))] ++ [(a1, .inl (G.2.2.1 0, 6, .inl (fun _ => 0)))] ++ [(a2, .inl (G.2.2.1 1, 0, .inr (.inl (fun _ => 0))))]) 0 rfl rfl uin_X3 tyX3 tyX3_ok nmX3 6 (Nat.le_of_ble_eq_true rfl) tw_f_RX3_32 rfl rfl (ty := .int) rfl rfl rfl (Nat.le_of_ble_eq_true rfl) rfl dX3_init_41 ?_
  refine z_arr (ws' := [(q, .inr (3, [.ref a1, .int (-1), .int 0, .ref a2, .int 0, .int 0, .int 0]))] ++ [(a1, .inl (G.2.2.1 0, 6, .inl (fun _ => 0)))]) [0, 1] rfl rfl ?_
  exact z_vret_W hQ rfl rfl rfl ⟨ad [q, a1], a2, rfl, rfl⟩ dX3_init_44
theorem dX2_init_0 : decode cX2_init 0 = .ok (.aload_n 0, 1) := by decide +kernel
theorem dX2_init_1 : decode cX2_init 1 = .ok (.invokespecial 3, 3) := by decide +kernel
theorem dX2_init_4 : decode cX2_init 4 = .ok (.aload_n 0, 1) := by decide +kernel
theorem dX2_init_5 : decode cX2_init 5 = .ok (.bipush 7, 2) := by decide +kernel
theorem dX2_init_7 : decode cX2_init 7 = .ok (.newarray .int, 2) := by decide +kernel
theorem dX2_init_9 : decode cX2_init 9 = .ok (.putfield 9, 3) := by decide +kernel
theorem dX2_init_12 : decode cX2_init 12 = .ok (.aload_n 0, 1) := by decide +kernel
theorem dX2_init_13 : decode cX2_init 13 = .ok (.bipush 7, 2) := by decide +kernel
theorem dX2_init_15 : decode cX2_init 15 = .ok (.newarray .int, 2) := by decide +kernel
theorem dX2_init_17 : decode cX2_init 17 = .ok (.putfield 15, 3) := by decide +kernel
theorem dX2_init_20 : decode cX2_init 20 = .ok (.aload_n 0, 1) := by decide +kernel
theorem dX2_init_21 : decode cX2_init 21 = .ok (.iconst 0, 1) := by decide +kernel
theorem dX2_init_22 : decode cX2_init 22 = .ok (.putfield 18, 3) := by decide +kernel
theorem dX2_init_25 : decode cX2_init 25 = .ok (.aload_n 0, 1) := by decide +kernel
theorem dX2_init_26 : decode cX2_init 26 = .ok (.iconst 0, 1) := by decide +kernel
theorem dX2_init_27 : decode cX2_init 27 = .ok (.putfield 22, 3) := by decide +kernel
theorem dX2_init_30 : decode cX2_init 30 = .ok (.aload_n 0, 1) := by decide +kernel
theorem dX2_init_31 : decode cX2_init 31 = .ok (.iconst 0, 1) := by decide +kernel
theorem dX2_init_32 : decode cX2_init 32 = .ok (.putfield 25, 3) := by decide +kernel
theorem dX2_init_35 : decode cX2_init 35 = .ok (.aload_n 0, 1) := by decide +kernel
theorem dX2_init_36 : decode cX2_init 36 = .ok (.iconst 0, 1) := by decide +kernel
theorem dX2_init_37 : decode cX2_init 37 = .ok (.putfield 28, 3) := by decide +kernel
theorem dX2_init_40 : decode cX2_init 40 = .ok (.aload_n 0, 1) := by decide +kernel
theorem dX2_init_41 : decode cX2_init 41 = .ok (.iconst 0, 1) := by decide +kernel
theorem dX2_init_42 : decode cX2_init 42 = .ok (.putfield 31, 3) := by decide +kernel
theorem dX2_init_45 : decode cX2_init 45 = .ok (.aload_n 0, 1) := by decide +kernel
theorem dX2_init_46 : decode cX2_init 46 = .ok (.aload_n 1, 1) := by decide +kernel
theorem dX2_init_47 : decode cX2_init 47 = .ok (.putfield 34, 3) := by decide +kernel
theorem dX2_init_50 : decode cX2_init 50 = .ok (.return_, 1) := by decide +kernel
abbrev k_X2_init : zK := (cX2_init, 2, RX2, none, ({ frames := 1, cells := 2, slots := 14, locals := 12 } : Room))
theorem zc_X2_init : zcal yX2_init k_X2_init.1 k_X2_init.2.1 k_X2_init.2.2.2.1 1 := ⟨tw_code_yX2_init, tw_i_TollForHesitators_Order, ⟨by decide +kernel, by decide +kernel⟩, by decide +kernel⟩
set_option maxRecDepth 8000 in
set_option maxHeartbeats 40000000 in
theorem c_X2_init {l : Launch} (G : zG) (P : pT) (q : Nat) (b : Nat) (sz : Nat) : Met l yX2_init (.code yX2_init k_X2_init.1 k_X2_init.2.1 k_X2_init.2.2.2.1 :: TS) k_X2_init.2.2.2.2 (Pz G [.ref q, .ref b] (Fw G (gX G P) ([(q, .inr (2, [.null, .null, .null, .int 0, .int 0, .int 0, .int 0, .int 0]))]) sz)) (Qwv G (fun w => ∃ a : Nat → Nat, a 0 = q ∧ w = orW G a (fun _ => b) oI) (va_A ([(q, .inr (2, [.null, .null, .null, .int 0, .int 0, .int 0, .int 0, .int 0]))]) sz)) 2 14 (va_A ([(q, .inr (2, [.null, .null, .null, .int 0, .int 0, .int 0, .int 0, .int 0]))]) sz) := by
  refine zmet (K := k_X2_init) (by decide +kernel) rfl rfl (fun Γ hl0 hQ hN hF => ?_)
  refine z_start (gX_ok G P) hF (fun hw => ?_)
  generalize va_A ([(q, .inr (2, [.null, .null, .null, .int 0, .int 0, .int 0, .int 0, .int 0]))]) sz = A at hQ hw ⊢
  show Z k_X2_init G Γ _ 0 0 [(0, .ref q), (1, .ref b)] 0 []
  refine z_aload_n dX2_init_0 rfl ?_
  refine z_objinit tw_m_RX2_3 tw_inst_objectInit tw_objcode ⟨Nat.le_of_ble_eq_true rfl, Nat.le_of_ble_eq_true rfl⟩ dX2_init_1 ?_
  refine z_aload_n dX2_init_4 rfl ?_
  refine z_bipush (v := 7) dX2_init_5 rfl ?_
  refine z_newi (N := 7) hw tw_o_84 (by decide) (by decide) (by decide) (Nat.le_of_ble_eq_true rfl) (Nat.le_of_ble_eq_true rfl) dX2_init_7 (fun a1 => ?_)
  refine z_putF (fs := [.null, .null, .null, .int 0, .int 0, .int 0, .int 0, .int 0]) (v := .ref a1) (ws' := [(q, .inr (2, [.null, .ref a1, .null, .int 0, .int 0, .int 0, .int 0, .int 0]))] ++ [(a1, .inl (G.2.2.1 0, 7, .inl (fun _ => 0)))]) hN 0 rfl rfl uin_X2 tyX2 tyX2_ok nmX2 1 (Nat.le_of_ble_eq_true rfl) tw_f_RX2_9 rfl rfl rfl (ty := (.array .int)) rfl rfl rfl (Nat.le_of_ble_eq_true rfl) rfl dX2_init_9 ?_
  refine z_aload_n dX2_init_12 rfl ?_
  refine z_bipush (v := 7) dX2_init_13 rfl ?_
  refine z_newi (N := 7) hw tw_o_84 (by decide) (by decide) (by decide) (Nat.le_of_ble_eq_true rfl) (Nat.le_of_ble_eq_true rfl) dX2_init_15 (fun a2 => ?_)
  refine z_putF (fs := [.null, .ref a1, .null, .int 0, .int 0, .int 0, .int 0, .int 0]) (v := .ref a2) (ws' := [(q, .inr (2, [.null, .ref a1, .ref a2, .int 0, .int 0, .int 0, .int 0, .int 0]))] ++ [(a1, .inl (G.2.2.1 0, 7, .inl (fun _ => 0)))] ++ [(a2, .inl (G.2.2.1 0, 7, .inl (fun _ => 0)))]) hN 0 rfl rfl uin_X2 tyX2 tyX2_ok nmX2 2 (Nat.le_of_ble_eq_true rfl) tw_f_RX2_15 rfl rfl rfl (ty := (.array .int)) rfl rfl rfl (Nat.le_of_ble_eq_true rfl) rfl dX2_init_17 ?_
  refine z_aload_n dX2_init_20 rfl ?_
  refine z_iconst (v := 0) dX2_init_21 rfl ?_
  refine z_put (fs := [.null, .ref a1, .ref a2, .int 0, .int 0, .int 0, .int 0, .int 0]) (v := .int 0) (ws' := [(q, .inr (2, [.null, .ref a1, .ref a2, .int 0, .int 0, .int 0, .int 0, .int 0]))] ++ [(a1, .inl (G.2.2.1 0, 7, .inl (fun _ => 0)))] ++ [(a2, .inl (G.2.2.1 0, 7, .inl (fun _ => 0)))]) 0 rfl rfl uin_X2 tyX2 tyX2_ok nmX2 3 (Nat.le_of_ble_eq_true rfl) tw_f_RX2_18 rfl rfl (ty := .int) rfl rfl rfl (Nat.le_of_ble_eq_true rfl) rfl dX2_init_22 ?_
  refine z_aload_n dX2_init_25 rfl ?_
  refine z_iconst (v := 0) dX2_init_26 rfl ?_
  refine z_put (fs := [.null, .ref a1, .ref a2, .int 0, .int 0, .int 0, .int 0, .int 0]) (v := .int 0) (ws' := [(q, .inr (2, [.null, .ref a1, .ref a2, .int 0, .int 0, .int 0, .int 0, .int 0]))] ++ [(a1, .inl (G.2.2.1 0, 7, .inl (fun _ => 0)))] ++ [(a2, .inl (G.2.2.1 0, 7, .inl (fun _ => 0)))]) 0 rfl rfl uin_X2 tyX2 tyX2_ok nmX2 4 (Nat.le_of_ble_eq_true rfl) tw_f_RX2_22 rfl rfl (ty := .int) rfl rfl rfl (Nat.le_of_ble_eq_true rfl) rfl dX2_init_27 ?_
  refine z_aload_n dX2_init_30 rfl ?_
  refine z_iconst (v := 0) dX2_init_31 rfl ?_
  refine z_put (fs := [.null, .ref a1, .ref a2, .int 0, .int 0, .int 0, .int 0, .int 0]) (v := .int 0) (ws' := [(q, .inr (2, [.null, .ref a1, .ref a2, .int 0, .int 0, .int 0, .int 0, .int 0]))] ++ [(a1, .inl (G.2.2.1 0, 7, .inl (fun _ => 0)))] ++ [(a2, .inl (G.2.2.1 0, 7, .inl (fun _ => 0)))]) 0 rfl rfl uin_X2 tyX2 tyX2_ok nmX2 5 (Nat.le_of_ble_eq_true rfl) tw_f_RX2_25 rfl rfl (ty := .int) rfl rfl rfl (Nat.le_of_ble_eq_true rfl) rfl dX2_init_32 ?_
  refine z_aload_n dX2_init_35 rfl ?_
  refine z_iconst (v := 0) dX2_init_36 rfl ?_
  refine z_put (fs := [.null, .ref a1, .ref a2, .int 0, .int 0, .int 0, .int 0, .int 0]) (v := .int 0) (ws' := [(q, .inr (2, [.null, .ref a1, .ref a2, .int 0, .int 0, .int 0, .int 0, .int 0]))] ++ [(a1, .inl (G.2.2.1 0, 7, .inl (fun _ => 0)))] ++ [(a2, .inl (G.2.2.1 0, 7, .inl (fun _ => 0)))]) 0 rfl rfl uin_X2 tyX2 tyX2_ok nmX2 6 (Nat.le_of_ble_eq_true rfl) tw_f_RX2_28 rfl rfl (ty := .int) rfl rfl rfl (Nat.le_of_ble_eq_true rfl) rfl dX2_init_37 ?_
  refine z_aload_n dX2_init_40 rfl ?_
  refine z_iconst (v := 0) dX2_init_41 rfl ?_
  refine z_put (fs := [.null, .ref a1, .ref a2, .int 0, .int 0, .int 0, .int 0, .int 0]) (v := .int 0) (ws' := [(q, .inr (2, [.null, .ref a1, .ref a2, .int 0, .int 0, .int 0, .int 0, .int 0]))] ++ [(a1, .inl (G.2.2.1 0, 7, .inl (fun _ => 0)))] ++ [(a2, .inl (G.2.2.1 0, 7, .inl (fun _ => 0)))]) 0 rfl rfl uin_X2 tyX2 tyX2_ok nmX2 7 (Nat.le_of_ble_eq_true rfl) tw_f_RX2_31 rfl rfl (ty := .int) rfl rfl rfl (Nat.le_of_ble_eq_true rfl) rfl dX2_init_42 ?_
  refine z_aload_n dX2_init_45 rfl ?_
  refine z_aload_n dX2_init_46 rfl ?_
  refine z_putF (fs := [.null, .ref a1, .ref a2, .int 0, .int 0, .int 0, .int 0, .int 0]) (v := .ref b) (ws' := [(q, .inr (2, [.ref b, .ref a1, .ref a2, .int 0, .int 0, .int 0, .int 0, .int 0]))] ++ [(a1, .inl (G.2.2.1 0, 7, .inl (fun _ => 0)))] ++ [(a2, .inl (G.2.2.1 0, 7, .inl (fun _ => 0)))]) hN 0 rfl rfl uin_X2 tyX2 tyX2_ok nmX2 0 (Nat.le_of_ble_eq_true rfl) tw_f_RX2_34 rfl rfl rfl (ty := (.object RX4)) rfl rfl rfl (Nat.le_of_ble_eq_true rfl) rfl dX2_init_47 ?_
  exact z_vret_W hQ rfl rfl rfl ⟨ad [q, a1, a2], rfl, rfl⟩ dX2_init_50
theorem dX1_init_0 : decode cX1_init 0 = .ok (.aload_n 0, 1) := by decide +kernel
theorem dX1_init_1 : decode cX1_init 1 = .ok (.invokespecial 3, 3) := by decide +kernel
theorem dX1_init_4 : decode cX1_init 4 = .ok (.aload_n 0, 1) := by decide +kernel
theorem dX1_init_5 : decode cX1_init 5 = .ok (.bipush 20, 2) := by decide +kernel
theorem dX1_init_7 : decode cX1_init 7 = .ok (.newarray .int, 2) := by decide +kernel
theorem dX1_init_9 : decode cX1_init 9 = .ok (.putfield 9, 3) := by decide +kernel
theorem dX1_init_12 : decode cX1_init 12 = .ok (.aload_n 0, 1) := by decide +kernel
theorem dX1_init_13 : decode cX1_init 13 = .ok (.iconst 0, 1) := by decide +kernel
theorem dX1_init_14 : decode cX1_init 14 = .ok (.putfield 15, 3) := by decide +kernel
theorem dX1_init_17 : decode cX1_init 17 = .ok (.aload_n 0, 1) := by decide +kernel
theorem dX1_init_18 : decode cX1_init 18 = .ok (.aconst_null, 1) := by decide +kernel
theorem dX1_init_19 : decode cX1_init 19 = .ok (.putfield 19, 3) := by decide +kernel
theorem dX1_init_22 : decode cX1_init 22 = .ok (.return_, 1) := by decide +kernel
abbrev k_X1_init : zK := (cX1_init, 1, RX1, none, ({ frames := 1, cells := 1, slots := 20, locals := 12 } : Room))
theorem zc_X1_init : zcal yX1_init k_X1_init.1 k_X1_init.2.1 k_X1_init.2.2.2.1 0 := ⟨tw_code_yX1_init, tw_i_TollForHesitators_Moves, ⟨by decide +kernel, by decide +kernel⟩, by decide +kernel⟩
set_option maxRecDepth 8000 in
set_option maxHeartbeats 40000000 in
theorem c_X1_init {l : Launch} (G : zG) (P : pT) (q : Nat) (sz : Nat) : Met l yX1_init (.code yX1_init k_X1_init.1 k_X1_init.2.1 k_X1_init.2.2.2.1 :: TS) k_X1_init.2.2.2.2 (Pz G [.ref q] (Fw G (gX G P) ([(q, .inr (1, [.null, .int 0, .null]))]) sz)) (Qwv G (fun w => ∃ a : Nat → Nat, a 0 = q ∧ w = mvW G a vI) (va_A ([(q, .inr (1, [.null, .int 0, .null]))]) sz)) 1 20 (va_A ([(q, .inr (1, [.null, .int 0, .null]))]) sz) := by
  refine zmet (K := k_X1_init) (by decide +kernel) rfl rfl (fun Γ hl0 hQ hN hF => ?_)
  refine z_start (gX_ok G P) hF (fun hw => ?_)
  generalize va_A ([(q, .inr (1, [.null, .int 0, .null]))]) sz = A at hQ hw ⊢
  show Z k_X1_init G Γ _ 0 0 [(0, .ref q)] 0 []
  refine z_aload_n dX1_init_0 rfl ?_
  refine z_objinit tw_m_RX1_3 tw_inst_objectInit tw_objcode ⟨Nat.le_of_ble_eq_true rfl, Nat.le_of_ble_eq_true rfl⟩ dX1_init_1 ?_
  refine z_aload_n dX1_init_4 rfl ?_
  refine z_bipush (v := 20) dX1_init_5 rfl ?_
  refine z_newi (N := 20) hw tw_o_84 (by decide) (by decide) (by decide) (Nat.le_of_ble_eq_true rfl) (Nat.le_of_ble_eq_true rfl) dX1_init_7 (fun a1 => ?_)
  refine z_putF (fs := [.null, .int 0, .null]) (v := .ref a1) (ws' := [(q, .inr (1, [.ref a1, .int 0, .null]))] ++ [(a1, .inl (G.2.2.1 0, 20, .inl (fun _ => 0)))]) hN 0 rfl rfl uin_X1 tyX1 tyX1_ok nmX1 0 (Nat.le_of_ble_eq_true rfl) tw_f_RX1_9 rfl rfl rfl (ty := (.array .int)) rfl rfl rfl (Nat.le_of_ble_eq_true rfl) rfl dX1_init_9 ?_
  refine z_aload_n dX1_init_12 rfl ?_
  refine z_iconst (v := 0) dX1_init_13 rfl ?_
  refine z_put (fs := [.ref a1, .int 0, .null]) (v := .int 0) (ws' := [(q, .inr (1, [.ref a1, .int 0, .null]))] ++ [(a1, .inl (G.2.2.1 0, 20, .inl (fun _ => 0)))]) 0 rfl rfl uin_X1 tyX1 tyX1_ok nmX1 1 (Nat.le_of_ble_eq_true rfl) tw_f_RX1_15 rfl rfl (ty := .int) rfl rfl rfl (Nat.le_of_ble_eq_true rfl) rfl dX1_init_14 ?_
  refine z_aload_n dX1_init_17 rfl ?_
  refine z_null dX1_init_18 ?_
  refine z_put (fs := [.ref a1, .int 0, .null]) (v := .null) (ws' := [(q, .inr (1, [.ref a1, .int 0, .null]))] ++ [(a1, .inl (G.2.2.1 0, 20, .inl (fun _ => 0)))]) 0 rfl rfl uin_X1 tyX1 tyX1_ok nmX1 2 (Nat.le_of_ble_eq_true rfl) tw_f_RX1_19 rfl rfl (ty := (.object RX0)) rfl rfl rfl (Nat.le_of_ble_eq_true rfl) rfl dX1_init_19 ?_
  exact z_vret_W hQ rfl rfl rfl ⟨ad [q, a1], rfl, rfl⟩ dX1_init_22
