theorem tw_m_RX4_3 : Cond.methodLink RX4 3 objectInit ∈ TS := ts_mem 96 (by decide +kernel) rfl
theorem tw_o_84 : Cond.arrayClass .int ∈ TS := ts_mem 151 (by decide +kernel) rfl
theorem tw_code_yX4_init : Cond.code yX4_init cX4_init 1 none ∈ TS := ts_mem 95 (by decide +kernel) rfl
theorem tw_m_RX5_3 : Cond.methodLink RX5 3 objectInit ∈ TS := ts_mem 158 (by decide +kernel) rfl
theorem tw_o_107 : Cond.arrayClass .long ∈ TS := ts_mem 174 (by decide +kernel) rfl
theorem tw_code_yX5_init : Cond.code yX5_init cX5_init 1 none ∈ TS := ts_mem 157 (by decide +kernel) rfl
theorem tw_m_RX3_3 : Cond.methodLink RX3 3 objectInit ∈ TS := ts_mem 180 (by decide +kernel) rfl
theorem tw_code_yX3_init : Cond.code yX3_init cX3_init 1 none ∈ TS := ts_mem 179 (by decide +kernel) rfl
theorem tw_m_RX2_3 : Cond.methodLink RX2 3 objectInit ∈ TS := ts_mem 210 (by decide +kernel) rfl
theorem tw_code_yX2_init : Cond.code yX2_init cX2_init 2 none ∈ TS := ts_mem 209 (by decide +kernel) rfl
theorem tw_m_RX1_3 : Cond.methodLink RX1 3 objectInit ∈ TS := ts_mem 245 (by decide +kernel) rfl
theorem tw_code_yX1_init : Cond.code yX1_init cX1_init 1 none ∈ TS := ts_mem 244 (by decide +kernel) rfl
theorem tw_m_RX6_1 : Cond.methodLink RX6 1 objectInit ∈ TS := ts_mem 88 (by decide +kernel) rfl
theorem tw_k_RX6_7 : Cond.classLink RX6 7 RX4 ∈ TS := ts_mem 91 (by decide +kernel) rfl
theorem tw_n_RX4 : Cond.instantiable RX4 11 ∈ TS := ts_mem 92 (by decide +kernel) rfl
theorem tw_inst_yX4_init : Cond.instanceMethod yX4_init ∈ TS := ts_mem 94 (by decide +kernel) rfl
theorem tw_k_RX6_22 : Cond.classLink RX6 22 RX5 ∈ TS := ts_mem 152 (by decide +kernel) rfl
theorem tw_n_RX5 : Cond.instantiable RX5 3 ∈ TS := ts_mem 154 (by decide +kernel) rfl
theorem tw_inst_yX5_init : Cond.instanceMethod yX5_init ∈ TS := ts_mem 156 (by decide +kernel) rfl
theorem tw_k_RX6_29 : Cond.classLink RX6 29 RX3 ∈ TS := ts_mem 175 (by decide +kernel) rfl
theorem tw_n_RX3 : Cond.instantiable RX3 7 ∈ TS := ts_mem 176 (by decide +kernel) rfl
theorem tw_inst_yX3_init : Cond.instanceMethod yX3_init ∈ TS := ts_mem 178 (by decide +kernel) rfl
theorem tw_k_RX6_36 : Cond.classLink RX6 36 RX2 ∈ TS := ts_mem 205 (by decide +kernel) rfl
theorem tw_n_RX2 : Cond.instantiable RX2 8 ∈ TS := ts_mem 206 (by decide +kernel) rfl
theorem tw_m_RX6_38 : Cond.methodLink RX6 38 yX2_init ∈ TS := ts_mem 207 (by decide +kernel) rfl
theorem tw_inst_yX2_init : Cond.instanceMethod yX2_init ∈ TS := ts_mem 208 (by decide +kernel) rfl
theorem tw_k_RX6_51 : Cond.classLink RX6 51 RX1 ∈ TS := ts_mem 240 (by decide +kernel) rfl
theorem tw_n_RX1 : Cond.instantiable RX1 3 ∈ TS := ts_mem 241 (by decide +kernel) rfl
theorem tw_inst_yX1_init : Cond.instanceMethod yX1_init ∈ TS := ts_mem 243 (by decide +kernel) rfl
theorem tw_code_yX6_init : Cond.code yX6_init cX6_init 2 none ∈ TS := ts_mem 87 (by decide +kernel) rfl
theorem tw_m_RX7_1 : Cond.methodLink RX7 1 objectInit ∈ TS := ts_mem 853 (by decide +kernel) rfl
theorem tw_f_RX7_7 : Cond.fieldLink RX7 7 RX7 "way" "I" ∈ TS := ts_mem 855 (by decide +kernel) rfl
theorem tw_f_RX7_13 : Cond.fieldLink RX7 13 RX7 "toll" "I" ∈ TS := ts_mem 857 (by decide +kernel) rfl
theorem tw_f_RX7_16 : Cond.fieldLink RX7 16 RX7 "push" "I" ∈ TS := ts_mem 858 (by decide +kernel) rfl
theorem tw_f_RX7_19 : Cond.fieldLink RX7 19 RX7 "seed" "I" ∈ TS := ts_mem 860 (by decide +kernel) rfl
theorem tw_f_RX7_22 : Cond.fieldLink RX7 22 RX7 "fault" "I" ∈ TS := ts_mem 861 (by decide +kernel) rfl
theorem tw_f_RX7_25 : Cond.fieldLink RX7 25 RX7 "refused" "[I" ∈ TS := ts_mem 862 (by decide +kernel) rfl
theorem tw_f_RX7_29 : Cond.fieldLink RX7 29 RX7 "kind" "[I" ∈ TS := ts_mem 863 (by decide +kernel) rfl
theorem tw_f_RX7_32 : Cond.fieldLink RX7 32 RX7 "part" "[I" ∈ TS := ts_mem 864 (by decide +kernel) rfl
theorem tw_f_RX7_35 : Cond.fieldLink RX7 35 RX7 "nerve" "[I" ∈ TS := ts_mem 865 (by decide +kernel) rfl
theorem tw_f_RX7_38 : Cond.fieldLink RX7 38 RX7 "pace" "[I" ∈ TS := ts_mem 866 (by decide +kernel) rfl
theorem tw_f_RX7_41 : Cond.fieldLink RX7 41 RX7 "load" "[I" ∈ TS := ts_mem 867 (by decide +kernel) rfl
theorem tw_f_RX7_44 : Cond.fieldLink RX7 44 RX7 "purse" "[I" ∈ TS := ts_mem 868 (by decide +kernel) rfl
theorem tw_f_RX7_47 : Cond.fieldLink RX7 47 RX7 "doubt" "[I" ∈ TS := ts_mem 869 (by decide +kernel) rfl
theorem tw_f_RX7_50 : Cond.fieldLink RX7 50 RX7 "held" "[I" ∈ TS := ts_mem 870 (by decide +kernel) rfl
theorem tw_f_RX7_53 : Cond.fieldLink RX7 53 RX7 "sort" "[I" ∈ TS := ts_mem 871 (by decide +kernel) rfl
theorem tw_f_RX7_56 : Cond.fieldLink RX7 56 RX7 "size" "[I" ∈ TS := ts_mem 872 (by decide +kernel) rfl
theorem tw_f_RX7_59 : Cond.fieldLink RX7 59 RX7 "shown" "[I" ∈ TS := ts_mem 873 (by decide +kernel) rfl
theorem tw_f_RX7_62 : Cond.fieldLink RX7 62 RX7 "cells" "[J" ∈ TS := ts_mem 874 (by decide +kernel) rfl
theorem tw_f_RX7_66 : Cond.fieldLink RX7 66 RX7 "carried" "[J" ∈ TS := ts_mem 875 (by decide +kernel) rfl
theorem tw_f_RX7_69 : Cond.fieldLink RX7 69 RX7 "words" "[I" ∈ TS := ts_mem 876 (by decide +kernel) rfl
theorem tw_f_RX7_72 : Cond.fieldLink RX7 72 RX7 "numbers" "[I" ∈ TS := ts_mem 877 (by decide +kernel) rfl
theorem tw_f_RX7_75 : Cond.fieldLink RX7 75 RX7 "mosts" "[I" ∈ TS := ts_mem 878 (by decide +kernel) rfl
theorem tw_f_RX7_78 : Cond.fieldLink RX7 78 RX7 "told" "[I" ∈ TS := ts_mem 879 (by decide +kernel) rfl
theorem tw_f_RX7_81 : Cond.fieldLink RX7 81 RX7 "was" "[I" ∈ TS := ts_mem 885 (by decide +kernel) rfl
theorem tw_f_RX7_84 : Cond.fieldLink RX7 84 RX7 "kept" "[I" ∈ TS := ts_mem 886 (by decide +kernel) rfl
theorem tw_f_RX7_87 : Cond.fieldLink RX7 87 RX7 "line" "[I" ∈ TS := ts_mem 887 (by decide +kernel) rfl
theorem tw_f_RX7_90 : Cond.fieldLink RX7 90 RX7 "went" "[I" ∈ TS := ts_mem 888 (by decide +kernel) rfl
theorem tw_f_RX7_93 : Cond.fieldLink RX7 93 RX7 "bestLine" "[I" ∈ TS := ts_mem 889 (by decide +kernel) rfl
theorem tw_f_RX7_96 : Cond.fieldLink RX7 96 RX7 "trace" "[I" ∈ TS := ts_mem 896 (by decide +kernel) rfl
theorem tw_code_yX7_init : Cond.code yX7_init cX7_init 1 none ∈ TS := ts_mem 852 (by decide +kernel) rfl
section CTORS
variable {K : zK} {G : zG} {P : pT} {Γ : zT} {k n : Nat} {lv : List (Nat × Value)} {pc : Nat} {st : List Value} {A : Nat → Prop} {h0 : Heap} {ws : va_W}
theorem ra_eq {s : State} {G : zG} {cl : List vw_C} {cA : ClassId} {ty : FieldType} (hK : va_K G.2.1 cl (TYS G ++ [(cA, ty)]) s) (t0 : Nat) {cB : ClassId} (ht : (TYS G)[t0]? = some (cB, ty)) (hty : (∃ C, ty = .object C) ∨ ty = .int ∨ ty = .long) : cA = cB := by
  have h1 := (hK.2 (TYS G).length (cA, ty) (by simp)).2
  have h2 := (hK.2 t0 (cB, ty) (by rw [List.getElem?_append_left (List.getElem?_eq_some_iff.mp ht).1]; exact ht)).2
  rcases hty with ⟨C, rfl⟩ | rfl | rfl
  · obtain ⟨_, _, _, _, _, e1⟩ := h1
    obtain ⟨_, _, _, _, _, e2⟩ := h2
    exact Option.some.inj (e1.symm.trans e2)
  · exact Option.some.inj ((show s.vm.findClass _ = some cA from h1).symm.trans h2)
  · exact Option.some.inj ((show s.vm.findClass _ = some cA from h1).symm.trans h2)
theorem z_newi {m : Int32} {N : Nat} (hw : wk (gX G P) A h0) (harr : Cond.arrayClass .int ∈ TS) (hn : ¬ m < 0) (hN : m.toNatClampNeg = N) (hbytes : N * componentBytes .int ≤ 536870912) (hcells : k + 1 ≤ K.2.2.2.2.cells) (hslots : n + N ≤ K.2.2.2.2.slots) (hdg : decode K.1 pc = .ok (.newarray .int, 2)) (h : ∀ q : Nat, Z K G Γ (wr G A h0 (ws ++ [(q, .inl (G.2.2.1 0, N, .inl (fun _ => 0)))])) (k + 1) (n + N) lv (pc + 2) (.ref q :: st)) : Z K G Γ (wr G A h0 ws) k n lv pc (.int m :: st) := fun C H locs ls hi hl =>
  va_newa (atype := .int) (a0 := (N, .inl (fun _ => 0))) C.1 C.2.1 (C.2.2.2.2.1 _ harr) rfl C.2.2.2.2.2.2.2.2.1 hi.1 hi.2.1 hi.2.2 hw.2.2 (fun cA => by rw [vp_cell_i]; rfl) hn hN hbytes hcells hslots hdg (fun q cA H1 hK hP hD hS => by
    have e := ra_eq hK 0 rfl (Or.inr (Or.inl rfl))
    subst e
    exact h q C H1 locs ls ⟨hP, hD, hS⟩ hl)
theorem z_newl {m : Int32} {N : Nat} (hw : wk (gX G P) A h0) (harr : Cond.arrayClass .long ∈ TS) (hn : ¬ m < 0) (hN : m.toNatClampNeg = N) (hbytes : N * componentBytes .long ≤ 536870912) (hcells : k + 1 ≤ K.2.2.2.2.cells) (hslots : n + N ≤ K.2.2.2.2.slots) (hdg : decode K.1 pc = .ok (.newarray .long, 2)) (h : ∀ q : Nat, Z K G Γ (wr G A h0 (ws ++ [(q, .inl (G.2.2.1 1, N, .inr (.inl (fun _ => 0))))])) (k + 1) (n + N) lv (pc + 2) (.ref q :: st)) : Z K G Γ (wr G A h0 ws) k n lv pc (.int m :: st) := fun C H locs ls hi hl =>
  va_newa (atype := .long) (a0 := (N, .inr (.inl (fun _ => 0)))) C.1 C.2.1 (C.2.2.2.2.1 _ harr) rfl C.2.2.2.2.2.2.2.2.1 hi.1 hi.2.1 hi.2.2 hw.2.2 (fun cA => by rw [vp_cell_l]; rfl) hn hN hbytes hcells hslots hdg (fun q cA H1 hK hP hD hS => by
    have e := ra_eq hK 1 rfl (Or.inr (Or.inr rfl))
    subst e
    exact h q C H1 locs ls ⟨hP, hD, hS⟩ hl)
theorem z_newq {C0 : String} {index : Nat} {m : Int32} {N : Nat} (t0 : Nat) (ht : ∀ G : zG, (TYS G)[t0]? = some (G.2.2.1 t0, .object C0)) (hao : ∀ U, GK G U → va_AO C0 U) (hw : wk (gX G P) A h0) (hcl : Cond.classLink K.2.2.1 index C0 ∈ TS) (hn : ¬ m < 0) (hN : m.toNatClampNeg = N) (hbytes : N * 4 ≤ 536870912) (hcells : k + 1 ≤ K.2.2.2.2.cells) (hslots : n + N ≤ K.2.2.2.2.slots) (hdg : decode K.1 pc = .ok (.anewarray index, 3)) (h : ∀ q : Nat, Z K G Γ (wr G A h0 (ws ++ [(q, .inl (G.2.2.1 t0, N, .inr (.inr (.inr (.inr (fun _ => none))))))])) (k + 1) (n + N) lv (pc + 3) (.ref q :: st)) : Z K G Γ (wr G A h0 ws) k n lv pc (.int m :: st) := fun C H locs ls hi hl =>
  va_newq C.1 C.2.1 C.2.2.2.1 (C.2.2.2.2.1 _ hcl) (hao _ C.2.2.2.2.2.2.2) C.2.2.2.2.2.2.2.2.1 hi.1 hi.2.1 hi.2.2 hw.2.2 hn hN hbytes hcells hslots hdg (fun q cA H1 hK hP hD hS => by
    have e := ra_eq hK t0 (ht G) (Or.inl ⟨_, rfl⟩)
    subst e
    exact h q C H1 locs ls ⟨hP, hD, hS⟩ hl)
end CTORS
theorem arrV_congr {cI : ClassId} {N : Nat} {f g : Nat → Value} (h : ∀ j, j < N → f j = g j) : arrV cI N f = arrV cI N g := by
  unfold arrV
  congr 1
  congr 1
  funext j
  exact h j.val j.isLt
theorem z_eqcell {K : zK} {G : zG} {Γ : zT} {k n : Nat} {lv : List (Nat × Value)} {pc : Nat} {st : List Value} {A : Nat → Prop} {h0 : Heap} {ws ws' : va_W} {a N : Nat} {f F : Nat → Option Nat} (q0 t0 : Nat) (he : ws[q0]? = some (a, .inl (G.2.2.1 t0, N, .inr (.inr (.inr (.inr f)))))) (hf : ∀ j, j < N → f j = F j) (hs : ws.set q0 (a, .inl (G.2.2.1 t0, N, .inr (.inr (.inr (.inr F))))) = ws') (h : Z K G Γ (wr G A h0 ws') k n lv pc st) : Z K G Γ (wr G A h0 ws) k n lv pc st := by
  subst hs
  have hl : q0 < List.length ws := (List.getElem?_eq_some_iff.mp he).1
  refine z_inv h fun H locs hi => ⟨fun j x hx => ?_, va_D.set hi.2.1 he, hi.2.2⟩
  by_cases hj : j = q0
  · subst hj
    rw [List.getElem?_set_self hl] at hx
    cases hx
    have := hi.1 j _ he
    show H[a]? = some (vp_cell _ _)
    have h2 : H[a]? = some (vp_cell _ _) := this
    rw [h2, vp_cell_q, vp_cell_q]
    exact congrArg some (arrV_congr fun i hi => by rw [hf i hi])
  · rw [List.getElem?_set_ne (fun e => hj e.symm)] at hx
    exact hi.1 j x hx
/-- f where k < i, what stood there else -/
def fa_fill {α : Type} (f g : Nat → α) (i : Nat) : Nat → α := fun k => if k < i then f k else g k
theorem fa_fill_0 {α : Type} (f g : Nat → α) : fa_fill f g 0 = g := funext fun k => if_neg (Nat.not_lt_zero k)
theorem fa_fill_in {α : Type} {f g : Nat → α} {i k : Nat} (h : k < i) : fa_fill f g i k = f k := if_pos h
theorem fa_fill_out {α : Type} {f g : Nat → α} {i k : Nat} (h : i ≤ k) : fa_fill f g i k = g k := if_neg (Nat.not_lt.mpr h)
theorem fa_fill_succ (f g : Nat → Int32) (i : Nat) : upd (fa_fill f g i) i (f i) = fa_fill f g (i + 1) := by
  funext k
  by_cases e : k = i
  · subst e
    rw [pk_us]
    exact (if_pos (Nat.lt_succ_self k)).symm
  · rw [pk_un e]
    by_cases h : k < i
    · rw [fa_fill_in h, fa_fill_in (Nat.lt_succ_of_lt h)]
    · rw [fa_fill_out (Nat.le_of_not_lt h), fa_fill_out (by omega)]
def ad (l : List Nat) : Nat → Nat := fun j => l.getD j 0
def rI : rT := (fun j => ([0, 0, 0, 0, 0, 8, 0, 5, 1, 0, 1] : List Int32).getD j 0, fun _ _ => 0, fun _ => none)
def sI : sT := (fun j => ([0, -1, 0] : List Int32).getD j 0, fun _ => 0)
def oI : oT := (fun _ => 0, fun _ _ => 0)
def vI : vT := (fun _ => 0, fun _ => 0, none)
def eI : e2T := (fun j => ([0, -1, 0, 0, 0, 0, 0] : List Int32).getD j 0, fun _ => 0)
def nI0 : nT := (fun j => ([0, 0, 0, 0, 0, 0, 0, 0, 0, 0, -1, 0] : List Int32).getD j 0, fun _ => 0)

theorem dX4_init_0 : decode cX4_init 0 = .ok (.aload_n 0, 1) := by decide +kernel
theorem dX4_init_1 : decode cX4_init 1 = .ok (.invokespecial 3, 3) := by decide +kernel
theorem dX4_init_4 : decode cX4_init 4 = .ok (.aload_n 0, 1) := by decide +kernel
theorem dX4_init_5 : decode cX4_init 5 = .ok (.bipush 7, 2) := by decide +kernel
theorem dX4_init_7 : decode cX4_init 7 = .ok (.anewarray 9, 3) := by decide +kernel
theorem dX4_init_10 : decode cX4_init 10 = .ok (.putfield 11, 3) := by decide +kernel
theorem dX4_init_13 : decode cX4_init 13 = .ok (.aload_n 0, 1) := by decide +kernel
theorem dX4_init_14 : decode cX4_init 14 = .ok (.bipush 7, 2) := by decide +kernel
theorem dX4_init_16 : decode cX4_init 16 = .ok (.newarray .int, 2) := by decide +kernel
theorem dX4_init_18 : decode cX4_init 18 = .ok (.putfield 17, 3) := by decide +kernel
theorem dX4_init_21 : decode cX4_init 21 = .ok (.aload_n 0, 1) := by decide +kernel
theorem dX4_init_22 : decode cX4_init 22 = .ok (.bipush 7, 2) := by decide +kernel
theorem dX4_init_24 : decode cX4_init 24 = .ok (.newarray .int, 2) := by decide +kernel
theorem dX4_init_26 : decode cX4_init 26 = .ok (.putfield 21, 3) := by decide +kernel
theorem dX4_init_29 : decode cX4_init 29 = .ok (.aload_n 0, 1) := by decide +kernel
theorem dX4_init_30 : decode cX4_init 30 = .ok (.bipush 7, 2) := by decide +kernel
theorem dX4_init_32 : decode cX4_init 32 = .ok (.newarray .int, 2) := by decide +kernel
theorem dX4_init_34 : decode cX4_init 34 = .ok (.putfield 24, 3) := by decide +kernel
theorem dX4_init_37 : decode cX4_init 37 = .ok (.aload_n 0, 1) := by decide +kernel
theorem dX4_init_38 : decode cX4_init 38 = .ok (.iconst 0, 1) := by decide +kernel
theorem dX4_init_39 : decode cX4_init 39 = .ok (.putfield 27, 3) := by decide +kernel
theorem dX4_init_42 : decode cX4_init 42 = .ok (.aload_n 0, 1) := by decide +kernel
theorem dX4_init_43 : decode cX4_init 43 = .ok (.bipush 8, 2) := by decide +kernel
theorem dX4_init_45 : decode cX4_init 45 = .ok (.putfield 31, 3) := by decide +kernel
theorem dX4_init_48 : decode cX4_init 48 = .ok (.aload_n 0, 1) := by decide +kernel
theorem dX4_init_49 : decode cX4_init 49 = .ok (.iconst 0, 1) := by decide +kernel
theorem dX4_init_50 : decode cX4_init 50 = .ok (.putfield 34, 3) := by decide +kernel
theorem dX4_init_53 : decode cX4_init 53 = .ok (.aload_n 0, 1) := by decide +kernel
theorem dX4_init_54 : decode cX4_init 54 = .ok (.iconst 5, 1) := by decide +kernel
theorem dX4_init_55 : decode cX4_init 55 = .ok (.putfield 37, 3) := by decide +kernel
theorem dX4_init_58 : decode cX4_init 58 = .ok (.aload_n 0, 1) := by decide +kernel
theorem dX4_init_59 : decode cX4_init 59 = .ok (.iconst 1, 1) := by decide +kernel
theorem dX4_init_60 : decode cX4_init 60 = .ok (.putfield 40, 3) := by decide +kernel
theorem dX4_init_63 : decode cX4_init 63 = .ok (.aload_n 0, 1) := by decide +kernel
theorem dX4_init_64 : decode cX4_init 64 = .ok (.iconst 0, 1) := by decide +kernel
theorem dX4_init_65 : decode cX4_init 65 = .ok (.putfield 43, 3) := by decide +kernel
theorem dX4_init_68 : decode cX4_init 68 = .ok (.aload_n 0, 1) := by decide +kernel
theorem dX4_init_69 : decode cX4_init 69 = .ok (.iconst 1, 1) := by decide +kernel
theorem dX4_init_70 : decode cX4_init 70 = .ok (.putfield 46, 3) := by decide +kernel
theorem dX4_init_73 : decode cX4_init 73 = .ok (.return_, 1) := by decide +kernel
abbrev k_X4_init : zK := (cX4_init, 1, RX4, none, ({ frames := 1, cells := 4, slots := 28, locals := 12 } : Room))
theorem zc_X4_init : zcal yX4_init k_X4_init.1 k_X4_init.2.1 k_X4_init.2.2.2.1 0 := ⟨tw_code_yX4_init, tw_i_TollForHesitators_Road, ⟨by decide +kernel, by decide +kernel⟩, by decide +kernel⟩
set_option maxHeartbeats 800000 in
theorem c_X4_init {l : Launch} (G : zG) (P : pT) (q : Nat) (sz : Nat) : Met l yX4_init (.code yX4_init k_X4_init.1 k_X4_init.2.1 k_X4_init.2.2.2.1 :: TS) k_X4_init.2.2.2.2 (Pz G [.ref q] (Fw G (gX G P) ([(q, .inr (4, [.null, .null, .null, .null, .int 0, .int 0, .int 0, .int 0, .int 0, .int 0, .int 0]))]) sz)) (Qwv G (fun w => ∃ a : Nat → Nat, a 0 = q ∧ w = rdW G a rI) (va_A ([(q, .inr (4, [.null, .null, .null, .null, .int 0, .int 0, .int 0, .int 0, .int 0, .int 0, .int 0]))]) sz)) 4 28 (va_A ([(q, .inr (4, [.null, .null, .null, .null, .int 0, .int 0, .int 0, .int 0, .int 0, .int 0, .int 0]))]) sz) := by
  refine zmet (K := k_X4_init) (by decide +kernel) rfl rfl (fun Γ hl0 hQ hN hF => ?_)
  refine z_start (gX_ok G P) hF (fun hw => ?_)
  generalize va_A ([(q, .inr (4, [.null, .null, .null, .null, .int 0, .int 0, .int 0, .int 0, .int 0, .int 0, .int 0]))]) sz = A at hQ hw ⊢
  show Z k_X4_init G Γ _ 0 0 [(0, .ref q)] 0 []
  refine z_aload_n dX4_init_0 rfl ?_
  refine z_objinit tw_m_RX4_3 tw_inst_objectInit tw_objcode ⟨Nat.le_of_ble_eq_true rfl, Nat.le_of_ble_eq_true rfl⟩ dX4_init_1 ?_
  refine z_aload_n dX4_init_4 rfl ?_
  refine z_bipush (v := 7) dX4_init_5 rfl ?_
  refine z_newq (N := 7) 2 (fun _ => rfl) (fun U h => h.2.2.1.1) hw tw_k_RX4_9 (by decide) (by decide) (by decide) (Nat.le_of_ble_eq_true rfl) (Nat.le_of_ble_eq_true rfl) dX4_init_7 (fun a1 => ?_)
  refine z_putF (fs := [.null, .null, .null, .null, .int 0, .int 0, .int 0, .int 0, .int 0, .int 0, .int 0]) (v := .ref a1) (ws' := [(q, .inr (4, [.ref a1, .null, .null, .null, .int 0, .int 0, .int 0, .int 0, .int 0, .int 0, .int 0]))] ++ [(a1, .inl (G.2.2.1 2, 7, .inr (.inr (.inr (.inr (fun _ => none))))))]) hN 0 rfl rfl uin_X4 tyX4 tyX4_ok nmX4 0 (Nat.le_of_ble_eq_true rfl) tw_f_RX4_11 rfl rfl rfl (ty := (.array (.object RX0))) rfl rfl rfl (Nat.le_of_ble_eq_true rfl) rfl dX4_init_10 ?_
  refine z_aload_n dX4_init_13 rfl ?_
  refine z_bipush (v := 7) dX4_init_14 rfl ?_
  refine z_newi (N := 7) hw tw_o_84 (by decide) (by decide) (by decide) (Nat.le_of_ble_eq_true rfl) (Nat.le_of_ble_eq_true rfl) dX4_init_16 (fun a2 => ?_)
  refine z_putF (fs := [.ref a1, .null, .null, .null, .int 0, .int 0, .int 0, .int 0, .int 0, .int 0, .int 0]) (v := .ref a2) (ws' := [(q, .inr (4, [.ref a1, .ref a2, .null, .null, .int 0, .int 0, .int 0, .int 0, .int 0, .int 0, .int 0]))] ++ [(a1, .inl (G.2.2.1 2, 7, .inr (.inr (.inr (.inr (fun _ => none))))))] ++ [(a2, .inl (G.2.2.1 0, 7, .inl (fun _ => 0)))]) hN 0 rfl rfl uin_X4 tyX4 tyX4_ok nmX4 1 (Nat.le_of_ble_eq_true rfl) tw_f_RX4_17 rfl rfl rfl (ty := (.array .int)) rfl rfl rfl (Nat.le_of_ble_eq_true rfl) rfl dX4_init_18 ?_
  refine z_aload_n dX4_init_21 rfl ?_
  refine z_bipush (v := 7) dX4_init_22 rfl ?_
  refine z_newi (N := 7) hw tw_o_84 (by decide) (by decide) (by decide) (Nat.le_of_ble_eq_true rfl) (Nat.le_of_ble_eq_true rfl) dX4_init_24 (fun a3 => ?_)
  refine z_putF (fs := [.ref a1, .ref a2, .null, .null, .int 0, .int 0, .int 0, .int 0, .int 0, .int 0, .int 0]) (v := .ref a3) (ws' := [(q, .inr (4, [.ref a1, .ref a2, .ref a3, .null, .int 0, .int 0, .int 0, .int 0, .int 0, .int 0, .int 0]))] ++ [(a1, .inl (G.2.2.1 2, 7, .inr (.inr (.inr (.inr (fun _ => none))))))] ++ [(a2, .inl (G.2.2.1 0, 7, .inl (fun _ => 0)))] ++ [(a3, .inl (G.2.2.1 0, 7, .inl (fun _ => 0)))]) hN 0 rfl rfl uin_X4 tyX4 tyX4_ok nmX4 2 (Nat.le_of_ble_eq_true rfl) tw_f_RX4_21 rfl rfl rfl (ty := (.array .int)) rfl rfl rfl (Nat.le_of_ble_eq_true rfl) rfl dX4_init_26 ?_
  refine z_aload_n dX4_init_29 rfl ?_
  refine z_bipush (v := 7) dX4_init_30 rfl ?_
  refine z_newi (N := 7) hw tw_o_84 (by decide) (by decide) (by decide) (Nat.le_of_ble_eq_true rfl) (Nat.le_of_ble_eq_true rfl) dX4_init_32 (fun a4 => ?_)
  refine z_putF (fs := [.ref a1, .ref a2, .ref a3, .null, .int 0, .int 0, .int 0, .int 0, .int 0, .int 0, .int 0]) (v := .ref a4) (ws' := [(q, .inr (4, [.ref a1, .ref a2, .ref a3, .ref a4, .int 0, .int 0, .int 0, .int 0, .int 0, .int 0, .int 0]))] ++ [(a1, .inl (G.2.2.1 2, 7, .inr (.inr (.inr (.inr (fun _ => none))))))] ++ [(a2, .inl (G.2.2.1 0, 7, .inl (fun _ => 0)))] ++ [(a3, .inl (G.2.2.1 0, 7, .inl (fun _ => 0)))] ++ [(a4, .inl (G.2.2.1 0, 7, .inl (fun _ => 0)))]) hN 0 rfl rfl uin_X4 tyX4 tyX4_ok nmX4 3 (Nat.le_of_ble_eq_true rfl) tw_f_RX4_24 rfl rfl rfl (ty := (.array .int)) rfl rfl rfl (Nat.le_of_ble_eq_true rfl) rfl dX4_init_34 ?_
  refine z_aload_n dX4_init_37 rfl ?_
  refine z_iconst (v := 0) dX4_init_38 rfl ?_
  refine z_put (fs := [.ref a1, .ref a2, .ref a3, .ref a4, .int 0, .int 0, .int 0, .int 0, .int 0, .int 0, .int 0]) (v := .int 0) (ws' := [(q, .inr (4, [.ref a1, .ref a2, .ref a3, .ref a4, .int 0, .int 0, .int 0, .int 0, .int 0, .int 0, .int 0]))] ++ [(a1, .inl (G.2.2.1 2, 7, .inr (.inr (.inr (.inr (fun _ => none))))))] ++ [(a2, .inl (G.2.2.1 0, 7, .inl (fun _ => 0)))] ++ [(a3, .inl (G.2.2.1 0, 7, .inl (fun _ => 0)))] ++ [(a4, .inl (G.2.2.1 0, 7, .inl (fun _ => 0)))]) 0 rfl rfl uin_X4 tyX4 tyX4_ok nmX4 4 (Nat.le_of_ble_eq_true rfl) tw_f_RX4_27 rfl rfl (ty := .int) rfl rfl rfl (Nat.le_of_ble_eq_true rfl) rfl dX4_init_39 ?_
  refine z_aload_n dX4_init_42 rfl ?_
  refine z_bipush (v := 8) dX4_init_43 rfl ?_
  refine z_put (fs := [.ref a1, .ref a2, .ref a3, .ref a4, .int 0, .int 0, .int 0, .int 0, .int 0, .int 0, .int 0]) (v := .int 8) (ws' := [(q, .inr (4, [.ref a1, .ref a2, .ref a3, .ref a4, .int 0, .int 8, .int 0, .int 0, .int 0, .int 0, .int 0]))] ++ [(a1, .inl (G.2.2.1 2, 7, .inr (.inr (.inr (.inr (fun _ => none))))))] ++ [(a2, .inl (G.2.2.1 0, 7, .inl (fun _ => 0)))] ++ [(a3, .inl (G.2.2.1 0, 7, .inl (fun _ => 0)))] ++ [(a4, .inl (G.2.2.1 0, 7, .inl (fun _ => 0)))]) 0 rfl rfl uin_X4 tyX4 tyX4_ok nmX4 5 (Nat.le_of_ble_eq_true rfl) tw_f_RX4_31 rfl rfl (ty := .int) rfl rfl rfl (Nat.le_of_ble_eq_true rfl) rfl dX4_init_45 ?_
  refine z_aload_n dX4_init_48 rfl ?_
  refine z_iconst (v := 0) dX4_init_49 rfl ?_
  refine z_put (fs := [.ref a1, .ref a2, .ref a3, .ref a4, .int 0, .int 8, .int 0, .int 0, .int 0, .int 0, .int 0]) (v := .int 0) (ws' := [(q, .inr (4, [.ref a1, .ref a2, .ref a3, .ref a4, .int 0, .int 8, .int 0, .int 0, .int 0, .int 0, .int 0]))] ++ [(a1, .inl (G.2.2.1 2, 7, .inr (.inr (.inr (.inr (fun _ => none))))))] ++ [(a2, .inl (G.2.2.1 0, 7, .inl (fun _ => 0)))] ++ [(a3, .inl (G.2.2.1 0, 7, .inl (fun _ => 0)))] ++ [(a4, .inl (G.2.2.1 0, 7, .inl (fun _ => 0)))]) 0 rfl rfl uin_X4 tyX4 tyX4_ok nmX4 6 (Nat.le_of_ble_eq_true rfl) tw_f_RX4_34 rfl rfl (ty := .int) rfl rfl rfl (Nat.le_of_ble_eq_true rfl) rfl dX4_init_50 ?_
  refine z_aload_n dX4_init_53 rfl ?_
  refine z_iconst (v := 5) dX4_init_54 rfl ?_
  refine z_put (fs := [.ref a1, .ref a2, .ref a3, .ref a4, .int 0, .int 8, .int 0, .int 0, .int 0, .int 0, .int 0]) (v := .int 5) (ws' := [(q, .inr (4, [.ref a1, .ref a2, .ref a3, .ref a4, .int 0, .int 8, .int 0, .int 5, .int 0, .int 0, .int 0]))] ++ [(a1, .inl (G.2.2.1 2, 7, .inr (.inr (.inr (.inr (fun _ => none))))))] ++ [(a2, .inl (G.2.2.1 0, 7, .inl (fun _ => 0)))] ++ [(a3, .inl (G.2.2.1 0, 7, .inl (fun _ => 0)))] ++ [(a4, .inl (G.2.2.1 0, 7, .inl (fun _ => 0)))]) 0 rfl rfl uin_X4 tyX4 tyX4_ok nmX4 7 (Nat.le_of_ble_eq_true rfl) tw_f_RX4_37 rfl rfl (ty := .int) rfl rfl rfl (Nat.le_of_ble_eq_true rfl) rfl dX4_init_55 ?_
  refine z_aload_n dX4_init_58 rfl ?_
  refine z_iconst (v := 1) dX4_init_59 rfl ?_
  refine z_put (fs := [.ref a1, .ref a2, .ref a3, .ref a4, .int 0, .int 8, .int 0, .int 5, .int 0, .int 0, .int 0]) (v := .int 1) (ws' := [(q, .inr (4, [.ref a1, .ref a2, .ref a3, .ref a4, .int 0, .int 8, .int 0, .int 5, .int 1, .int 0, .int 0]))] ++ [(a1, .inl (G.2.2.1 2, 7, .inr (.inr (.inr (.inr (fun _ => none))))))] ++ [(a2, .inl (G.2.2.1 0, 7, .inl (fun _ => 0)))] ++ [(a3, .inl (G.2.2.1 0, 7, .inl (fun _ => 0)))] ++ [(a4, .inl (G.2.2.1 0, 7, .inl (fun _ => 0)))]) 0 rfl rfl uin_X4 tyX4 tyX4_ok nmX4 8 (Nat.le_of_ble_eq_true rfl) tw_f_RX4_40 rfl rfl (ty := .int) rfl rfl rfl (Nat.le_of_ble_eq_true rfl) rfl dX4_init_60 ?_
  refine z_aload_n dX4_init_63 rfl ?_
  refine z_iconst (v := 0) dX4_init_64 rfl ?_
  refine z_put (fs := [.ref a1, .ref a2, .ref a3, .ref a4, .int 0, .int 8, .int 0, .int 5, .int 1, .int 0, .int 0]) (v := .int 0) (ws' := [(q, .inr (4, [.ref a1, .ref a2, .ref a3, .ref a4, .int 0, .int 8, .int 0, .int 5, .int 1, .int 0, .int 0]))] ++ [(a1, .inl (G.2.2.1 2, 7, .inr (.inr (.inr (.inr (fun _ => none))))))] ++ [(a2, .inl (G.2.2.1 0, 7, .inl (fun _ => 0)))] ++ [(a3, .inl (G.2.2.1 0, 7, .inl (fun _ => 0)))] ++ [(a4, .inl (G.2.2.1 0, 7, .inl (fun _ => 0)))]) 0 rfl rfl uin_X4 tyX4 tyX4_ok nmX4 9 (Nat.le_of_ble_eq_true rfl) tw_f_RX4_43 rfl rfl (ty := .int) rfl rfl rfl (Nat.le_of_ble_eq_true rfl) rfl dX4_init_65 ?_
  refine z_aload_n dX4_init_68 rfl ?_
  refine z_iconst (v := 1) dX4_init_69 rfl ?_
  refine z_put (fs := [.ref a1, .ref a2, .ref a3, .ref a4, .int 0, .int 8, .int 0, .int 5, .int 1, .int 0, .int 0]) (v := .int 1) (ws' := [(q, .inr (4, [.ref a1, .ref a2, .ref a3, .ref a4, .int 0, .int 8, .int 0, .int 5, .int 1, .int 0, .int 1]))] ++ [(a1, .inl (G.2.2.1 2, 7, .inr (.inr (.inr (.inr (fun _ => none))))))] ++ [(a2, .inl (G.2.2.1 0, 7, .inl (fun _ => 0)))] ++ [(a3, .inl (G.2.2.1 0, 7, .inl (fun _ => 0)))] ++ [(a4, .inl (G.2.2.1 0, 7, .inl (fun _ => 0)))]) 0 rfl rfl uin_X4 tyX4 tyX4_ok nmX4 10 (Nat.le_of_ble_eq_true rfl) tw_f_RX4_46 rfl rfl (ty := .int) rfl rfl rfl (Nat.le_of_ble_eq_true rfl) rfl dX4_init_70 ?_
  exact z_vret_W hQ rfl rfl rfl ⟨ad [q, a1, a2, a3, a4], rfl, rfl⟩ dX4_init_73
theorem dX5_init_0 : decode cX5_init 0 = .ok (.aload_n 0, 1) := by decide +kernel
theorem dX5_init_1 : decode cX5_init 1 = .ok (.invokespecial 3, 3) := by decide +kernel
theorem dX5_init_4 : decode cX5_init 4 = .ok (.aload_n 0, 1) := by decide +kernel
theorem dX5_init_5 : decode cX5_init 5 = .ok (.sipush 160, 3) := by decide +kernel
theorem dX5_init_8 : decode cX5_init 8 = .ok (.newarray .long, 2) := by decide +kernel
theorem dX5_init_10 : decode cX5_init 10 = .ok (.putfield 9, 3) := by decide +kernel
theorem dX5_init_13 : decode cX5_init 13 = .ok (.aload_n 0, 1) := by decide +kernel
theorem dX5_init_14 : decode cX5_init 14 = .ok (.iconst (-1), 1) := by decide +kernel
theorem dX5_init_15 : decode cX5_init 15 = .ok (.putfield 15, 3) := by decide +kernel
theorem dX5_init_18 : decode cX5_init 18 = .ok (.aload_n 0, 1) := by decide +kernel
theorem dX5_init_19 : decode cX5_init 19 = .ok (.iconst 0, 1) := by decide +kernel
theorem dX5_init_20 : decode cX5_init 20 = .ok (.putfield 19, 3) := by decide +kernel
theorem dX5_init_23 : decode cX5_init 23 = .ok (.return_, 1) := by decide +kernel
abbrev k_X5_init : zK := (cX5_init, 1, RX5, none, ({ frames := 1, cells := 1, slots := 160, locals := 12 } : Room))
theorem zc_X5_init : zcal yX5_init k_X5_init.1 k_X5_init.2.1 k_X5_init.2.2.2.1 0 := ⟨tw_code_yX5_init, tw_i_TollForHesitators_Shelf, ⟨by decide +kernel, by decide +kernel⟩, by decide +kernel⟩
set_option maxHeartbeats 800000 in
theorem c_X5_init {l : Launch} (G : zG) (P : pT) (q : Nat) (sz : Nat) : Met l yX5_init (.code yX5_init k_X5_init.1 k_X5_init.2.1 k_X5_init.2.2.2.1 :: TS) k_X5_init.2.2.2.2 (Pz G [.ref q] (Fw G (gX G P) ([(q, .inr (5, [.null, .int 0, .int 0]))]) sz)) (Qwv G (fun w => ∃ a : Nat → Nat, a 0 = q ∧ w = shW G a sI) (va_A ([(q, .inr (5, [.null, .int 0, .int 0]))]) sz)) 1 160 (va_A ([(q, .inr (5, [.null, .int 0, .int 0]))]) sz) := by
  refine zmet (K := k_X5_init) (by decide +kernel) rfl rfl (fun Γ hl0 hQ hN hF => ?_)
  refine z_start (gX_ok G P) hF (fun hw => ?_)
  generalize va_A ([(q, .inr (5, [.null, .int 0, .int 0]))]) sz = A at hQ hw ⊢
  show Z k_X5_init G Γ _ 0 0 [(0, .ref q)] 0 []
  refine z_aload_n dX5_init_0 rfl ?_
  refine z_objinit tw_m_RX5_3 tw_inst_objectInit tw_objcode ⟨Nat.le_of_ble_eq_true rfl, Nat.le_of_ble_eq_true rfl⟩ dX5_init_1 ?_
  refine z_aload_n dX5_init_4 rfl ?_
  refine z_sipush (v := 160) dX5_init_5 rfl ?_
  refine z_newl (N := 160) hw tw_o_107 (by decide) (by decide) (by decide) (Nat.le_of_ble_eq_true rfl) (Nat.le_of_ble_eq_true rfl) dX5_init_8 (fun a1 => ?_)
  refine z_putF (fs := [.null, .int 0, .int 0]) (v := .ref a1) (ws' := [(q, .inr (5, [.ref a1, .int 0, .int 0]))] ++ [(a1, .inl (G.2.2.1 1, 160, .inr (.inl (fun _ => 0))))]) hN 0 rfl rfl uin_X5 tyX5 tyX5_ok nmX5 0 (Nat.le_of_ble_eq_true rfl) tw_f_RX5_9 rfl rfl rfl (ty := (.array .long)) rfl rfl rfl (Nat.le_of_ble_eq_true rfl) rfl dX5_init_10 ?_
  refine z_aload_n dX5_init_13 rfl ?_
  refine z_iconst (v := (-1)) dX5_init_14 rfl ?_
  refine z_put (fs := [.ref a1, .int 0, .int 0]) (v := .int (-1)) (ws' := [(q, .inr (5, [.ref a1, .int (-1), .int 0]))] ++ [(a1, .inl (G.2.2.1 1, 160, .inr (.inl (fun _ => 0))))]) 0 rfl rfl uin_X5 tyX5 tyX5_ok nmX5 1 (Nat.le_of_ble_eq_true rfl) tw_f_RX5_15 rfl rfl (ty := .int) rfl rfl rfl (Nat.le_of_ble_eq_true rfl) rfl dX5_init_15 ?_
  refine z_aload_n dX5_init_18 rfl ?_
  refine z_iconst (v := 0) dX5_init_19 rfl ?_
  refine z_put (fs := [.ref a1, .int (-1), .int 0]) (v := .int 0) (ws' := [(q, .inr (5, [.ref a1, .int (-1), .int 0]))] ++ [(a1, .inl (G.2.2.1 1, 160, .inr (.inl (fun _ => 0))))]) 0 rfl rfl uin_X5 tyX5 tyX5_ok nmX5 2 (Nat.le_of_ble_eq_true rfl) tw_f_RX5_19 rfl rfl (ty := .int) rfl rfl rfl (Nat.le_of_ble_eq_true rfl) rfl dX5_init_20 ?_
  exact z_vret_W hQ rfl rfl rfl ⟨ad [q, a1], rfl, rfl⟩ dX5_init_23
theorem dX3_init_0 : decode cX3_init 0 = .ok (.aload_n 0, 1) := by decide +kernel
theorem dX3_init_1 : decode cX3_init 1 = .ok (.invokespecial 3, 3) := by decide +kernel
theorem dX3_init_4 : decode cX3_init 4 = .ok (.aload_n 0, 1) := by decide +kernel
theorem dX3_init_5 : decode cX3_init 5 = .ok (.bipush 6, 2) := by decide +kernel
theorem dX3_init_7 : decode cX3_init 7 = .ok (.newarray .int, 2) := by decide +kernel
theorem dX3_init_9 : decode cX3_init 9 = .ok (.putfield 9, 3) := by decide +kernel
theorem dX3_init_12 : decode cX3_init 12 = .ok (.aload_n 0, 1) := by decide +kernel
theorem dX3_init_13 : decode cX3_init 13 = .ok (.iconst (-1), 1) := by decide +kernel
theorem dX3_init_14 : decode cX3_init 14 = .ok (.putfield 15, 3) := by decide +kernel
theorem dX3_init_17 : decode cX3_init 17 = .ok (.aload_n 0, 1) := by decide +kernel
theorem dX3_init_18 : decode cX3_init 18 = .ok (.iconst 0, 1) := by decide +kernel
theorem dX3_init_19 : decode cX3_init 19 = .ok (.putfield 19, 3) := by decide +kernel
theorem dX3_init_22 : decode cX3_init 22 = .ok (.aload_n 0, 1) := by decide +kernel
theorem dX3_init_23 : decode cX3_init 23 = .ok (.iconst 0, 1) := by decide +kernel
theorem dX3_init_24 : decode cX3_init 24 = .ok (.newarray .long, 2) := by decide +kernel
theorem dX3_init_26 : decode cX3_init 26 = .ok (.putfield 22, 3) := by decide +kernel
theorem dX3_init_29 : decode cX3_init 29 = .ok (.aload_n 0, 1) := by decide +kernel
theorem dX3_init_30 : decode cX3_init 30 = .ok (.iconst 0, 1) := by decide +kernel
theorem dX3_init_31 : decode cX3_init 31 = .ok (.putfield 26, 3) := by decide +kernel
theorem dX3_init_34 : decode cX3_init 34 = .ok (.aload_n 0, 1) := by decide +kernel
theorem dX3_init_35 : decode cX3_init 35 = .ok (.iconst 0, 1) := by decide +kernel
theorem dX3_init_36 : decode cX3_init 36 = .ok (.putfield 29, 3) := by decide +kernel
theorem dX3_init_39 : decode cX3_init 39 = .ok (.aload_n 0, 1) := by decide +kernel
theorem dX3_init_40 : decode cX3_init 40 = .ok (.iconst 0, 1) := by decide +kernel
theorem dX3_init_41 : decode cX3_init 41 = .ok (.putfield 32, 3) := by decide +kernel
theorem dX3_init_44 : decode cX3_init 44 = .ok (.return_, 1) := by decide +kernel
abbrev k_X3_init : zK := (cX3_init, 1, RX3, none, ({ frames := 1, cells := 2, slots := 6, locals := 12 } : Room))
theorem zc_X3_init : zcal yX3_init k_X3_init.1 k_X3_init.2.1 k_X3_init.2.2.2.1 0 := ⟨tw_code_yX3_init, tw_i_TollForHesitators_Reader, ⟨by decide +kernel, by decide +kernel⟩, by decide +kernel⟩
set_option maxHeartbeats 800000 in
theorem c_X3_init {l : Launch} (G : zG) (P : pT) (q : Nat) (sz : Nat) : Met l yX3_init (.code yX3_init k_X3_init.1 k_X3_init.2.1 k_X3_init.2.2.2.1 :: TS) k_X3_init.2.2.2.2 (Pz G [.ref q] (Fw G (gX G P) ([(q, .inr (3, [.null, .int 0, .int 0, .null, .int 0, .int 0, .int 0]))]) sz)) (Qwv G (fun w => ∃ (a : Nat → Nat) (b : Nat), a 0 = q ∧ w = re2W G a b eI) (va_A ([(q, .inr (3, [.null, .int 0, .int 0, .null, .int 0, .int 0, .int 0]))]) sz)) 2 6 (va_A ([(q, .inr (3, [.null, .int 0, .int 0, .null, .int 0, .int 0, .int 0]))]) sz) := by
  refine zmet (K := k_X3_init) (by decide +kernel) rfl rfl (fun Γ hl0 hQ hN hF => ?_)
  refine z_start (gX_ok G P) hF (fun hw => ?_)
  generalize va_A ([(q, .inr (3, [.null, .int 0, .int 0, .null, .int 0, .int 0, .int 0]))]) sz = A at hQ hw ⊢
  show Z k_X3_init G Γ _ 0 0 [(0, .ref q)] 0 []
  refine z_aload_n dX3_init_0 rfl ?_
  refine z_objinit tw_m_RX3_3 tw_inst_objectInit tw_objcode ⟨Nat.le_of_ble_eq_true rfl, Nat.le_of_ble_eq_true rfl⟩ dX3_init_1 ?_
  refine z_aload_n dX3_init_4 rfl ?_
  refine z_bipush (v := 6) dX3_init_5 rfl ?_
  refine z_newi (N := 6) hw tw_o_84 (by decide) (by decide) (by decide) (Nat.le_of_ble_eq_true rfl) (Nat.le_of_ble_eq_true rfl) dX3_init_7 (fun a1 => ?_)
  refine z_putF (fs := [.null, .int 0, .int 0, .null, .int 0, .int 0, .int 0]) (v := .ref a1) (ws' := [(q, .inr (3, [.ref a1, .int 0, .int 0, .null, .int 0, .int 0, .int 0]))] ++ [(a1, .inl (G.2.2.1 0, 6, .inl (fun _ => 0)))]) hN 0 rfl rfl uin_X3 tyX3 tyX3_ok nmX3 0 (Nat.le_of_ble_eq_true rfl) tw_f_RX3_9 rfl rfl rfl (ty := (.array .int)) rfl rfl rfl (Nat.le_of_ble_eq_true rfl) rfl dX3_init_9 ?_
  refine z_aload_n dX3_init_12 rfl ?_
  refine z_iconst (v := (-1)) dX3_init_13 rfl ?_
  refine z_put (fs := [.ref a1, .int 0, .int 0, .null, .int 0, .int 0, .int 0]) (v := .int (-1)) (ws' := [(q, .inr (3, [.ref a1, .int (-1), .int 0, .null, .int 0, .int 0, .int 0]))] ++ [(a1, .inl (G.2.2.1 0, 6, .inl (fun _ => 0)))]) 0 rfl rfl uin_X3 tyX3 tyX3_ok nmX3 1 (Nat.le_of_ble_eq_true rfl) tw_f_RX3_15 rfl rfl (ty := .int) rfl rfl rfl (Nat.le_of_ble_eq_true rfl) rfl dX3_init_14 ?_
  refine z_aload_n dX3_init_17 rfl ?_
  refine z_iconst (v := 0) dX3_init_18 rfl ?_
  refine z_put (fs := [.ref a1, .int (-1), .int 0, .null, .int 0, .int 0, .int 0]) (v := .int 0) (ws' := [(q, .inr (3, [.ref a1, .int (-1), .int 0, .null, .int 0, .int 0, .int 0]))] ++ [(a1, .inl (G.2.2.1 0, 6, .inl (fun _ => 0)))]) 0 rfl rfl uin_X3 tyX3 tyX3_ok nmX3 2 (Nat.le_of_ble_eq_true rfl) tw_f_RX3_19 rfl rfl (ty := .int) rfl rfl rfl (Nat.le_of_ble_eq_true rfl) rfl dX3_init_19 ?_
  refine z_aload_n dX3_init_22 rfl ?_
  refine z_iconst (v := 0) dX3_init_23 rfl ?_
  refine z_newl (N := 0) hw tw_o_107 (by decide) (by decide) (by decide) (Nat.le_of_ble_eq_true rfl) (Nat.le_of_ble_eq_true rfl) dX3_init_24 (fun a2 => ?_)
  refine z_put (fs := [.ref a1, .int (-1), .int 0, .null, .int 0, .int 0, .int 0]) (v := .ref a2) (ws' := [(q, .inr (3, [.ref a1, .int (-1), .int 0, .ref a2, .int 0, .int 0, .int 0]))] ++ [(a1, .inl (G.2.2.1 0, 6, .inl (fun _ => 0)))] ++ [(a2, .inl (G.2.2.1 1, 0, .inr (.inl (fun _ => 0))))]) 0 rfl rfl uin_X3 tyX3 tyX3_ok nmX3 3 (Nat.le_of_ble_eq_true rfl) tw_f_RX3_22 rfl rfl (ty := (.array .long)) rfl rfl rfl (Nat.le_of_ble_eq_true rfl) rfl dX3_init_26 ?_
  refine z_aload_n dX3_init_29 rfl ?_
  refine z_iconst (v := 0) dX3_init_30 rfl ?_
  refine z_put (fs := [.ref a1, .int (-1), .int 0, .ref a2, .int 0, .int 0, .int 0]) (v := .int 0) (ws' := [(q, .inr (3, [.ref a1, .int (-1), .int 0, .ref a2, .int 0, .int 0, .int 0]))] ++ [(a1, .inl (G.2.2.1 0, 6, .inl (fun _ => 0)))] ++ [(a2, .inl (G.2.2.1 1, 0, .inr (.inl (fun _ => 0))))]) 0 rfl rfl uin_X3 tyX3 tyX3_ok nmX3 4 (Nat.le_of_ble_eq_true rfl) tw_f_RX3_26 rfl rfl (ty := .int) rfl rfl rfl (Nat.le_of_ble_eq_true rfl) rfl dX3_init_31 ?_
  refine z_aload_n dX3_init_34 rfl ?_
  refine z_iconst (v := 0) dX3_init_35 rfl ?_
  refine z_put (fs := [.ref a1, .int (-1), .int 0, .ref a2, .int 0, .int 0, .int 0]) (v := .int 0) (ws' := [(q, .inr (3, [.ref a1, .int (-1), .int 0, .ref a2, .int 0, .int 0, .int 0]))] ++ [(a1, .inl (G.2.2.1 0, 6, .inl (fun _ => 0)))] ++ [(a2, .inl (G.2.2.1 1, 0, .inr (.inl (fun _ => 0))))]) 0 rfl rfl uin_X3 tyX3 tyX3_ok nmX3 5 (Nat.le_of_ble_eq_true rfl) tw_f_RX3_29 rfl rfl (ty := .int) rfl rfl rfl (Nat.le_of_ble_eq_true rfl) rfl dX3_init_36 ?_
  refine z_aload_n dX3_init_39 rfl ?_
  refine z_iconst (v := 0) dX3_init_40 rfl ?_
  refine z_put (fs := [.ref a1, .int (-1), .int 0, .ref a2, .int 0, .int 0, .int 0]) (v := .int 0) (ws' := [(q, .inr (3, [.ref a1, .int (-1), .int 0, .ref a2, .int 0, .int 0, .int 0]))] ++ [(a1, .inl (G.2.2.1 0, 6, .inl (fun _ => 0)))] ++ [(a2, .inl (G.2.2.1 1, 0, .inr (.inl (fun _ => 0))))]) 0 rfl rfl uin_X3 tyX3 tyX3_ok nmX3 6 (Nat.le_of_ble_eq_true rfl) tw_f_RX3_32 rfl rfl (ty := .int) rfl rfl rfl (Nat.le_of_ble_eq_true rfl) rfl dX3_init_41 ?_
  refine z_arr (ws' := [(q, .inr (3, [.ref a1, .int (-1), .int 0, .ref a2, .int 0, .int 0, .int 0]))] ++ [(a1, .inl (G.2.2.1 0, 6, .inl (fun _ => 0)))]) [0, 1] rfl rfl ?_
  exact z_vret_W hQ rfl rfl rfl ⟨ad [q, a1], a2, rfl, rfl⟩ dX3_init_44
theorem dX2_init_0 : decode cX2_init 0 = .ok (.aload_n 0, 1) := by decide +kernel
theorem dX2_init_1 : decode cX2_init 1 = .ok (.invokespecial 3, 3) := by decide +kernel
theorem dX2_init_4 : decode cX2_init 4 = .ok (.aload_n 0, 1) := by decide +kernel
theorem dX2_init_5 : decode cX2_init 5 = .ok (.bipush 7, 2) := by decide +kernel
theorem dX2_init_7 : decode cX2_init 7 = .ok (.newarray .int, 2) := by decide +kernel
theorem dX2_init_9 : decode cX2_init 9 = .ok (.putfield 9, 3) := by decide +kernel
theorem dX2_init_12 : decode cX2_init 12 = .ok (.aload_n 0, 1) := by decide +kernel
theorem dX2_init_13 : decode cX2_init 13 = .ok (.bipush 7, 2) := by decide +kernel
theorem dX2_init_15 : decode cX2_init 15 = .ok (.newarray .int, 2) := by decide +kernel
theorem dX2_init_17 : decode cX2_init 17 = .ok (.putfield 15, 3) := by decide +kernel
theorem dX2_init_20 : decode cX2_init 20 = .ok (.aload_n 0, 1) := by decide +kernel
theorem dX2_init_21 : decode cX2_init 21 = .ok (.iconst 0, 1) := by decide +kernel
theorem dX2_init_22 : decode cX2_init 22 = .ok (.putfield 18, 3) := by decide +kernel
theorem dX2_init_25 : decode cX2_init 25 = .ok (.aload_n 0, 1) := by decide +kernel
theorem dX2_init_26 : decode cX2_init 26 = .ok (.iconst 0, 1) := by decide +kernel
theorem dX2_init_27 : decode cX2_init 27 = .ok (.putfield 22, 3) := by decide +kernel
theorem dX2_init_30 : decode cX2_init 30 = .ok (.aload_n 0, 1) := by decide +kernel
theorem dX2_init_31 : decode cX2_init 31 = .ok (.iconst 0, 1) := by decide +kernel
theorem dX2_init_32 : decode cX2_init 32 = .ok (.putfield 25, 3) := by decide +kernel
theorem dX2_init_35 : decode cX2_init 35 = .ok (.aload_n 0, 1) := by decide +kernel
theorem dX2_init_36 : decode cX2_init 36 = .ok (.iconst 0, 1) := by decide +kernel
theorem dX2_init_37 : decode cX2_init 37 = .ok (.putfield 28, 3) := by decide +kernel
theorem dX2_init_40 : decode cX2_init 40 = .ok (.aload_n 0, 1) := by decide +kernel
theorem dX2_init_41 : decode cX2_init 41 = .ok (.iconst 0, 1) := by decide +kernel
theorem dX2_init_42 : decode cX2_init 42 = .ok (.putfield 31, 3) := by decide +kernel
theorem dX2_init_45 : decode cX2_init 45 = .ok (.aload_n 0, 1) := by decide +kernel
theorem dX2_init_46 : decode cX2_init 46 = .ok (.aload_n 1, 1) := by decide +kernel
theorem dX2_init_47 : decode cX2_init 47 = .ok (.putfield 34, 3) := by decide +kernel
theorem dX2_init_50 : decode cX2_init 50 = .ok (.return_, 1) := by decide +kernel
abbrev k_X2_init : zK := (cX2_init, 2, RX2, none, ({ frames := 1, cells := 2, slots := 14, locals := 12 } : Room))
theorem zc_X2_init : zcal yX2_init k_X2_init.1 k_X2_init.2.1 k_X2_init.2.2.2.1 1 := ⟨tw_code_yX2_init, tw_i_TollForHesitators_Order, ⟨by decide +kernel, by decide +kernel⟩, by decide +kernel⟩
set_option maxHeartbeats 800000 in
theorem c_X2_init {l : Launch} (G : zG) (P : pT) (q : Nat) (b : Nat) (sz : Nat) : Met l yX2_init (.code yX2_init k_X2_init.1 k_X2_init.2.1 k_X2_init.2.2.2.1 :: TS) k_X2_init.2.2.2.2 (Pz G [.ref q, .ref b] (Fw G (gX G P) ([(q, .inr (2, [.null, .null, .null, .int 0, .int 0, .int 0, .int 0, .int 0]))]) sz)) (Qwv G (fun w => ∃ a : Nat → Nat, a 0 = q ∧ w = orW G a (fun _ => b) oI) (va_A ([(q, .inr (2, [.null, .null, .null, .int 0, .int 0, .int 0, .int 0, .int 0]))]) sz)) 2 14 (va_A ([(q, .inr (2, [.null, .null, .null, .int 0, .int 0, .int 0, .int 0, .int 0]))]) sz) := by
  refine zmet (K := k_X2_init) (by decide +kernel) rfl rfl (fun Γ hl0 hQ hN hF => ?_)
  refine z_start (gX_ok G P) hF (fun hw => ?_)
  generalize va_A ([(q, .inr (2, [.null, .null, .null, .int 0, .int 0, .int 0, .int 0, .int 0]))]) sz = A at hQ hw ⊢
  show Z k_X2_init G Γ _ 0 0 [(0, .ref q), (1, .ref b)] 0 []
  refine z_aload_n dX2_init_0 rfl ?_
  refine z_objinit tw_m_RX2_3 tw_inst_objectInit tw_objcode ⟨Nat.le_of_ble_eq_true rfl, Nat.le_of_ble_eq_true rfl⟩ dX2_init_1 ?_
  refine z_aload_n dX2_init_4 rfl ?_
  refine z_bipush (v := 7) dX2_init_5 rfl ?_
  refine z_newi (N := 7) hw tw_o_84 (by decide) (by decide) (by decide) (Nat.le_of_ble_eq_true rfl) (Nat.le_of_ble_eq_true rfl) dX2_init_7 (fun a1 => ?_)
  refine z_putF (fs := [.null, .null, .null, .int 0, .int 0, .int 0, .int 0, .int 0]) (v := .ref a1) (ws' := [(q, .inr (2, [.null, .ref a1, .null, .int 0, .int 0, .int 0, .int 0, .int 0]))] ++ [(a1, .inl (G.2.2.1 0, 7, .inl (fun _ => 0)))]) hN 0 rfl rfl uin_X2 tyX2 tyX2_ok nmX2 1 (Nat.le_of_ble_eq_true rfl) tw_f_RX2_9 rfl rfl rfl (ty := (.array .int)) rfl rfl rfl (Nat.le_of_ble_eq_true rfl) rfl dX2_init_9 ?_
  refine z_aload_n dX2_init_12 rfl ?_
  refine z_bipush (v := 7) dX2_init_13 rfl ?_
  refine z_newi (N := 7) hw tw_o_84 (by decide) (by decide) (by decide) (Nat.le_of_ble_eq_true rfl) (Nat.le_of_ble_eq_true rfl) dX2_init_15 (fun a2 => ?_)
  refine z_putF (fs := [.null, .ref a1, .null, .int 0, .int 0, .int 0, .int 0, .int 0]) (v := .ref a2) (ws' := [(q, .inr (2, [.null, .ref a1, .ref a2, .int 0, .int 0, .int 0, .int 0, .int 0]))] ++ [(a1, .inl (G.2.2.1 0, 7, .inl (fun _ => 0)))] ++ [(a2, .inl (G.2.2.1 0, 7, .inl (fun _ => 0)))]) hN 0 rfl rfl uin_X2 tyX2 tyX2_ok nmX2 2 (Nat.le_of_ble_eq_true rfl) tw_f_RX2_15 rfl rfl rfl (ty := (.array .int)) rfl rfl rfl (Nat.le_of_ble_eq_true rfl) rfl dX2_init_17 ?_
  refine z_aload_n dX2_init_20 rfl ?_
  refine z_iconst (v := 0) dX2_init_21 rfl ?_
  refine z_put (fs := [.null, .ref a1, .ref a2, .int 0, .int 0, .int 0, .int 0, .int 0]) (v := .int 0) (ws' := [(q, .inr (2, [.null, .ref a1, .ref a2, .int 0, .int 0, .int 0, .int 0, .int 0]))] ++ [(a1, .inl (G.2.2.1 0, 7, .inl (fun _ => 0)))] ++ [(a2, .inl (G.2.2.1 0, 7, .inl (fun _ => 0)))]) 0 rfl rfl uin_X2 tyX2 tyX2_ok nmX2 3 (Nat.le_of_ble_eq_true rfl) tw_f_RX2_18 rfl rfl (ty := .int) rfl rfl rfl (Nat.le_of_ble_eq_true rfl) rfl dX2_init_22 ?_
  refine z_aload_n dX2_init_25 rfl ?_
  refine z_iconst (v := 0) dX2_init_26 rfl ?_
  refine z_put (fs := [.null, .ref a1, .ref a2, .int 0, .int 0, .int 0, .int 0, .int 0]) (v := .int 0) (ws' := [(q, .inr (2, [.null, .ref a1, .ref a2, .int 0, .int 0, .int 0, .int 0, .int 0]))] ++ [(a1, .inl (G.2.2.1 0, 7, .inl (fun _ => 0)))] ++ [(a2, .inl (G.2.2.1 0, 7, .inl (fun _ => 0)))]) 0 rfl rfl uin_X2 tyX2 tyX2_ok nmX2 4 (Nat.le_of_ble_eq_true rfl) tw_f_RX2_22 rfl rfl (ty := .int) rfl rfl rfl (Nat.le_of_ble_eq_true rfl) rfl dX2_init_27 ?_
  refine z_aload_n dX2_init_30 rfl ?_
  refine z_iconst (v := 0) dX2_init_31 rfl ?_
  refine z_put (fs := [.null, .ref a1, .ref a2, .int 0, .int 0, .int 0, .int 0, .int 0]) (v := .int 0) (ws' := [(q, .inr (2, [.null, .ref a1, .ref a2, .int 0, .int 0, .int 0, .int 0, .int 0]))] ++ [(a1, .inl (G.2.2.1 0, 7, .inl (fun _ => 0)))] ++ [(a2, .inl (G.2.2.1 0, 7, .inl (fun _ => 0)))]) 0 rfl rfl uin_X2 tyX2 tyX2_ok nmX2 5 (Nat.le_of_ble_eq_true rfl) tw_f_RX2_25 rfl rfl (ty := .int) rfl rfl rfl (Nat.le_of_ble_eq_true rfl) rfl dX2_init_32 ?_
  refine z_aload_n dX2_init_35 rfl ?_
  refine z_iconst (v := 0) dX2_init_36 rfl ?_
  refine z_put (fs := [.null, .ref a1, .ref a2, .int 0, .int 0, .int 0, .int 0, .int 0]) (v := .int 0) (ws' := [(q, .inr (2, [.null, .ref a1, .ref a2, .int 0, .int 0, .int 0, .int 0, .int 0]))] ++ [(a1, .inl (G.2.2.1 0, 7, .inl (fun _ => 0)))] ++ [(a2, .inl (G.2.2.1 0, 7, .inl (fun _ => 0)))]) 0 rfl rfl uin_X2 tyX2 tyX2_ok nmX2 6 (Nat.le_of_ble_eq_true rfl) tw_f_RX2_28 rfl rfl (ty := .int) rfl rfl rfl (Nat.le_of_ble_eq_true rfl) rfl dX2_init_37 ?_
  refine z_aload_n dX2_init_40 rfl ?_
  refine z_iconst (v := 0) dX2_init_41 rfl ?_
  refine z_put (fs := [.null, .ref a1, .ref a2, .int 0, .int 0, .int 0, .int 0, .int 0]) (v := .int 0) (ws' := [(q, .inr (2, [.null, .ref a1, .ref a2, .int 0, .int 0, .int 0, .int 0, .int 0]))] ++ [(a1, .inl (G.2.2.1 0, 7, .inl (fun _ => 0)))] ++ [(a2, .inl (G.2.2.1 0, 7, .inl (fun _ => 0)))]) 0 rfl rfl uin_X2 tyX2 tyX2_ok nmX2 7 (Nat.le_of_ble_eq_true rfl) tw_f_RX2_31 rfl rfl (ty := .int) rfl rfl rfl (Nat.le_of_ble_eq_true rfl) rfl dX2_init_42 ?_
  refine z_aload_n dX2_init_45 rfl ?_
  refine z_aload_n dX2_init_46 rfl ?_
  refine z_putF (fs := [.null, .ref a1, .ref a2, .int 0, .int 0, .int 0, .int 0, .int 0]) (v := .ref b) (ws' := [(q, .inr (2, [.ref b, .ref a1, .ref a2, .int 0, .int 0, .int 0, .int 0, .int 0]))] ++ [(a1, .inl (G.2.2.1 0, 7, .inl (fun _ => 0)))] ++ [(a2, .inl (G.2.2.1 0, 7, .inl (fun _ => 0)))]) hN 0 rfl rfl uin_X2 tyX2 tyX2_ok nmX2 0 (Nat.le_of_ble_eq_true rfl) tw_f_RX2_34 rfl rfl rfl (ty := (.object RX4)) rfl rfl rfl (Nat.le_of_ble_eq_true rfl) rfl dX2_init_47 ?_
  exact z_vret_W hQ rfl rfl rfl ⟨ad [q, a1, a2], rfl, rfl⟩ dX2_init_50
theorem dX1_init_0 : decode cX1_init 0 = .ok (.aload_n 0, 1) := by decide +kernel
theorem dX1_init_1 : decode cX1_init 1 = .ok (.invokespecial 3, 3) := by decide +kernel
theorem dX1_init_4 : decode cX1_init 4 = .ok (.aload_n 0, 1) := by decide +kernel
theorem dX1_init_5 : decode cX1_init 5 = .ok (.bipush 20, 2) := by decide +kernel
theorem dX1_init_7 : decode cX1_init 7 = .ok (.newarray .int, 2) := by decide +kernel
theorem dX1_init_9 : decode cX1_init 9 = .ok (.putfield 9, 3) := by decide +kernel
theorem dX1_init_12 : decode cX1_init 12 = .ok (.aload_n 0, 1) := by decide +kernel
theorem dX1_init_13 : decode cX1_init 13 = .ok (.iconst 0, 1) := by decide +kernel
theorem dX1_init_14 : decode cX1_init 14 = .ok (.putfield 15, 3) := by decide +kernel
theorem dX1_init_17 : decode cX1_init 17 = .ok (.aload_n 0, 1) := by decide +kernel
theorem dX1_init_18 : decode cX1_init 18 = .ok (.aconst_null, 1) := by decide +kernel
theorem dX1_init_19 : decode cX1_init 19 = .ok (.putfield 19, 3) := by decide +kernel
theorem dX1_init_22 : decode cX1_init 22 = .ok (.return_, 1) := by decide +kernel
abbrev k_X1_init : zK := (cX1_init, 1, RX1, none, ({ frames := 1, cells := 1, slots := 20, locals := 12 } : Room))
theorem zc_X1_init : zcal yX1_init k_X1_init.1 k_X1_init.2.1 k_X1_init.2.2.2.1 0 := ⟨tw_code_yX1_init, tw_i_TollForHesitators_Moves, ⟨by decide +kernel, by decide +kernel⟩, by decide +kernel⟩
set_option maxHeartbeats 800000 in
theorem c_X1_init {l : Launch} (G : zG) (P : pT) (q : Nat) (sz : Nat) : Met l yX1_init (.code yX1_init k_X1_init.1 k_X1_init.2.1 k_X1_init.2.2.2.1 :: TS) k_X1_init.2.2.2.2 (Pz G [.ref q] (Fw G (gX G P) ([(q, .inr (1, [.null, .int 0, .null]))]) sz)) (Qwv G (fun w => ∃ a : Nat → Nat, a 0 = q ∧ w = mvW G a vI) (va_A ([(q, .inr (1, [.null, .int 0, .null]))]) sz)) 1 20 (va_A ([(q, .inr (1, [.null, .int 0, .null]))]) sz) := by
  refine zmet (K := k_X1_init) (by decide +kernel) rfl rfl (fun Γ hl0 hQ hN hF => ?_)
  refine z_start (gX_ok G P) hF (fun hw => ?_)
  generalize va_A ([(q, .inr (1, [.null, .int 0, .null]))]) sz = A at hQ hw ⊢
  show Z k_X1_init G Γ _ 0 0 [(0, .ref q)] 0 []
  refine z_aload_n dX1_init_0 rfl ?_
  refine z_objinit tw_m_RX1_3 tw_inst_objectInit tw_objcode ⟨Nat.le_of_ble_eq_true rfl, Nat.le_of_ble_eq_true rfl⟩ dX1_init_1 ?_
  refine z_aload_n dX1_init_4 rfl ?_
  refine z_bipush (v := 20) dX1_init_5 rfl ?_
  refine z_newi (N := 20) hw tw_o_84 (by decide) (by decide) (by decide) (Nat.le_of_ble_eq_true rfl) (Nat.le_of_ble_eq_true rfl) dX1_init_7 (fun a1 => ?_)
  refine z_putF (fs := [.null, .int 0, .null]) (v := .ref a1) (ws' := [(q, .inr (1, [.ref a1, .int 0, .null]))] ++ [(a1, .inl (G.2.2.1 0, 20, .inl (fun _ => 0)))]) hN 0 rfl rfl uin_X1 tyX1 tyX1_ok nmX1 0 (Nat.le_of_ble_eq_true rfl) tw_f_RX1_9 rfl rfl rfl (ty := (.array .int)) rfl rfl rfl (Nat.le_of_ble_eq_true rfl) rfl dX1_init_9 ?_
  refine z_aload_n dX1_init_12 rfl ?_
  refine z_iconst (v := 0) dX1_init_13 rfl ?_
  refine z_put (fs := [.ref a1, .int 0, .null]) (v := .int 0) (ws' := [(q, .inr (1, [.ref a1, .int 0, .null]))] ++ [(a1, .inl (G.2.2.1 0, 20, .inl (fun _ => 0)))]) 0 rfl rfl uin_X1 tyX1 tyX1_ok nmX1 1 (Nat.le_of_ble_eq_true rfl) tw_f_RX1_15 rfl rfl (ty := .int) rfl rfl rfl (Nat.le_of_ble_eq_true rfl) rfl dX1_init_14 ?_
  refine z_aload_n dX1_init_17 rfl ?_
  refine z_null dX1_init_18 ?_
  refine z_put (fs := [.ref a1, .int 0, .null]) (v := .null) (ws' := [(q, .inr (1, [.ref a1, .int 0, .null]))] ++ [(a1, .inl (G.2.2.1 0, 20, .inl (fun _ => 0)))]) 0 rfl rfl uin_X1 tyX1 tyX1_ok nmX1 2 (Nat.le_of_ble_eq_true rfl) tw_f_RX1_19 rfl rfl (ty := (.object RX0)) rfl rfl rfl (Nat.le_of_ble_eq_true rfl) rfl dX1_init_19 ?_
  exact z_vret_W hQ rfl rfl rfl ⟨ad [q, a1], rfl, rfl⟩ dX1_init_22
theorem dX6_init_0 : decode cX6_init 0 = .ok (.aload_n 0, 1) := by decide +kernel
theorem dX6_init_1 : decode cX6_init 1 = .ok (.invokespecial 1, 3) := by decide +kernel
theorem dX6_init_4 : decode cX6_init 4 = .ok (.aload_n 0, 1) := by decide +kernel
theorem dX6_init_5 : decode cX6_init 5 = .ok (.new 7, 3) := by decide +kernel
theorem dX6_init_8 : decode cX6_init 8 = .ok (.dup, 1) := by decide +kernel
theorem dX6_init_9 : decode cX6_init 9 = .ok (.invokespecial 9, 3) := by decide +kernel
theorem dX6_init_12 : decode cX6_init 12 = .ok (.putfield 10, 3) := by decide +kernel
theorem dX6_init_15 : decode cX6_init 15 = .ok (.aload_n 0, 1) := by decide +kernel
theorem dX6_init_16 : decode cX6_init 16 = .ok (.new 7, 3) := by decide +kernel
theorem dX6_init_19 : decode cX6_init 19 = .ok (.dup, 1) := by decide +kernel
theorem dX6_init_20 : decode cX6_init 20 = .ok (.invokespecial 9, 3) := by decide +kernel
theorem dX6_init_23 : decode cX6_init 23 = .ok (.putfield 16, 3) := by decide +kernel
theorem dX6_init_26 : decode cX6_init 26 = .ok (.aload_n 0, 1) := by decide +kernel
theorem dX6_init_27 : decode cX6_init 27 = .ok (.new 7, 3) := by decide +kernel
theorem dX6_init_30 : decode cX6_init 30 = .ok (.dup, 1) := by decide +kernel
theorem dX6_init_31 : decode cX6_init 31 = .ok (.invokespecial 9, 3) := by decide +kernel
theorem dX6_init_34 : decode cX6_init 34 = .ok (.putfield 19, 3) := by decide +kernel
theorem dX6_init_37 : decode cX6_init 37 = .ok (.aload_n 0, 1) := by decide +kernel
theorem dX6_init_38 : decode cX6_init 38 = .ok (.bipush 8, 2) := by decide +kernel
theorem dX6_init_40 : decode cX6_init 40 = .ok (.anewarray 22, 3) := by decide +kernel
theorem dX6_init_43 : decode cX6_init 43 = .ok (.putfield 24, 3) := by decide +kernel
theorem dX6_init_46 : decode cX6_init 46 = .ok (.iconst 0, 1) := by decide +kernel
theorem dX6_init_47 : decode cX6_init 47 = .ok (.istore_n 1, 1) := by decide +kernel
theorem dX6_init_48 : decode cX6_init 48 = .ok (.iload_n 1, 1) := by decide +kernel
theorem dX6_init_49 : decode cX6_init 49 = .ok (.aload_n 0, 1) := by decide +kernel
theorem dX6_init_50 : decode cX6_init 50 = .ok (.getfield 24, 3) := by decide +kernel
theorem dX6_init_53 : decode cX6_init 53 = .ok (.arraylength, 1) := by decide +kernel
theorem dX6_init_54 : decode cX6_init 54 = .ok (.if_icmp .ge 22, 3) := by decide +kernel
theorem dX6_init_57 : decode cX6_init 57 = .ok (.aload_n 0, 1) := by decide +kernel
theorem dX6_init_58 : decode cX6_init 58 = .ok (.getfield 24, 3) := by decide +kernel
theorem dX6_init_61 : decode cX6_init 61 = .ok (.iload_n 1, 1) := by decide +kernel
theorem dX6_init_62 : decode cX6_init 62 = .ok (.new 22, 3) := by decide +kernel
theorem dX6_init_65 : decode cX6_init 65 = .ok (.dup, 1) := by decide +kernel
theorem dX6_init_66 : decode cX6_init 66 = .ok (.invokespecial 28, 3) := by decide +kernel
theorem dX6_init_69 : decode cX6_init 69 = .ok (.aastore, 1) := by decide +kernel
theorem dX6_init_70 : decode cX6_init 70 = .ok (.iinc 1 1, 3) := by decide +kernel
theorem dX6_init_73 : decode cX6_init 73 = .ok (.goto (-25), 3) := by decide +kernel
theorem dX6_init_76 : decode cX6_init 76 = .ok (.aload_n 0, 1) := by decide +kernel
theorem dX6_init_77 : decode cX6_init 77 = .ok (.new 29, 3) := by decide +kernel
theorem dX6_init_80 : decode cX6_init 80 = .ok (.dup, 1) := by decide +kernel
theorem dX6_init_81 : decode cX6_init 81 = .ok (.invokespecial 31, 3) := by decide +kernel
theorem dX6_init_84 : decode cX6_init 84 = .ok (.putfield 32, 3) := by decide +kernel
theorem dX6_init_87 : decode cX6_init 87 = .ok (.aload_n 0, 1) := by decide +kernel
theorem dX6_init_88 : decode cX6_init 88 = .ok (.new 36, 3) := by decide +kernel
theorem dX6_init_91 : decode cX6_init 91 = .ok (.dup, 1) := by decide +kernel
theorem dX6_init_92 : decode cX6_init 92 = .ok (.aload_n 0, 1) := by decide +kernel
theorem dX6_init_93 : decode cX6_init 93 = .ok (.getfield 10, 3) := by decide +kernel
theorem dX6_init_96 : decode cX6_init 96 = .ok (.invokespecial 38, 3) := by decide +kernel
theorem dX6_init_99 : decode cX6_init 99 = .ok (.putfield 41, 3) := by decide +kernel
theorem dX6_init_102 : decode cX6_init 102 = .ok (.aload_n 0, 1) := by decide +kernel
theorem dX6_init_103 : decode cX6_init 103 = .ok (.new 36, 3) := by decide +kernel
theorem dX6_init_106 : decode cX6_init 106 = .ok (.dup, 1) := by decide +kernel
theorem dX6_init_107 : decode cX6_init 107 = .ok (.aload_n 0, 1) := by decide +kernel
theorem dX6_init_108 : decode cX6_init 108 = .ok (.getfield 10, 3) := by decide +kernel
theorem dX6_init_111 : decode cX6_init 111 = .ok (.invokespecial 38, 3) := by decide +kernel
theorem dX6_init_114 : decode cX6_init 114 = .ok (.putfield 45, 3) := by decide +kernel
theorem dX6_init_117 : decode cX6_init 117 = .ok (.aload_n 0, 1) := by decide +kernel
theorem dX6_init_118 : decode cX6_init 118 = .ok (.new 36, 3) := by decide +kernel
theorem dX6_init_121 : decode cX6_init 121 = .ok (.dup, 1) := by decide +kernel
theorem dX6_init_122 : decode cX6_init 122 = .ok (.aload_n 0, 1) := by decide +kernel
theorem dX6_init_123 : decode cX6_init 123 = .ok (.getfield 10, 3) := by decide +kernel
theorem dX6_init_126 : decode cX6_init 126 = .ok (.invokespecial 38, 3) := by decide +kernel
theorem dX6_init_129 : decode cX6_init 129 = .ok (.putfield 48, 3) := by decide +kernel
theorem dX6_init_132 : decode cX6_init 132 = .ok (.aload_n 0, 1) := by decide +kernel
theorem dX6_init_133 : decode cX6_init 133 = .ok (.new 51, 3) := by decide +kernel
theorem dX6_init_136 : decode cX6_init 136 = .ok (.dup, 1) := by decide +kernel
theorem dX6_init_137 : decode cX6_init 137 = .ok (.invokespecial 53, 3) := by decide +kernel
theorem dX6_init_140 : decode cX6_init 140 = .ok (.putfield 54, 3) := by decide +kernel
theorem dX6_init_143 : decode cX6_init 143 = .ok (.aload_n 0, 1) := by decide +kernel
theorem dX6_init_144 : decode cX6_init 144 = .ok (.bipush 8, 2) := by decide +kernel
theorem dX6_init_146 : decode cX6_init 146 = .ok (.newarray .int, 2) := by decide +kernel
theorem dX6_init_148 : decode cX6_init 148 = .ok (.putfield 58, 3) := by decide +kernel
theorem dX6_init_151 : decode cX6_init 151 = .ok (.aload_n 0, 1) := by decide +kernel
theorem dX6_init_152 : decode cX6_init 152 = .ok (.iconst (-1), 1) := by decide +kernel
theorem dX6_init_153 : decode cX6_init 153 = .ok (.putfield 62, 3) := by decide +kernel
theorem dX6_init_156 : decode cX6_init 156 = .ok (.return_, 1) := by decide +kernel
abbrev k_X6_init : zK := (cX6_init, 2, RX6, none, ({ frames := 2, cells := 47, slots := 1539, locals := 33 } : Room))
theorem zc_X6_init : zcal yX6_init k_X6_init.1 k_X6_init.2.1 k_X6_init.2.2.2.1 0 := ⟨tw_code_yX6_init, tw_i_TollForHesitators, ⟨by decide +kernel, by decide +kernel⟩, by decide +kernel⟩
set_option maxHeartbeats 800000 in
theorem c_X6_init {l : Launch} (G : zG) (P : pT) (q : Nat) (sz : Nat) : Met l yX6_init (.code yX6_init k_X6_init.1 k_X6_init.2.1 k_X6_init.2.2.2.1 :: TS) k_X6_init.2.2.2.2 (Pz G [.ref q] (Fw G (gX G P) ([(q, .inr (6, [.null, .null, .null, .null, .null, .null, .null, .null, .null, .null, .int 0, .int 0]))]) sz)) (Qwv G (fun w => ∃ (a : Nat → Nat) (b : Nat), a 0 = q ∧ w = maW G a nI0 ++ rdW G (sh a 10) rI ++ rdW G (sh a 15) rI ++ rdW G (sh a 20) rI ++ re2W G (sh a 50) b eI ++ orW G (sh a 60) (sh a 10) oI ++ orW G (sh a 63) (sh a 10) oI ++ orW G (sh a 66) (sh a 10) oI ++ mvW G (sh a 70) vI ++ faW G a (fun _ => sI)) (va_A ([(q, .inr (6, [.null, .null, .null, .null, .null, .null, .null, .null, .null, .null, .int 0, .int 0]))]) sz)) 47 1539 (va_A ([(q, .inr (6, [.null, .null, .null, .null, .null, .null, .null, .null, .null, .null, .int 0, .int 0]))]) sz) := by
  refine zmet (K := k_X6_init) (by decide +kernel) rfl rfl (fun Γ hl0 hQ hN hF => ?_)
  refine z_start (gX_ok G P) hF (fun hw => ?_)
  generalize va_A ([(q, .inr (6, [.null, .null, .null, .null, .null, .null, .null, .null, .null, .null, .int 0, .int 0]))]) sz = A at hQ hw ⊢
  show Z k_X6_init G Γ _ 0 0 [(0, .ref q)] 0 []
  refine z_aload_n dX6_init_0 rfl ?_
  refine z_objinit tw_m_RX6_1 tw_inst_objectInit tw_objcode ⟨Nat.le_of_ble_eq_true rfl, Nat.le_of_ble_eq_true rfl⟩ dX6_init_1 ?_
  refine z_aload_n dX6_init_4 rfl ?_
  refine z_new (ci := 4) (fs := [.null, .null, .null, .null, .int 0, .int 0, .int 0, .int 0, .int 0, .int 0, .int 0]) hw rfl uin_X4 tyX4 tyX4_ok tw_k_RX6_7 tw_n_RX4 tw_i_TollForHesitators_Road (fun j hj => by rcases (show j = 0 ∨ j = 1 ∨ j = 2 ∨ j = 3 ∨ j = 4 ∨ j = 5 ∨ j = 6 ∨ j = 7 ∨ j = 8 ∨ j = 9 ∨ j = 10 by omega) with rfl | rfl | rfl | rfl | rfl | rfl | rfl | rfl | rfl | rfl | rfl <;> rfl) (Nat.le_of_ble_eq_true rfl) (Nat.le_of_ble_eq_true rfl) dX6_init_5 (fun q1 => ?_)
  refine z_dup dX6_init_8 rfl ?_
  refine z_cinitN (ws := [(q, .inr (6, [.null, .null, .null, .null, .null, .null, .null, .null, .null, .null, .int 0, .int 0]))]) (wc := [(q1, .inr (4, [.null, .null, .null, .null, .int 0, .int 0, .int 0, .int 0, .int 0, .int 0, .int 0]))]) hw (fun sz => c_X4_init G P q1 sz) zc_X4_init ⟨rfl, tw_inst_yX4_init⟩ (by decide +kernel) (zroom_of rfl) rfl (Nat.le_of_ble_eq_true rfl) dX6_init_9 (fun w1 hw1 => ?_)
  obtain ⟨b2, b20, hw1⟩ := hw1
  rw [show w1 = rdW G b2 rI from hw1]; clear hw1
  subst b20
  refine z_putF (fs := [.null, .null, .null, .null, .null, .null, .null, .null, .null, .null, .int 0, .int 0]) (v := .ref (b2 0)) (ws' := [(q, .inr (6, [.ref (b2 0), .null, .null, .null, .null, .null, .null, .null, .null, .null, .int 0, .int 0]))] ++ rdW G b2 rI) hN 0 rfl rfl uin_X6 tyX6 tyX6_ok nmX6 0 (Nat.le_of_ble_eq_true rfl) tw_f_RX6_10 rfl rfl rfl (ty := (.object RX4)) rfl rfl rfl (Nat.le_of_ble_eq_true rfl) rfl dX6_init_12 ?_
  refine z_aload_n dX6_init_15 rfl ?_
  refine z_new (ci := 4) (fs := [.null, .null, .null, .null, .int 0, .int 0, .int 0, .int 0, .int 0, .int 0, .int 0]) hw rfl uin_X4 tyX4 tyX4_ok tw_k_RX6_7 tw_n_RX4 tw_i_TollForHesitators_Road (fun j hj => by rcases (show j = 0 ∨ j = 1 ∨ j = 2 ∨ j = 3 ∨ j = 4 ∨ j = 5 ∨ j = 6 ∨ j = 7 ∨ j = 8 ∨ j = 9 ∨ j = 10 by omega) with rfl | rfl | rfl | rfl | rfl | rfl | rfl | rfl | rfl | rfl | rfl <;> rfl) (Nat.le_of_ble_eq_true rfl) (Nat.le_of_ble_eq_true rfl) dX6_init_16 (fun q3 => ?_)
  refine z_dup dX6_init_19 rfl ?_
  refine z_cinitN (ws := [(q, .inr (6, [.ref (b2 0), .null, .null, .null, .null, .null, .null, .null, .null, .null, .int 0, .int 0]))] ++ rdW G b2 rI) (wc := [(q3, .inr (4, [.null, .null, .null, .null, .int 0, .int 0, .int 0, .int 0, .int 0, .int 0, .int 0]))]) hw (fun sz => c_X4_init G P q3 sz) zc_X4_init ⟨rfl, tw_inst_yX4_init⟩ (by decide +kernel) (zroom_of rfl) rfl (Nat.le_of_ble_eq_true rfl) dX6_init_20 (fun w1 hw1 => ?_)
  obtain ⟨b4, b40, hw1⟩ := hw1
  rw [show w1 = rdW G b4 rI from hw1]; clear hw1
  subst b40
  refine z_putF (fs := [.ref (b2 0), .null, .null, .null, .null, .null, .null, .null, .null, .null, .int 0, .int 0]) (v := .ref (b4 0)) (ws' := [(q, .inr (6, [.ref (b2 0), .ref (b4 0), .null, .null, .null, .null, .null, .null, .null, .null, .int 0, .int 0]))] ++ rdW G b2 rI ++ rdW G b4 rI) hN 0 rfl rfl uin_X6 tyX6 tyX6_ok nmX6 1 (Nat.le_of_ble_eq_true rfl) tw_f_RX6_16 rfl rfl rfl (ty := (.object RX4)) rfl rfl rfl (Nat.le_of_ble_eq_true rfl) rfl dX6_init_23 ?_
  refine z_aload_n dX6_init_26 rfl ?_
  refine z_new (ci := 4) (fs := [.null, .null, .null, .null, .int 0, .int 0, .int 0, .int 0, .int 0, .int 0, .int 0]) hw rfl uin_X4 tyX4 tyX4_ok tw_k_RX6_7 tw_n_RX4 tw_i_TollForHesitators_Road (fun j hj => by rcases (show j = 0 ∨ j = 1 ∨ j = 2 ∨ j = 3 ∨ j = 4 ∨ j = 5 ∨ j = 6 ∨ j = 7 ∨ j = 8 ∨ j = 9 ∨ j = 10 by omega) with rfl | rfl | rfl | rfl | rfl | rfl | rfl | rfl | rfl | rfl | rfl <;> rfl) (Nat.le_of_ble_eq_true rfl) (Nat.le_of_ble_eq_true rfl) dX6_init_27 (fun q5 => ?_)
  refine z_dup dX6_init_30 rfl ?_
  refine z_cinitN (ws := [(q, .inr (6, [.ref (b2 0), .ref (b4 0), .null, .null, .null, .null, .null, .null, .null, .null, .int 0, .int 0]))] ++ rdW G b2 rI ++ rdW G b4 rI) (wc := [(q5, .inr (4, [.null, .null, .null, .null, .int 0, .int 0, .int 0, .int 0, .int 0, .int 0, .int 0]))]) hw (fun sz => c_X4_init G P q5 sz) zc_X4_init ⟨rfl, tw_inst_yX4_init⟩ (by decide +kernel) (zroom_of rfl) rfl (Nat.le_of_ble_eq_true rfl) dX6_init_31 (fun w1 hw1 => ?_)
  obtain ⟨b6, b60, hw1⟩ := hw1
  rw [show w1 = rdW G b6 rI from hw1]; clear hw1
  subst b60
  refine z_putF (fs := [.ref (b2 0), .ref (b4 0), .null, .null, .null, .null, .null, .null, .null, .null, .int 0, .int 0]) (v := .ref (b6 0)) (ws' := [(q, .inr (6, [.ref (b2 0), .ref (b4 0), .ref (b6 0), .null, .null, .null, .null, .null, .null, .null, .int 0, .int 0]))] ++ rdW G b2 rI ++ rdW G b4 rI ++ rdW G b6 rI) hN 0 rfl rfl uin_X6 tyX6 tyX6_ok nmX6 2 (Nat.le_of_ble_eq_true rfl) tw_f_RX6_19 rfl rfl rfl (ty := (.object RX4)) rfl rfl rfl (Nat.le_of_ble_eq_true rfl) rfl dX6_init_34 ?_
  refine z_aload_n dX6_init_37 rfl ?_
  refine z_bipush (v := 8) dX6_init_38 rfl ?_
  refine z_newq (N := 8) 3 (fun _ => rfl) (fun U h => h.2.2.1.2) hw tw_k_RX6_22 (by decide) (by decide) (by decide) (Nat.le_of_ble_eq_true rfl) (Nat.le_of_ble_eq_true rfl) dX6_init_40 (fun a7 => ?_)
  refine z_putF (fs := [.ref (b2 0), .ref (b4 0), .ref (b6 0), .null, .null, .null, .null, .null, .null, .null, .int 0, .int 0]) (v := .ref a7) (ws' := [(q, .inr (6, [.ref (b2 0), .ref (b4 0), .ref (b6 0), .ref a7, .null, .null, .null, .null, .null, .null, .int 0, .int 0]))] ++ rdW G b2 rI ++ rdW G b4 rI ++ rdW G b6 rI ++ [(a7, .inl (G.2.2.1 3, 8, .inr (.inr (.inr (.inr (fun _ => none))))))]) hN 0 rfl rfl uin_X6 tyX6 tyX6_ok nmX6 3 (Nat.le_of_ble_eq_true rfl) tw_f_RX6_24 rfl rfl rfl (ty := (.array (.object RX5))) rfl rfl rfl (Nat.le_of_ble_eq_true rfl) rfl dX6_init_43 ?_
  refine z_iconst (v := 0) dX6_init_46 rfl ?_
  refine z_istore_n (lv' := [(1, .int 0), (0, .ref q)]) dX6_init_47 (Nat.le_of_ble_eq_true rfl) rfl ?_
  refine z_iload_n dX6_init_48 rfl ?_
  refine z_aload_n dX6_init_49 rfl ?_
  refine z_get (v := .ref a7) wr_P 0 rfl rfl uin_X6 3 (Nat.le_of_ble_eq_true rfl) tw_f_RX6_24 rfl rfl dX6_init_50 ?_
  refine z_alen (cA := G.2.2.1 0) (v := 8) 3 (fun _ => rfl) wr_P 16 rfl rfl dX6_init_53 ?_
  refine z_icmp_ge (tgt := 76) dX6_init_54 (by decide) (fun c => absurd c (by decide)) (fun _ => ?_)
  refine z_aload_n dX6_init_57 rfl ?_
  refine z_get (v := .ref a7) wr_P 0 rfl rfl uin_X6 3 (Nat.le_of_ble_eq_true rfl) tw_f_RX6_24 rfl rfl dX6_init_58 ?_
  refine z_iload_n dX6_init_61 rfl ?_
  refine z_new (ci := 5) (fs := [.null, .int 0, .int 0]) hw rfl uin_X5 tyX5 tyX5_ok tw_k_RX6_22 tw_n_RX5 tw_i_TollForHesitators_Shelf (fun j hj => by rcases (show j = 0 ∨ j = 1 ∨ j = 2 by omega) with rfl | rfl | rfl <;> rfl) (Nat.le_of_ble_eq_true rfl) (Nat.le_of_ble_eq_true rfl) dX6_init_62 (fun q8 => ?_)
  refine z_dup dX6_init_65 rfl ?_
  refine z_cinitN (ws := [(q, .inr (6, [.ref (b2 0), .ref (b4 0), .ref (b6 0), .ref a7, .null, .null, .null, .null, .null, .null, .int 0, .int 0]))] ++ rdW G b2 rI ++ rdW G b4 rI ++ rdW G b6 rI ++ [(a7, .inl (G.2.2.1 3, 8, .inr (.inr (.inr (.inr (fun _ => none))))))]) (wc := [(q8, .inr (5, [.null, .int 0, .int 0]))]) hw (fun sz => c_X5_init G P q8 sz) zc_X5_init ⟨rfl, tw_inst_yX5_init⟩ (by decide +kernel) (zroom_of rfl) rfl (Nat.le_of_ble_eq_true rfl) dX6_init_66 (fun w1 hw1 => ?_)
  obtain ⟨b9, b90, hw1⟩ := hw1
  rw [show w1 = shW G b9 sI from hw1]; clear hw1
  subst b90
  refine z_aastn (F := va_up (fun _ => none) 0 (some (b9 0))) (ws' := [(q, .inr (6, [.ref (b2 0), .ref (b4 0), .ref (b6 0), .ref a7, .null, .null, .null, .null, .null, .null, .int 0, .int 0]))] ++ rdW G b2 rI ++ rdW G b4 rI ++ rdW G b6 rI ++ [(a7, .inl (G.2.2.1 3, 8, .inr (.inr (.inr (.inr (va_up (fun _ => none) 0 (some (b9 0))))))))] ++ shW G b9 sI) 3 (fun _ => rfl) rfl 16 rfl (vin rfl) 17 rfl rfl rfl dX6_init_69 ?_
  refine z_iinc (v := 1) (lv' := [(1, .int 1), (0, .ref q)]) dX6_init_70 0 rfl (by decide) (Nat.le_of_ble_eq_true rfl) rfl ?_
  refine z_goto (tgt := 48) dX6_init_73 (by decide) ?_
  refine z_iload_n dX6_init_48 rfl ?_
  refine z_aload_n dX6_init_49 rfl ?_
  refine z_get (v := .ref a7) wr_P 0 rfl rfl uin_X6 3 (Nat.le_of_ble_eq_true rfl) tw_f_RX6_24 rfl rfl dX6_init_50 ?_
  refine z_alen (cA := G.2.2.1 0) (v := 8) 3 (fun _ => rfl) wr_P 16 rfl rfl dX6_init_53 ?_
  refine z_icmp_ge (tgt := 76) dX6_init_54 (by decide) (fun c => absurd c (by decide)) (fun _ => ?_)
  refine z_aload_n dX6_init_57 rfl ?_
  refine z_get (v := .ref a7) wr_P 0 rfl rfl uin_X6 3 (Nat.le_of_ble_eq_true rfl) tw_f_RX6_24 rfl rfl dX6_init_58 ?_
  refine z_iload_n dX6_init_61 rfl ?_
  refine z_new (ci := 5) (fs := [.null, .int 0, .int 0]) hw rfl uin_X5 tyX5 tyX5_ok tw_k_RX6_22 tw_n_RX5 tw_i_TollForHesitators_Shelf (fun j hj => by rcases (show j = 0 ∨ j = 1 ∨ j = 2 by omega) with rfl | rfl | rfl <;> rfl) (Nat.le_of_ble_eq_true rfl) (Nat.le_of_ble_eq_true rfl) dX6_init_62 (fun q10 => ?_)
  refine z_dup dX6_init_65 rfl ?_
  refine z_cinitN (ws := [(q, .inr (6, [.ref (b2 0), .ref (b4 0), .ref (b6 0), .ref a7, .null, .null, .null, .null, .null, .null, .int 0, .int 0]))] ++ rdW G b2 rI ++ rdW G b4 rI ++ rdW G b6 rI ++ [(a7, .inl (G.2.2.1 3, 8, .inr (.inr (.inr (.inr (va_up (fun _ => none) 0 (some (b9 0))))))))] ++ shW G b9 sI) (wc := [(q10, .inr (5, [.null, .int 0, .int 0]))]) hw (fun sz => c_X5_init G P q10 sz) zc_X5_init ⟨rfl, tw_inst_yX5_init⟩ (by decide +kernel) (zroom_of rfl) rfl (Nat.le_of_ble_eq_true rfl) dX6_init_66 (fun w1 hw1 => ?_)
  obtain ⟨b11, b110, hw1⟩ := hw1
  rw [show w1 = shW G b11 sI from hw1]; clear hw1
  subst b110
  refine z_aastn (F := va_up (va_up (fun _ => none) 0 (some (b9 0))) 1 (some (b11 0))) (ws' := [(q, .inr (6, [.ref (b2 0), .ref (b4 0), .ref (b6 0), .ref a7, .null, .null, .null, .null, .null, .null, .int 0, .int 0]))] ++ rdW G b2 rI ++ rdW G b4 rI ++ rdW G b6 rI ++ [(a7, .inl (G.2.2.1 3, 8, .inr (.inr (.inr (.inr (va_up (va_up (fun _ => none) 0 (some (b9 0))) 1 (some (b11 0))))))))] ++ shW G b9 sI ++ shW G b11 sI) 3 (fun _ => rfl) rfl 16 rfl (vin rfl) 19 rfl rfl rfl dX6_init_69 ?_
  refine z_iinc (v := 2) (lv' := [(1, .int 2), (0, .ref q)]) dX6_init_70 0 rfl (by decide) (Nat.le_of_ble_eq_true rfl) rfl ?_
  refine z_goto (tgt := 48) dX6_init_73 (by decide) ?_
  refine z_iload_n dX6_init_48 rfl ?_
  refine z_aload_n dX6_init_49 rfl ?_
  refine z_get (v := .ref a7) wr_P 0 rfl rfl uin_X6 3 (Nat.le_of_ble_eq_true rfl) tw_f_RX6_24 rfl rfl dX6_init_50 ?_
  refine z_alen (cA := G.2.2.1 0) (v := 8) 3 (fun _ => rfl) wr_P 16 rfl rfl dX6_init_53 ?_
  refine z_icmp_ge (tgt := 76) dX6_init_54 (by decide) (fun c => absurd c (by decide)) (fun _ => ?_)
  refine z_aload_n dX6_init_57 rfl ?_
  refine z_get (v := .ref a7) wr_P 0 rfl rfl uin_X6 3 (Nat.le_of_ble_eq_true rfl) tw_f_RX6_24 rfl rfl dX6_init_58 ?_
  refine z_iload_n dX6_init_61 rfl ?_
  refine z_new (ci := 5) (fs := [.null, .int 0, .int 0]) hw rfl uin_X5 tyX5 tyX5_ok tw_k_RX6_22 tw_n_RX5 tw_i_TollForHesitators_Shelf (fun j hj => by rcases (show j = 0 ∨ j = 1 ∨ j = 2 by omega) with rfl | rfl | rfl <;> rfl) (Nat.le_of_ble_eq_true rfl) (Nat.le_of_ble_eq_true rfl) dX6_init_62 (fun q12 => ?_)
  refine z_dup dX6_init_65 rfl ?_
  refine z_cinitN (ws := [(q, .inr (6, [.ref (b2 0), .ref (b4 0), .ref (b6 0), .ref a7, .null, .null, .null, .null, .null, .null, .int 0, .int 0]))] ++ rdW G b2 rI ++ rdW G b4 rI ++ rdW G b6 rI ++ [(a7, .inl (G.2.2.1 3, 8, .inr (.inr (.inr (.inr (va_up (va_up (fun _ => none) 0 (some (b9 0))) 1 (some (b11 0))))))))] ++ shW G b9 sI ++ shW G b11 sI) (wc := [(q12, .inr (5, [.null, .int 0, .int 0]))]) hw (fun sz => c_X5_init G P q12 sz) zc_X5_init ⟨rfl, tw_inst_yX5_init⟩ (by decide +kernel) (zroom_of rfl) rfl (Nat.le_of_ble_eq_true rfl) dX6_init_66 (fun w1 hw1 => ?_)
  obtain ⟨b13, b130, hw1⟩ := hw1
  rw [show w1 = shW G b13 sI from hw1]; clear hw1
  subst b130
  refine z_aastn (F := va_up (va_up (va_up (fun _ => none) 0 (some (b9 0))) 1 (some (b11 0))) 2 (some (b13 0))) (ws' := [(q, .inr (6, [.ref (b2 0), .ref (b4 0), .ref (b6 0), .ref a7, .null, .null, .null, .null, .null, .null, .int 0, .int 0]))] ++ rdW G b2 rI ++ rdW G b4 rI ++ rdW G b6 rI ++ [(a7, .inl (G.2.2.1 3, 8, .inr (.inr (.inr (.inr (va_up (va_up (va_up (fun _ => none) 0 (some (b9 0))) 1 (some (b11 0))) 2 (some (b13 0))))))))] ++ shW G b9 sI ++ shW G b11 sI ++ shW G b13 sI) 3 (fun _ => rfl) rfl 16 rfl (vin rfl) 21 rfl rfl rfl dX6_init_69 ?_
  refine z_iinc (v := 3) (lv' := [(1, .int 3), (0, .ref q)]) dX6_init_70 0 rfl (by decide) (Nat.le_of_ble_eq_true rfl) rfl ?_
  refine z_goto (tgt := 48) dX6_init_73 (by decide) ?_
  refine z_iload_n dX6_init_48 rfl ?_
  refine z_aload_n dX6_init_49 rfl ?_
  refine z_get (v := .ref a7) wr_P 0 rfl rfl uin_X6 3 (Nat.le_of_ble_eq_true rfl) tw_f_RX6_24 rfl rfl dX6_init_50 ?_
  refine z_alen (cA := G.2.2.1 0) (v := 8) 3 (fun _ => rfl) wr_P 16 rfl rfl dX6_init_53 ?_
  refine z_icmp_ge (tgt := 76) dX6_init_54 (by decide) (fun c => absurd c (by decide)) (fun _ => ?_)
  refine z_aload_n dX6_init_57 rfl ?_
  refine z_get (v := .ref a7) wr_P 0 rfl rfl uin_X6 3 (Nat.le_of_ble_eq_true rfl) tw_f_RX6_24 rfl rfl dX6_init_58 ?_
  refine z_iload_n dX6_init_61 rfl ?_
  refine z_new (ci := 5) (fs := [.null, .int 0, .int 0]) hw rfl uin_X5 tyX5 tyX5_ok tw_k_RX6_22 tw_n_RX5 tw_i_TollForHesitators_Shelf (fun j hj => by rcases (show j = 0 ∨ j = 1 ∨ j = 2 by omega) with rfl | rfl | rfl <;> rfl) (Nat.le_of_ble_eq_true rfl) (Nat.le_of_ble_eq_true rfl) dX6_init_62 (fun q14 => ?_)
  refine z_dup dX6_init_65 rfl ?_
  refine z_cinitN (ws := [(q, .inr (6, [.ref (b2 0), .ref (b4 0), .ref (b6 0), .ref a7, .null, .null, .null, .null, .null, .null, .int 0, .int 0]))] ++ rdW G b2 rI ++ rdW G b4 rI ++ rdW G b6 rI ++ [(a7, .inl (G.2.2.1 3, 8, .inr (.inr (.inr (.inr (va_up (va_up (va_up (fun _ => none) 0 (some (b9 0))) 1 (some (b11 0))) 2 (some (b13 0))))))))] ++ shW G b9 sI ++ shW G b11 sI ++ shW G b13 sI) (wc := [(q14, .inr (5, [.null, .int 0, .int 0]))]) hw (fun sz => c_X5_init G P q14 sz) zc_X5_init ⟨rfl, tw_inst_yX5_init⟩ (by decide +kernel) (zroom_of rfl) rfl (Nat.le_of_ble_eq_true rfl) dX6_init_66 (fun w1 hw1 => ?_)
  obtain ⟨b15, b150, hw1⟩ := hw1
  rw [show w1 = shW G b15 sI from hw1]; clear hw1
  subst b150
  refine z_aastn (F := va_up (va_up (va_up (va_up (fun _ => none) 0 (some (b9 0))) 1 (some (b11 0))) 2 (some (b13 0))) 3 (some (b15 0))) (ws' := [(q, .inr (6, [.ref (b2 0), .ref (b4 0), .ref (b6 0), .ref a7, .null, .null, .null, .null, .null, .null, .int 0, .int 0]))] ++ rdW G b2 rI ++ rdW G b4 rI ++ rdW G b6 rI ++ [(a7, .inl (G.2.2.1 3, 8, .inr (.inr (.inr (.inr (va_up (va_up (va_up (va_up (fun _ => none) 0 (some (b9 0))) 1 (some (b11 0))) 2 (some (b13 0))) 3 (some (b15 0))))))))] ++ shW G b9 sI ++ shW G b11 sI ++ shW G b13 sI ++ shW G b15 sI) 3 (fun _ => rfl) rfl 16 rfl (vin rfl) 23 rfl rfl rfl dX6_init_69 ?_
  refine z_iinc (v := 4) (lv' := [(1, .int 4), (0, .ref q)]) dX6_init_70 0 rfl (by decide) (Nat.le_of_ble_eq_true rfl) rfl ?_
  refine z_goto (tgt := 48) dX6_init_73 (by decide) ?_
  refine z_iload_n dX6_init_48 rfl ?_
  refine z_aload_n dX6_init_49 rfl ?_
  refine z_get (v := .ref a7) wr_P 0 rfl rfl uin_X6 3 (Nat.le_of_ble_eq_true rfl) tw_f_RX6_24 rfl rfl dX6_init_50 ?_
  refine z_alen (cA := G.2.2.1 0) (v := 8) 3 (fun _ => rfl) wr_P 16 rfl rfl dX6_init_53 ?_
  refine z_icmp_ge (tgt := 76) dX6_init_54 (by decide) (fun c => absurd c (by decide)) (fun _ => ?_)
  refine z_aload_n dX6_init_57 rfl ?_
  refine z_get (v := .ref a7) wr_P 0 rfl rfl uin_X6 3 (Nat.le_of_ble_eq_true rfl) tw_f_RX6_24 rfl rfl dX6_init_58 ?_
  refine z_iload_n dX6_init_61 rfl ?_
  refine z_new (ci := 5) (fs := [.null, .int 0, .int 0]) hw rfl uin_X5 tyX5 tyX5_ok tw_k_RX6_22 tw_n_RX5 tw_i_TollForHesitators_Shelf (fun j hj => by rcases (show j = 0 ∨ j = 1 ∨ j = 2 by omega) with rfl | rfl | rfl <;> rfl) (Nat.le_of_ble_eq_true rfl) (Nat.le_of_ble_eq_true rfl) dX6_init_62 (fun q16 => ?_)
  refine z_dup dX6_init_65 rfl ?_
  refine z_cinitN (ws := [(q, .inr (6, [.ref (b2 0), .ref (b4 0), .ref (b6 0), .ref a7, .null, .null, .null, .null, .null, .null, .int 0, .int 0]))] ++ rdW G b2 rI ++ rdW G b4 rI ++ rdW G b6 rI ++ [(a7, .inl (G.2.2.1 3, 8, .inr (.inr (.inr (.inr (va_up (va_up (va_up (va_up (fun _ => none) 0 (some (b9 0))) 1 (some (b11 0))) 2 (some (b13 0))) 3 (some (b15 0))))))))] ++ shW G b9 sI ++ shW G b11 sI ++ shW G b13 sI ++ shW G b15 sI) (wc := [(q16, .inr (5, [.null, .int 0, .int 0]))]) hw (fun sz => c_X5_init G P q16 sz) zc_X5_init ⟨rfl, tw_inst_yX5_init⟩ (by decide +kernel) (zroom_of rfl) rfl (Nat.le_of_ble_eq_true rfl) dX6_init_66 (fun w1 hw1 => ?_)
  obtain ⟨b17, b170, hw1⟩ := hw1
  rw [show w1 = shW G b17 sI from hw1]; clear hw1
  subst b170
  refine z_aastn (F := va_up (va_up (va_up (va_up (va_up (fun _ => none) 0 (some (b9 0))) 1 (some (b11 0))) 2 (some (b13 0))) 3 (some (b15 0))) 4 (some (b17 0))) (ws' := [(q, .inr (6, [.ref (b2 0), .ref (b4 0), .ref (b6 0), .ref a7, .null, .null, .null, .null, .null, .null, .int 0, .int 0]))] ++ rdW G b2 rI ++ rdW G b4 rI ++ rdW G b6 rI ++ [(a7, .inl (G.2.2.1 3, 8, .inr (.inr (.inr (.inr (va_up (va_up (va_up (va_up (va_up (fun _ => none) 0 (some (b9 0))) 1 (some (b11 0))) 2 (some (b13 0))) 3 (some (b15 0))) 4 (some (b17 0))))))))] ++ shW G b9 sI ++ shW G b11 sI ++ shW G b13 sI ++ shW G b15 sI ++ shW G b17 sI) 3 (fun _ => rfl) rfl 16 rfl (vin rfl) 25 rfl rfl rfl dX6_init_69 ?_
  refine z_iinc (v := 5) (lv' := [(1, .int 5), (0, .ref q)]) dX6_init_70 0 rfl (by decide) (Nat.le_of_ble_eq_true rfl) rfl ?_
  refine z_goto (tgt := 48) dX6_init_73 (by decide) ?_
  refine z_iload_n dX6_init_48 rfl ?_
  refine z_aload_n dX6_init_49 rfl ?_
  refine z_get (v := .ref a7) wr_P 0 rfl rfl uin_X6 3 (Nat.le_of_ble_eq_true rfl) tw_f_RX6_24 rfl rfl dX6_init_50 ?_
  refine z_alen (cA := G.2.2.1 0) (v := 8) 3 (fun _ => rfl) wr_P 16 rfl rfl dX6_init_53 ?_
  refine z_icmp_ge (tgt := 76) dX6_init_54 (by decide) (fun c => absurd c (by decide)) (fun _ => ?_)
  refine z_aload_n dX6_init_57 rfl ?_
  refine z_get (v := .ref a7) wr_P 0 rfl rfl uin_X6 3 (Nat.le_of_ble_eq_true rfl) tw_f_RX6_24 rfl rfl dX6_init_58 ?_
  refine z_iload_n dX6_init_61 rfl ?_
  refine z_new (ci := 5) (fs := [.null, .int 0, .int 0]) hw rfl uin_X5 tyX5 tyX5_ok tw_k_RX6_22 tw_n_RX5 tw_i_TollForHesitators_Shelf (fun j hj => by rcases (show j = 0 ∨ j = 1 ∨ j = 2 by omega) with rfl | rfl | rfl <;> rfl) (Nat.le_of_ble_eq_true rfl) (Nat.le_of_ble_eq_true rfl) dX6_init_62 (fun q18 => ?_)
  refine z_dup dX6_init_65 rfl ?_
  refine z_cinitN (ws := [(q, .inr (6, [.ref (b2 0), .ref (b4 0), .ref (b6 0), .ref a7, .null, .null, .null, .null, .null, .null, .int 0, .int 0]))] ++ rdW G b2 rI ++ rdW G b4 rI ++ rdW G b6 rI ++ [(a7, .inl (G.2.2.1 3, 8, .inr (.inr (.inr (.inr (va_up (va_up (va_up (va_up (va_up (fun _ => none) 0 (some (b9 0))) 1 (some (b11 0))) 2 (some (b13 0))) 3 (some (b15 0))) 4 (some (b17 0))))))))] ++ shW G b9 sI ++ shW G b11 sI ++ shW G b13 sI ++ shW G b15 sI ++ shW G b17 sI) (wc := [(q18, .inr (5, [.null, .int 0, .int 0]))]) hw (fun sz => c_X5_init G P q18 sz) zc_X5_init ⟨rfl, tw_inst_yX5_init⟩ (by decide +kernel) (zroom_of rfl) rfl (Nat.le_of_ble_eq_true rfl) dX6_init_66 (fun w1 hw1 => ?_)
  obtain ⟨b19, b190, hw1⟩ := hw1
  rw [show w1 = shW G b19 sI from hw1]; clear hw1
  subst b190
  refine z_aastn (F := va_up (va_up (va_up (va_up (va_up (va_up (fun _ => none) 0 (some (b9 0))) 1 (some (b11 0))) 2 (some (b13 0))) 3 (some (b15 0))) 4 (some (b17 0))) 5 (some (b19 0))) (ws' := [(q, .inr (6, [.ref (b2 0), .ref (b4 0), .ref (b6 0), .ref a7, .null, .null, .null, .null, .null, .null, .int 0, .int 0]))] ++ rdW G b2 rI ++ rdW G b4 rI ++ rdW G b6 rI ++ [(a7, .inl (G.2.2.1 3, 8, .inr (.inr (.inr (.inr (va_up (va_up (va_up (va_up (va_up (va_up (fun _ => none) 0 (some (b9 0))) 1 (some (b11 0))) 2 (some (b13 0))) 3 (some (b15 0))) 4 (some (b17 0))) 5 (some (b19 0))))))))] ++ shW G b9 sI ++ shW G b11 sI ++ shW G b13 sI ++ shW G b15 sI ++ shW G b17 sI ++ shW G b19 sI) 3 (fun _ => rfl) rfl 16 rfl (vin rfl) 27 rfl rfl rfl dX6_init_69 ?_
  refine z_iinc (v := 6) (lv' := [(1, .int 6), (0, .ref q)]) dX6_init_70 0 rfl (by decide) (Nat.le_of_ble_eq_true rfl) rfl ?_
  refine z_goto (tgt := 48) dX6_init_73 (by decide) ?_
  refine z_iload_n dX6_init_48 rfl ?_
  refine z_aload_n dX6_init_49 rfl ?_
  refine z_get (v := .ref a7) wr_P 0 rfl rfl uin_X6 3 (Nat.le_of_ble_eq_true rfl) tw_f_RX6_24 rfl rfl dX6_init_50 ?_
  refine z_alen (cA := G.2.2.1 0) (v := 8) 3 (fun _ => rfl) wr_P 16 rfl rfl dX6_init_53 ?_
  refine z_icmp_ge (tgt := 76) dX6_init_54 (by decide) (fun c => absurd c (by decide)) (fun _ => ?_)
  refine z_aload_n dX6_init_57 rfl ?_
  refine z_get (v := .ref a7) wr_P 0 rfl rfl uin_X6 3 (Nat.le_of_ble_eq_true rfl) tw_f_RX6_24 rfl rfl dX6_init_58 ?_
  refine z_iload_n dX6_init_61 rfl ?_
  refine z_new (ci := 5) (fs := [.null, .int 0, .int 0]) hw rfl uin_X5 tyX5 tyX5_ok tw_k_RX6_22 tw_n_RX5 tw_i_TollForHesitators_Shelf (fun j hj => by rcases (show j = 0 ∨ j = 1 ∨ j = 2 by omega) with rfl | rfl | rfl <;> rfl) (Nat.le_of_ble_eq_true rfl) (Nat.le_of_ble_eq_true rfl) dX6_init_62 (fun q20 => ?_)
  refine z_dup dX6_init_65 rfl ?_
  refine z_cinitN (ws := [(q, .inr (6, [.ref (b2 0), .ref (b4 0), .ref (b6 0), .ref a7, .null, .null, .null, .null, .null, .null, .int 0, .int 0]))] ++ rdW G b2 rI ++ rdW G b4 rI ++ rdW G b6 rI ++ [(a7, .inl (G.2.2.1 3, 8, .inr (.inr (.inr (.inr (va_up (va_up (va_up (va_up (va_up (va_up (fun _ => none) 0 (some (b9 0))) 1 (some (b11 0))) 2 (some (b13 0))) 3 (some (b15 0))) 4 (some (b17 0))) 5 (some (b19 0))))))))] ++ shW G b9 sI ++ shW G b11 sI ++ shW G b13 sI ++ shW G b15 sI ++ shW G b17 sI ++ shW G b19 sI) (wc := [(q20, .inr (5, [.null, .int 0, .int 0]))]) hw (fun sz => c_X5_init G P q20 sz) zc_X5_init ⟨rfl, tw_inst_yX5_init⟩ (by decide +kernel) (zroom_of rfl) rfl (Nat.le_of_ble_eq_true rfl) dX6_init_66 (fun w1 hw1 => ?_)
  obtain ⟨b21, b210, hw1⟩ := hw1
  rw [show w1 = shW G b21 sI from hw1]; clear hw1
  subst b210
  refine z_aastn (F := va_up (va_up (va_up (va_up (va_up (va_up (va_up (fun _ => none) 0 (some (b9 0))) 1 (some (b11 0))) 2 (some (b13 0))) 3 (some (b15 0))) 4 (some (b17 0))) 5 (some (b19 0))) 6 (some (b21 0))) (ws' := [(q, .inr (6, [.ref (b2 0), .ref (b4 0), .ref (b6 0), .ref a7, .null, .null, .null, .null, .null, .null, .int 0, .int 0]))] ++ rdW G b2 rI ++ rdW G b4 rI ++ rdW G b6 rI ++ [(a7, .inl (G.2.2.1 3, 8, .inr (.inr (.inr (.inr (va_up (va_up (va_up (va_up (va_up (va_up (va_up (fun _ => none) 0 (some (b9 0))) 1 (some (b11 0))) 2 (some (b13 0))) 3 (some (b15 0))) 4 (some (b17 0))) 5 (some (b19 0))) 6 (some (b21 0))))))))] ++ shW G b9 sI ++ shW G b11 sI ++ shW G b13 sI ++ shW G b15 sI ++ shW G b17 sI ++ shW G b19 sI ++ shW G b21 sI) 3 (fun _ => rfl) rfl 16 rfl (vin rfl) 29 rfl rfl rfl dX6_init_69 ?_
  refine z_iinc (v := 7) (lv' := [(1, .int 7), (0, .ref q)]) dX6_init_70 0 rfl (by decide) (Nat.le_of_ble_eq_true rfl) rfl ?_
  refine z_goto (tgt := 48) dX6_init_73 (by decide) ?_
  refine z_iload_n dX6_init_48 rfl ?_
  refine z_aload_n dX6_init_49 rfl ?_
  refine z_get (v := .ref a7) wr_P 0 rfl rfl uin_X6 3 (Nat.le_of_ble_eq_true rfl) tw_f_RX6_24 rfl rfl dX6_init_50 ?_
  refine z_alen (cA := G.2.2.1 0) (v := 8) 3 (fun _ => rfl) wr_P 16 rfl rfl dX6_init_53 ?_
  refine z_icmp_ge (tgt := 76) dX6_init_54 (by decide) (fun c => absurd c (by decide)) (fun _ => ?_)
  refine z_aload_n dX6_init_57 rfl ?_
  refine z_get (v := .ref a7) wr_P 0 rfl rfl uin_X6 3 (Nat.le_of_ble_eq_true rfl) tw_f_RX6_24 rfl rfl dX6_init_58 ?_
  refine z_iload_n dX6_init_61 rfl ?_
  refine z_new (ci := 5) (fs := [.null, .int 0, .int 0]) hw rfl uin_X5 tyX5 tyX5_ok tw_k_RX6_22 tw_n_RX5 tw_i_TollForHesitators_Shelf (fun j hj => by rcases (show j = 0 ∨ j = 1 ∨ j = 2 by omega) with rfl | rfl | rfl <;> rfl) (Nat.le_of_ble_eq_true rfl) (Nat.le_of_ble_eq_true rfl) dX6_init_62 (fun q22 => ?_)
  refine z_dup dX6_init_65 rfl ?_
  refine z_cinitN (ws := [(q, .inr (6, [.ref (b2 0), .ref (b4 0), .ref (b6 0), .ref a7, .null, .null, .null, .null, .null, .null, .int 0, .int 0]))] ++ rdW G b2 rI ++ rdW G b4 rI ++ rdW G b6 rI ++ [(a7, .inl (G.2.2.1 3, 8, .inr (.inr (.inr (.inr (va_up (va_up (va_up (va_up (va_up (va_up (va_up (fun _ => none) 0 (some (b9 0))) 1 (some (b11 0))) 2 (some (b13 0))) 3 (some (b15 0))) 4 (some (b17 0))) 5 (some (b19 0))) 6 (some (b21 0))))))))] ++ shW G b9 sI ++ shW G b11 sI ++ shW G b13 sI ++ shW G b15 sI ++ shW G b17 sI ++ shW G b19 sI ++ shW G b21 sI) (wc := [(q22, .inr (5, [.null, .int 0, .int 0]))]) hw (fun sz => c_X5_init G P q22 sz) zc_X5_init ⟨rfl, tw_inst_yX5_init⟩ (by decide +kernel) (zroom_of rfl) rfl (Nat.le_of_ble_eq_true rfl) dX6_init_66 (fun w1 hw1 => ?_)
  obtain ⟨b23, b230, hw1⟩ := hw1
  rw [show w1 = shW G b23 sI from hw1]; clear hw1
  subst b230
  refine z_aastn (F := va_up (va_up (va_up (va_up (va_up (va_up (va_up (va_up (fun _ => none) 0 (some (b9 0))) 1 (some (b11 0))) 2 (some (b13 0))) 3 (some (b15 0))) 4 (some (b17 0))) 5 (some (b19 0))) 6 (some (b21 0))) 7 (some (b23 0))) (ws' := [(q, .inr (6, [.ref (b2 0), .ref (b4 0), .ref (b6 0), .ref a7, .null, .null, .null, .null, .null, .null, .int 0, .int 0]))] ++ rdW G b2 rI ++ rdW G b4 rI ++ rdW G b6 rI ++ [(a7, .inl (G.2.2.1 3, 8, .inr (.inr (.inr (.inr (va_up (va_up (va_up (va_up (va_up (va_up (va_up (va_up (fun _ => none) 0 (some (b9 0))) 1 (some (b11 0))) 2 (some (b13 0))) 3 (some (b15 0))) 4 (some (b17 0))) 5 (some (b19 0))) 6 (some (b21 0))) 7 (some (b23 0))))))))] ++ shW G b9 sI ++ shW G b11 sI ++ shW G b13 sI ++ shW G b15 sI ++ shW G b17 sI ++ shW G b19 sI ++ shW G b21 sI ++ shW G b23 sI) 3 (fun _ => rfl) rfl 16 rfl (vin rfl) 31 rfl rfl rfl dX6_init_69 ?_
  refine z_iinc (v := 8) (lv' := [(1, .int 8), (0, .ref q)]) dX6_init_70 0 rfl (by decide) (Nat.le_of_ble_eq_true rfl) rfl ?_
  refine z_goto (tgt := 48) dX6_init_73 (by decide) ?_
  refine z_iload_n dX6_init_48 rfl ?_
  refine z_aload_n dX6_init_49 rfl ?_
  refine z_get (v := .ref a7) wr_P 0 rfl rfl uin_X6 3 (Nat.le_of_ble_eq_true rfl) tw_f_RX6_24 rfl rfl dX6_init_50 ?_
  refine z_alen (cA := G.2.2.1 0) (v := 8) 3 (fun _ => rfl) wr_P 16 rfl rfl dX6_init_53 ?_
  refine z_icmp_ge (tgt := 76) dX6_init_54 (by decide) (fun _ => ?_) (fun c => absurd (by decide) c)
  refine z_aload_n dX6_init_76 rfl ?_
  refine z_new (ci := 3) (fs := [.null, .int 0, .int 0, .null, .int 0, .int 0, .int 0]) hw rfl uin_X3 tyX3 tyX3_ok tw_k_RX6_29 tw_n_RX3 tw_i_TollForHesitators_Reader (fun j hj => by rcases (show j = 0 ∨ j = 1 ∨ j = 2 ∨ j = 3 ∨ j = 4 ∨ j = 5 ∨ j = 6 by omega) with rfl | rfl | rfl | rfl | rfl | rfl | rfl <;> rfl) (Nat.le_of_ble_eq_true rfl) (Nat.le_of_ble_eq_true rfl) dX6_init_77 (fun q24 => ?_)
  refine z_dup dX6_init_80 rfl ?_
  refine z_cinitN (ws := [(q, .inr (6, [.ref (b2 0), .ref (b4 0), .ref (b6 0), .ref a7, .null, .null, .null, .null, .null, .null, .int 0, .int 0]))] ++ rdW G b2 rI ++ rdW G b4 rI ++ rdW G b6 rI ++ [(a7, .inl (G.2.2.1 3, 8, .inr (.inr (.inr (.inr (va_up (va_up (va_up (va_up (va_up (va_up (va_up (va_up (fun _ => none) 0 (some (b9 0))) 1 (some (b11 0))) 2 (some (b13 0))) 3 (some (b15 0))) 4 (some (b17 0))) 5 (some (b19 0))) 6 (some (b21 0))) 7 (some (b23 0))))))))] ++ shW G b9 sI ++ shW G b11 sI ++ shW G b13 sI ++ shW G b15 sI ++ shW G b17 sI ++ shW G b19 sI ++ shW G b21 sI ++ shW G b23 sI) (wc := [(q24, .inr (3, [.null, .int 0, .int 0, .null, .int 0, .int 0, .int 0]))]) hw (fun sz => c_X3_init G P q24 sz) zc_X3_init ⟨rfl, tw_inst_yX3_init⟩ (by decide +kernel) (zroom_of rfl) rfl (Nat.le_of_ble_eq_true rfl) dX6_init_81 (fun w1 hw1 => ?_)
  obtain ⟨b25, b25q, b250, hw1⟩ := hw1
  rw [show w1 = re2W G b25 b25q eI from hw1]; clear hw1
  subst b250
  refine z_putF (fs := [.ref (b2 0), .ref (b4 0), .ref (b6 0), .ref a7, .null, .null, .null, .null, .null, .null, .int 0, .int 0]) (v := .ref (b25 0)) (ws' := [(q, .inr (6, [.ref (b2 0), .ref (b4 0), .ref (b6 0), .ref a7, .ref (b25 0), .null, .null, .null, .null, .null, .int 0, .int 0]))] ++ rdW G b2 rI ++ rdW G b4 rI ++ rdW G b6 rI ++ [(a7, .inl (G.2.2.1 3, 8, .inr (.inr (.inr (.inr (va_up (va_up (va_up (va_up (va_up (va_up (va_up (va_up (fun _ => none) 0 (some (b9 0))) 1 (some (b11 0))) 2 (some (b13 0))) 3 (some (b15 0))) 4 (some (b17 0))) 5 (some (b19 0))) 6 (some (b21 0))) 7 (some (b23 0))))))))] ++ shW G b9 sI ++ shW G b11 sI ++ shW G b13 sI ++ shW G b15 sI ++ shW G b17 sI ++ shW G b19 sI ++ shW G b21 sI ++ shW G b23 sI ++ re2W G b25 b25q eI) hN 0 rfl rfl uin_X6 tyX6 tyX6_ok nmX6 4 (Nat.le_of_ble_eq_true rfl) tw_f_RX6_32 rfl rfl rfl (ty := (.object RX3)) rfl rfl rfl (Nat.le_of_ble_eq_true rfl) rfl dX6_init_84 ?_
  refine z_aload_n dX6_init_87 rfl ?_
  refine z_new (ci := 2) (fs := [.null, .null, .null, .int 0, .int 0, .int 0, .int 0, .int 0]) hw rfl uin_X2 tyX2 tyX2_ok tw_k_RX6_36 tw_n_RX2 tw_i_TollForHesitators_Order (fun j hj => by rcases (show j = 0 ∨ j = 1 ∨ j = 2 ∨ j = 3 ∨ j = 4 ∨ j = 5 ∨ j = 6 ∨ j = 7 by omega) with rfl | rfl | rfl | rfl | rfl | rfl | rfl | rfl <;> rfl) (Nat.le_of_ble_eq_true rfl) (Nat.le_of_ble_eq_true rfl) dX6_init_88 (fun q26 => ?_)
  refine z_dup dX6_init_91 rfl ?_
  refine z_aload_n dX6_init_92 rfl ?_
  refine z_get (v := .ref (b2 0)) wr_P 0 rfl rfl uin_X6 0 (Nat.le_of_ble_eq_true rfl) tw_f_RX6_10 rfl rfl dX6_init_93 ?_
  refine z_cinit (ws := [(q, .inr (6, [.ref (b2 0), .ref (b4 0), .ref (b6 0), .ref a7, .ref (b25 0), .null, .null, .null, .null, .null, .int 0, .int 0]))] ++ rdW G b2 rI ++ rdW G b4 rI ++ rdW G b6 rI ++ [(a7, .inl (G.2.2.1 3, 8, .inr (.inr (.inr (.inr (va_up (va_up (va_up (va_up (va_up (va_up (va_up (va_up (fun _ => none) 0 (some (b9 0))) 1 (some (b11 0))) 2 (some (b13 0))) 3 (some (b15 0))) 4 (some (b17 0))) 5 (some (b19 0))) 6 (some (b21 0))) 7 (some (b23 0))))))))] ++ shW G b9 sI ++ shW G b11 sI ++ shW G b13 sI ++ shW G b15 sI ++ shW G b17 sI ++ shW G b19 sI ++ shW G b21 sI ++ shW G b23 sI ++ re2W G b25 b25q eI) (wc := [(q26, .inr (2, [.null, .null, .null, .int 0, .int 0, .int 0, .int 0, .int 0]))]) hw (fun sz => c_X2_init G P q26 (b2 0) sz) zc_X2_init ⟨rfl, tw_inst_yX2_init⟩ tw_m_RX6_38 (zroom_of rfl) rfl (Nat.le_of_ble_eq_true rfl) dX6_init_96 (fun w1 hw1 => ?_)
  obtain ⟨b27, b270, hw1⟩ := hw1
  rw [show w1 = orW G b27 (fun _ => b2 0) oI from hw1]; clear hw1
  subst b270
  refine z_putF (fs := [.ref (b2 0), .ref (b4 0), .ref (b6 0), .ref a7, .ref (b25 0), .null, .null, .null, .null, .null, .int 0, .int 0]) (v := .ref (b27 0)) (ws' := [(q, .inr (6, [.ref (b2 0), .ref (b4 0), .ref (b6 0), .ref a7, .ref (b25 0), .ref (b27 0), .null, .null, .null, .null, .int 0, .int 0]))] ++ rdW G b2 rI ++ rdW G b4 rI ++ rdW G b6 rI ++ [(a7, .inl (G.2.2.1 3, 8, .inr (.inr (.inr (.inr (va_up (va_up (va_up (va_up (va_up (va_up (va_up (va_up (fun _ => none) 0 (some (b9 0))) 1 (some (b11 0))) 2 (some (b13 0))) 3 (some (b15 0))) 4 (some (b17 0))) 5 (some (b19 0))) 6 (some (b21 0))) 7 (some (b23 0))))))))] ++ shW G b9 sI ++ shW G b11 sI ++ shW G b13 sI ++ shW G b15 sI ++ shW G b17 sI ++ shW G b19 sI ++ shW G b21 sI ++ shW G b23 sI ++ re2W G b25 b25q eI ++ orW G b27 (fun _ => b2 0) oI) hN 0 rfl rfl uin_X6 tyX6 tyX6_ok nmX6 5 (Nat.le_of_ble_eq_true rfl) tw_f_RX6_41 rfl rfl rfl (ty := (.object RX2)) rfl rfl rfl (Nat.le_of_ble_eq_true rfl) rfl dX6_init_99 ?_
  refine z_aload_n dX6_init_102 rfl ?_
  refine z_new (ci := 2) (fs := [.null, .null, .null, .int 0, .int 0, .int 0, .int 0, .int 0]) hw rfl uin_X2 tyX2 tyX2_ok tw_k_RX6_36 tw_n_RX2 tw_i_TollForHesitators_Order (fun j hj => by rcases (show j = 0 ∨ j = 1 ∨ j = 2 ∨ j = 3 ∨ j = 4 ∨ j = 5 ∨ j = 6 ∨ j = 7 by omega) with rfl | rfl | rfl | rfl | rfl | rfl | rfl | rfl <;> rfl) (Nat.le_of_ble_eq_true rfl) (Nat.le_of_ble_eq_true rfl) dX6_init_103 (fun q28 => ?_)
  refine z_dup dX6_init_106 rfl ?_
  refine z_aload_n dX6_init_107 rfl ?_
  refine z_get (v := .ref (b2 0)) wr_P 0 rfl rfl uin_X6 0 (Nat.le_of_ble_eq_true rfl) tw_f_RX6_10 rfl rfl dX6_init_108 ?_
  refine z_cinit (ws := [(q, .inr (6, [.ref (b2 0), .ref (b4 0), .ref (b6 0), .ref a7, .ref (b25 0), .ref (b27 0), .null, .null, .null, .null, .int 0, .int 0]))] ++ rdW G b2 rI ++ rdW G b4 rI ++ rdW G b6 rI ++ [(a7, .inl (G.2.2.1 3, 8, .inr (.inr (.inr (.inr (va_up (va_up (va_up (va_up (va_up (va_up (va_up (va_up (fun _ => none) 0 (some (b9 0))) 1 (some (b11 0))) 2 (some (b13 0))) 3 (some (b15 0))) 4 (some (b17 0))) 5 (some (b19 0))) 6 (some (b21 0))) 7 (some (b23 0))))))))] ++ shW G b9 sI ++ shW G b11 sI ++ shW G b13 sI ++ shW G b15 sI ++ shW G b17 sI ++ shW G b19 sI ++ shW G b21 sI ++ shW G b23 sI ++ re2W G b25 b25q eI ++ orW G b27 (fun _ => b2 0) oI) (wc := [(q28, .inr (2, [.null, .null, .null, .int 0, .int 0, .int 0, .int 0, .int 0]))]) hw (fun sz => c_X2_init G P q28 (b2 0) sz) zc_X2_init ⟨rfl, tw_inst_yX2_init⟩ tw_m_RX6_38 (zroom_of rfl) rfl (Nat.le_of_ble_eq_true rfl) dX6_init_111 (fun w1 hw1 => ?_)
  obtain ⟨b29, b290, hw1⟩ := hw1
  rw [show w1 = orW G b29 (fun _ => b2 0) oI from hw1]; clear hw1
  subst b290
  refine z_putF (fs := [.ref (b2 0), .ref (b4 0), .ref (b6 0), .ref a7, .ref (b25 0), .ref (b27 0), .null, .null, .null, .null, .int 0, .int 0]) (v := .ref (b29 0)) (ws' := [(q, .inr (6, [.ref (b2 0), .ref (b4 0), .ref (b6 0), .ref a7, .ref (b25 0), .ref (b27 0), .ref (b29 0), .null, .null, .null, .int 0, .int 0]))] ++ rdW G b2 rI ++ rdW G b4 rI ++ rdW G b6 rI ++ [(a7, .inl (G.2.2.1 3, 8, .inr (.inr (.inr (.inr (va_up (va_up (va_up (va_up (va_up (va_up (va_up (va_up (fun _ => none) 0 (some (b9 0))) 1 (some (b11 0))) 2 (some (b13 0))) 3 (some (b15 0))) 4 (some (b17 0))) 5 (some (b19 0))) 6 (some (b21 0))) 7 (some (b23 0))))))))] ++ shW G b9 sI ++ shW G b11 sI ++ shW G b13 sI ++ shW G b15 sI ++ shW G b17 sI ++ shW G b19 sI ++ shW G b21 sI ++ shW G b23 sI ++ re2W G b25 b25q eI ++ orW G b27 (fun _ => b2 0) oI ++ orW G b29 (fun _ => b2 0) oI) hN 0 rfl rfl uin_X6 tyX6 tyX6_ok nmX6 6 (Nat.le_of_ble_eq_true rfl) tw_f_RX6_45 rfl rfl rfl (ty := (.object RX2)) rfl rfl rfl (Nat.le_of_ble_eq_true rfl) rfl dX6_init_114 ?_
  refine z_aload_n dX6_init_117 rfl ?_
  refine z_new (ci := 2) (fs := [.null, .null, .null, .int 0, .int 0, .int 0, .int 0, .int 0]) hw rfl uin_X2 tyX2 tyX2_ok tw_k_RX6_36 tw_n_RX2 tw_i_TollForHesitators_Order (fun j hj => by rcases (show j = 0 ∨ j = 1 ∨ j = 2 ∨ j = 3 ∨ j = 4 ∨ j = 5 ∨ j = 6 ∨ j = 7 by omega) with rfl | rfl | rfl | rfl | rfl | rfl | rfl | rfl <;> rfl) (Nat.le_of_ble_eq_true rfl) (Nat.le_of_ble_eq_true rfl) dX6_init_118 (fun q30 => ?_)
  refine z_dup dX6_init_121 rfl ?_
  refine z_aload_n dX6_init_122 rfl ?_
  refine z_get (v := .ref (b2 0)) wr_P 0 rfl rfl uin_X6 0 (Nat.le_of_ble_eq_true rfl) tw_f_RX6_10 rfl rfl dX6_init_123 ?_
  refine z_cinit (ws := [(q, .inr (6, [.ref (b2 0), .ref (b4 0), .ref (b6 0), .ref a7, .ref (b25 0), .ref (b27 0), .ref (b29 0), .null, .null, .null, .int 0, .int 0]))] ++ rdW G b2 rI ++ rdW G b4 rI ++ rdW G b6 rI ++ [(a7, .inl (G.2.2.1 3, 8, .inr (.inr (.inr (.inr (va_up (va_up (va_up (va_up (va_up (va_up (va_up (va_up (fun _ => none) 0 (some (b9 0))) 1 (some (b11 0))) 2 (some (b13 0))) 3 (some (b15 0))) 4 (some (b17 0))) 5 (some (b19 0))) 6 (some (b21 0))) 7 (some (b23 0))))))))] ++ shW G b9 sI ++ shW G b11 sI ++ shW G b13 sI ++ shW G b15 sI ++ shW G b17 sI ++ shW G b19 sI ++ shW G b21 sI ++ shW G b23 sI ++ re2W G b25 b25q eI ++ orW G b27 (fun _ => b2 0) oI ++ orW G b29 (fun _ => b2 0) oI) (wc := [(q30, .inr (2, [.null, .null, .null, .int 0, .int 0, .int 0, .int 0, .int 0]))]) hw (fun sz => c_X2_init G P q30 (b2 0) sz) zc_X2_init ⟨rfl, tw_inst_yX2_init⟩ tw_m_RX6_38 (zroom_of rfl) rfl (Nat.le_of_ble_eq_true rfl) dX6_init_126 (fun w1 hw1 => ?_)
  obtain ⟨b31, b310, hw1⟩ := hw1
  rw [show w1 = orW G b31 (fun _ => b2 0) oI from hw1]; clear hw1
  subst b310
  refine z_putF (fs := [.ref (b2 0), .ref (b4 0), .ref (b6 0), .ref a7, .ref (b25 0), .ref (b27 0), .ref (b29 0), .null, .null, .null, .int 0, .int 0]) (v := .ref (b31 0)) (ws' := [(q, .inr (6, [.ref (b2 0), .ref (b4 0), .ref (b6 0), .ref a7, .ref (b25 0), .ref (b27 0), .ref (b29 0), .ref (b31 0), .null, .null, .int 0, .int 0]))] ++ rdW G b2 rI ++ rdW G b4 rI ++ rdW G b6 rI ++ [(a7, .inl (G.2.2.1 3, 8, .inr (.inr (.inr (.inr (va_up (va_up (va_up (va_up (va_up (va_up (va_up (va_up (fun _ => none) 0 (some (b9 0))) 1 (some (b11 0))) 2 (some (b13 0))) 3 (some (b15 0))) 4 (some (b17 0))) 5 (some (b19 0))) 6 (some (b21 0))) 7 (some (b23 0))))))))] ++ shW G b9 sI ++ shW G b11 sI ++ shW G b13 sI ++ shW G b15 sI ++ shW G b17 sI ++ shW G b19 sI ++ shW G b21 sI ++ shW G b23 sI ++ re2W G b25 b25q eI ++ orW G b27 (fun _ => b2 0) oI ++ orW G b29 (fun _ => b2 0) oI ++ orW G b31 (fun _ => b2 0) oI) hN 0 rfl rfl uin_X6 tyX6 tyX6_ok nmX6 7 (Nat.le_of_ble_eq_true rfl) tw_f_RX6_48 rfl rfl rfl (ty := (.object RX2)) rfl rfl rfl (Nat.le_of_ble_eq_true rfl) rfl dX6_init_129 ?_
  refine z_aload_n dX6_init_132 rfl ?_
  refine z_new (ci := 1) (fs := [.null, .int 0, .null]) hw rfl uin_X1 tyX1 tyX1_ok tw_k_RX6_51 tw_n_RX1 tw_i_TollForHesitators_Moves (fun j hj => by rcases (show j = 0 ∨ j = 1 ∨ j = 2 by omega) with rfl | rfl | rfl <;> rfl) (Nat.le_of_ble_eq_true rfl) (Nat.le_of_ble_eq_true rfl) dX6_init_133 (fun q32 => ?_)
  refine z_dup dX6_init_136 rfl ?_
  refine z_cinitN (ws := [(q, .inr (6, [.ref (b2 0), .ref (b4 0), .ref (b6 0), .ref a7, .ref (b25 0), .ref (b27 0), .ref (b29 0), .ref (b31 0), .null, .null, .int 0, .int 0]))] ++ rdW G b2 rI ++ rdW G b4 rI ++ rdW G b6 rI ++ [(a7, .inl (G.2.2.1 3, 8, .inr (.inr (.inr (.inr (va_up (va_up (va_up (va_up (va_up (va_up (va_up (va_up (fun _ => none) 0 (some (b9 0))) 1 (some (b11 0))) 2 (some (b13 0))) 3 (some (b15 0))) 4 (some (b17 0))) 5 (some (b19 0))) 6 (some (b21 0))) 7 (some (b23 0))))))))] ++ shW G b9 sI ++ shW G b11 sI ++ shW G b13 sI ++ shW G b15 sI ++ shW G b17 sI ++ shW G b19 sI ++ shW G b21 sI ++ shW G b23 sI ++ re2W G b25 b25q eI ++ orW G b27 (fun _ => b2 0) oI ++ orW G b29 (fun _ => b2 0) oI ++ orW G b31 (fun _ => b2 0) oI) (wc := [(q32, .inr (1, [.null, .int 0, .null]))]) hw (fun sz => c_X1_init G P q32 sz) zc_X1_init ⟨rfl, tw_inst_yX1_init⟩ (by decide +kernel) (zroom_of rfl) rfl (Nat.le_of_ble_eq_true rfl) dX6_init_137 (fun w1 hw1 => ?_)
  obtain ⟨b33, b330, hw1⟩ := hw1
  rw [show w1 = mvW G b33 vI from hw1]; clear hw1
  subst b330
  refine z_putF (fs := [.ref (b2 0), .ref (b4 0), .ref (b6 0), .ref a7, .ref (b25 0), .ref (b27 0), .ref (b29 0), .ref (b31 0), .null, .null, .int 0, .int 0]) (v := .ref (b33 0)) (ws' := [(q, .inr (6, [.ref (b2 0), .ref (b4 0), .ref (b6 0), .ref a7, .ref (b25 0), .ref (b27 0), .ref (b29 0), .ref (b31 0), .ref (b33 0), .null, .int 0, .int 0]))] ++ rdW G b2 rI ++ rdW G b4 rI ++ rdW G b6 rI ++ [(a7, .inl (G.2.2.1 3, 8, .inr (.inr (.inr (.inr (va_up (va_up (va_up (va_up (va_up (va_up (va_up (va_up (fun _ => none) 0 (some (b9 0))) 1 (some (b11 0))) 2 (some (b13 0))) 3 (some (b15 0))) 4 (some (b17 0))) 5 (some (b19 0))) 6 (some (b21 0))) 7 (some (b23 0))))))))] ++ shW G b9 sI ++ shW G b11 sI ++ shW G b13 sI ++ shW G b15 sI ++ shW G b17 sI ++ shW G b19 sI ++ shW G b21 sI ++ shW G b23 sI ++ re2W G b25 b25q eI ++ orW G b27 (fun _ => b2 0) oI ++ orW G b29 (fun _ => b2 0) oI ++ orW G b31 (fun _ => b2 0) oI ++ mvW G b33 vI) hN 0 rfl rfl uin_X6 tyX6 tyX6_ok nmX6 8 (Nat.le_of_ble_eq_true rfl) tw_f_RX6_54 rfl rfl rfl (ty := (.object RX1)) rfl rfl rfl (Nat.le_of_ble_eq_true rfl) rfl dX6_init_140 ?_
  refine z_aload_n dX6_init_143 rfl ?_
  refine z_bipush (v := 8) dX6_init_144 rfl ?_
  refine z_newi (N := 8) hw tw_o_84 (by decide) (by decide) (by decide) (Nat.le_of_ble_eq_true rfl) (Nat.le_of_ble_eq_true rfl) dX6_init_146 (fun a34 => ?_)
  refine z_putF (fs := [.ref (b2 0), .ref (b4 0), .ref (b6 0), .ref a7, .ref (b25 0), .ref (b27 0), .ref (b29 0), .ref (b31 0), .ref (b33 0), .null, .int 0, .int 0]) (v := .ref a34) (ws' := [(q, .inr (6, [.ref (b2 0), .ref (b4 0), .ref (b6 0), .ref a7, .ref (b25 0), .ref (b27 0), .ref (b29 0), .ref (b31 0), .ref (b33 0), .ref a34, .int 0, .int 0]))] ++ rdW G b2 rI ++ rdW G b4 rI ++ rdW G b6 rI ++ [(a7, .inl (G.2.2.1 3, 8, .inr (.inr (.inr (.inr (va_up (va_up (va_up (va_up (va_up (va_up (va_up (va_up (fun _ => none) 0 (some (b9 0))) 1 (some (b11 0))) 2 (some (b13 0))) 3 (some (b15 0))) 4 (some (b17 0))) 5 (some (b19 0))) 6 (some (b21 0))) 7 (some (b23 0))))))))] ++ shW G b9 sI ++ shW G b11 sI ++ shW G b13 sI ++ shW G b15 sI ++ shW G b17 sI ++ shW G b19 sI ++ shW G b21 sI ++ shW G b23 sI ++ re2W G b25 b25q eI ++ orW G b27 (fun _ => b2 0) oI ++ orW G b29 (fun _ => b2 0) oI ++ orW G b31 (fun _ => b2 0) oI ++ mvW G b33 vI ++ [(a34, .inl (G.2.2.1 0, 8, .inl (fun _ => 0)))]) hN 0 rfl rfl uin_X6 tyX6 tyX6_ok nmX6 9 (Nat.le_of_ble_eq_true rfl) tw_f_RX6_58 rfl rfl rfl (ty := (.array .int)) rfl rfl rfl (Nat.le_of_ble_eq_true rfl) rfl dX6_init_148 ?_
  refine z_aload_n dX6_init_151 rfl ?_
  refine z_iconst (v := (-1)) dX6_init_152 rfl ?_
  refine z_put (fs := [.ref (b2 0), .ref (b4 0), .ref (b6 0), .ref a7, .ref (b25 0), .ref (b27 0), .ref (b29 0), .ref (b31 0), .ref (b33 0), .ref a34, .int 0, .int 0]) (v := .int (-1)) (ws' := [(q, .inr (6, [.ref (b2 0), .ref (b4 0), .ref (b6 0), .ref a7, .ref (b25 0), .ref (b27 0), .ref (b29 0), .ref (b31 0), .ref (b33 0), .ref a34, .int (-1), .int 0]))] ++ rdW G b2 rI ++ rdW G b4 rI ++ rdW G b6 rI ++ [(a7, .inl (G.2.2.1 3, 8, .inr (.inr (.inr (.inr (va_up (va_up (va_up (va_up (va_up (va_up (va_up (va_up (fun _ => none) 0 (some (b9 0))) 1 (some (b11 0))) 2 (some (b13 0))) 3 (some (b15 0))) 4 (some (b17 0))) 5 (some (b19 0))) 6 (some (b21 0))) 7 (some (b23 0))))))))] ++ shW G b9 sI ++ shW G b11 sI ++ shW G b13 sI ++ shW G b15 sI ++ shW G b17 sI ++ shW G b19 sI ++ shW G b21 sI ++ shW G b23 sI ++ re2W G b25 b25q eI ++ orW G b27 (fun _ => b2 0) oI ++ orW G b29 (fun _ => b2 0) oI ++ orW G b31 (fun _ => b2 0) oI ++ mvW G b33 vI ++ [(a34, .inl (G.2.2.1 0, 8, .inl (fun _ => 0)))]) 0 rfl rfl uin_X6 tyX6 tyX6_ok nmX6 10 (Nat.le_of_ble_eq_true rfl) tw_f_RX6_62 rfl rfl (ty := .int) rfl rfl rfl (Nat.le_of_ble_eq_true rfl) rfl dX6_init_153 ?_
  refine z_eqcell 16 3 (f := va_up (va_up (va_up (va_up (va_up (va_up (va_up (va_up (fun _ => none) 0 (some (b9 0))) 1 (some (b11 0))) 2 (some (b13 0))) 3 (some (b15 0))) 4 (some (b17 0))) 5 (some (b19 0))) 6 (some (b21 0))) 7 (some (b23 0))) (F := fun j => some (sh (ad [q, a7, a34, 0, 0, 0, 0, 0, 0, 0, b2 0, b2 1, b2 2, b2 3, b2 4, b4 0, b4 1, b4 2, b4 3, b4 4, b6 0, b6 1, b6 2, b6 3, b6 4, 0, 0, 0, 0, 0, b9 0, b9 1, b11 0, b11 1, b13 0, b13 1, b15 0, b15 1, b17 0, b17 1, b19 0, b19 1, b21 0, b21 1, b23 0, b23 1, 0, 0, 0, 0, b25 0, b25 1, 0, 0, 0, 0, 0, 0, 0, 0, b27 0, b27 1, b27 2, b29 0, b29 1, b29 2, b31 0, b31 1, b31 2, 0, b33 0, b33 1, 0, 0, 0]) (30 + 2 * j) 0)) rfl (fun j hj => by rcases (show j = 0 ∨ j = 1 ∨ j = 2 ∨ j = 3 ∨ j = 4 ∨ j = 5 ∨ j = 6 ∨ j = 7 by omega) with rfl | rfl | rfl | rfl | rfl | rfl | rfl | rfl <;> rfl) rfl ?_
  refine z_arr (ws' := maW G (ad [q, a7, a34, 0, 0, 0, 0, 0, 0, 0, b2 0, b2 1, b2 2, b2 3, b2 4, b4 0, b4 1, b4 2, b4 3, b4 4, b6 0, b6 1, b6 2, b6 3, b6 4, 0, 0, 0, 0, 0, b9 0, b9 1, b11 0, b11 1, b13 0, b13 1, b15 0, b15 1, b17 0, b17 1, b19 0, b19 1, b21 0, b21 1, b23 0, b23 1, 0, 0, 0, 0, b25 0, b25 1, 0, 0, 0, 0, 0, 0, 0, 0, b27 0, b27 1, b27 2, b29 0, b29 1, b29 2, b31 0, b31 1, b31 2, 0, b33 0, b33 1, 0, 0, 0]) nI0 ++ rdW G (sh (ad [q, a7, a34, 0, 0, 0, 0, 0, 0, 0, b2 0, b2 1, b2 2, b2 3, b2 4, b4 0, b4 1, b4 2, b4 3, b4 4, b6 0, b6 1, b6 2, b6 3, b6 4, 0, 0, 0, 0, 0, b9 0, b9 1, b11 0, b11 1, b13 0, b13 1, b15 0, b15 1, b17 0, b17 1, b19 0, b19 1, b21 0, b21 1, b23 0, b23 1, 0, 0, 0, 0, b25 0, b25 1, 0, 0, 0, 0, 0, 0, 0, 0, b27 0, b27 1, b27 2, b29 0, b29 1, b29 2, b31 0, b31 1, b31 2, 0, b33 0, b33 1, 0, 0, 0]) 10) rI ++ rdW G (sh (ad [q, a7, a34, 0, 0, 0, 0, 0, 0, 0, b2 0, b2 1, b2 2, b2 3, b2 4, b4 0, b4 1, b4 2, b4 3, b4 4, b6 0, b6 1, b6 2, b6 3, b6 4, 0, 0, 0, 0, 0, b9 0, b9 1, b11 0, b11 1, b13 0, b13 1, b15 0, b15 1, b17 0, b17 1, b19 0, b19 1, b21 0, b21 1, b23 0, b23 1, 0, 0, 0, 0, b25 0, b25 1, 0, 0, 0, 0, 0, 0, 0, 0, b27 0, b27 1, b27 2, b29 0, b29 1, b29 2, b31 0, b31 1, b31 2, 0, b33 0, b33 1, 0, 0, 0]) 15) rI ++ rdW G (sh (ad [q, a7, a34, 0, 0, 0, 0, 0, 0, 0, b2 0, b2 1, b2 2, b2 3, b2 4, b4 0, b4 1, b4 2, b4 3, b4 4, b6 0, b6 1, b6 2, b6 3, b6 4, 0, 0, 0, 0, 0, b9 0, b9 1, b11 0, b11 1, b13 0, b13 1, b15 0, b15 1, b17 0, b17 1, b19 0, b19 1, b21 0, b21 1, b23 0, b23 1, 0, 0, 0, 0, b25 0, b25 1, 0, 0, 0, 0, 0, 0, 0, 0, b27 0, b27 1, b27 2, b29 0, b29 1, b29 2, b31 0, b31 1, b31 2, 0, b33 0, b33 1, 0, 0, 0]) 20) rI ++ re2W G (sh (ad [q, a7, a34, 0, 0, 0, 0, 0, 0, 0, b2 0, b2 1, b2 2, b2 3, b2 4, b4 0, b4 1, b4 2, b4 3, b4 4, b6 0, b6 1, b6 2, b6 3, b6 4, 0, 0, 0, 0, 0, b9 0, b9 1, b11 0, b11 1, b13 0, b13 1, b15 0, b15 1, b17 0, b17 1, b19 0, b19 1, b21 0, b21 1, b23 0, b23 1, 0, 0, 0, 0, b25 0, b25 1, 0, 0, 0, 0, 0, 0, 0, 0, b27 0, b27 1, b27 2, b29 0, b29 1, b29 2, b31 0, b31 1, b31 2, 0, b33 0, b33 1, 0, 0, 0]) 50) b25q eI ++ orW G (sh (ad [q, a7, a34, 0, 0, 0, 0, 0, 0, 0, b2 0, b2 1, b2 2, b2 3, b2 4, b4 0, b4 1, b4 2, b4 3, b4 4, b6 0, b6 1, b6 2, b6 3, b6 4, 0, 0, 0, 0, 0, b9 0, b9 1, b11 0, b11 1, b13 0, b13 1, b15 0, b15 1, b17 0, b17 1, b19 0, b19 1, b21 0, b21 1, b23 0, b23 1, 0, 0, 0, 0, b25 0, b25 1, 0, 0, 0, 0, 0, 0, 0, 0, b27 0, b27 1, b27 2, b29 0, b29 1, b29 2, b31 0, b31 1, b31 2, 0, b33 0, b33 1, 0, 0, 0]) 60) (sh (ad [q, a7, a34, 0, 0, 0, 0, 0, 0, 0, b2 0, b2 1, b2 2, b2 3, b2 4, b4 0, b4 1, b4 2, b4 3, b4 4, b6 0, b6 1, b6 2, b6 3, b6 4, 0, 0, 0, 0, 0, b9 0, b9 1, b11 0, b11 1, b13 0, b13 1, b15 0, b15 1, b17 0, b17 1, b19 0, b19 1, b21 0, b21 1, b23 0, b23 1, 0, 0, 0, 0, b25 0, b25 1, 0, 0, 0, 0, 0, 0, 0, 0, b27 0, b27 1, b27 2, b29 0, b29 1, b29 2, b31 0, b31 1, b31 2, 0, b33 0, b33 1, 0, 0, 0]) 10) oI ++ orW G (sh (ad [q, a7, a34, 0, 0, 0, 0, 0, 0, 0, b2 0, b2 1, b2 2, b2 3, b2 4, b4 0, b4 1, b4 2, b4 3, b4 4, b6 0, b6 1, b6 2, b6 3, b6 4, 0, 0, 0, 0, 0, b9 0, b9 1, b11 0, b11 1, b13 0, b13 1, b15 0, b15 1, b17 0, b17 1, b19 0, b19 1, b21 0, b21 1, b23 0, b23 1, 0, 0, 0, 0, b25 0, b25 1, 0, 0, 0, 0, 0, 0, 0, 0, b27 0, b27 1, b27 2, b29 0, b29 1, b29 2, b31 0, b31 1, b31 2, 0, b33 0, b33 1, 0, 0, 0]) 63) (sh (ad [q, a7, a34, 0, 0, 0, 0, 0, 0, 0, b2 0, b2 1, b2 2, b2 3, b2 4, b4 0, b4 1, b4 2, b4 3, b4 4, b6 0, b6 1, b6 2, b6 3, b6 4, 0, 0, 0, 0, 0, b9 0, b9 1, b11 0, b11 1, b13 0, b13 1, b15 0, b15 1, b17 0, b17 1, b19 0, b19 1, b21 0, b21 1, b23 0, b23 1, 0, 0, 0, 0, b25 0, b25 1, 0, 0, 0, 0, 0, 0, 0, 0, b27 0, b27 1, b27 2, b29 0, b29 1, b29 2, b31 0, b31 1, b31 2, 0, b33 0, b33 1, 0, 0, 0]) 10) oI ++ orW G (sh (ad [q, a7, a34, 0, 0, 0, 0, 0, 0, 0, b2 0, b2 1, b2 2, b2 3, b2 4, b4 0, b4 1, b4 2, b4 3, b4 4, b6 0, b6 1, b6 2, b6 3, b6 4, 0, 0, 0, 0, 0, b9 0, b9 1, b11 0, b11 1, b13 0, b13 1, b15 0, b15 1, b17 0, b17 1, b19 0, b19 1, b21 0, b21 1, b23 0, b23 1, 0, 0, 0, 0, b25 0, b25 1, 0, 0, 0, 0, 0, 0, 0, 0, b27 0, b27 1, b27 2, b29 0, b29 1, b29 2, b31 0, b31 1, b31 2, 0, b33 0, b33 1, 0, 0, 0]) 66) (sh (ad [q, a7, a34, 0, 0, 0, 0, 0, 0, 0, b2 0, b2 1, b2 2, b2 3, b2 4, b4 0, b4 1, b4 2, b4 3, b4 4, b6 0, b6 1, b6 2, b6 3, b6 4, 0, 0, 0, 0, 0, b9 0, b9 1, b11 0, b11 1, b13 0, b13 1, b15 0, b15 1, b17 0, b17 1, b19 0, b19 1, b21 0, b21 1, b23 0, b23 1, 0, 0, 0, 0, b25 0, b25 1, 0, 0, 0, 0, 0, 0, 0, 0, b27 0, b27 1, b27 2, b29 0, b29 1, b29 2, b31 0, b31 1, b31 2, 0, b33 0, b33 1, 0, 0, 0]) 10) oI ++ mvW G (sh (ad [q, a7, a34, 0, 0, 0, 0, 0, 0, 0, b2 0, b2 1, b2 2, b2 3, b2 4, b4 0, b4 1, b4 2, b4 3, b4 4, b6 0, b6 1, b6 2, b6 3, b6 4, 0, 0, 0, 0, 0, b9 0, b9 1, b11 0, b11 1, b13 0, b13 1, b15 0, b15 1, b17 0, b17 1, b19 0, b19 1, b21 0, b21 1, b23 0, b23 1, 0, 0, 0, 0, b25 0, b25 1, 0, 0, 0, 0, 0, 0, 0, 0, b27 0, b27 1, b27 2, b29 0, b29 1, b29 2, b31 0, b31 1, b31 2, 0, b33 0, b33 1, 0, 0, 0]) 70) vI ++ faW G (ad [q, a7, a34, 0, 0, 0, 0, 0, 0, 0, b2 0, b2 1, b2 2, b2 3, b2 4, b4 0, b4 1, b4 2, b4 3, b4 4, b6 0, b6 1, b6 2, b6 3, b6 4, 0, 0, 0, 0, 0, b9 0, b9 1, b11 0, b11 1, b13 0, b13 1, b15 0, b15 1, b17 0, b17 1, b19 0, b19 1, b21 0, b21 1, b23 0, b23 1, 0, 0, 0, 0, b25 0, b25 1, 0, 0, 0, 0, 0, 0, 0, 0, b27 0, b27 1, b27 2, b29 0, b29 1, b29 2, b31 0, b31 1, b31 2, 0, b33 0, b33 1, 0, 0, 0]) (fun _ => sI)) [0, 16, 46, 1, 2, 3, 4, 5, 6, 7, 8, 9, 10, 11, 12, 13, 14, 15, 33, 34, 35, 36, 37, 38, 39, 40, 41, 42, 43, 44, 45, 17, 18, 19, 20, 21, 22, 23, 24, 25, 26, 27, 28, 29, 30, 31, 32] rfl rfl ?_
  exact z_vret_W hQ rfl rfl rfl ⟨(ad [q, a7, a34, 0, 0, 0, 0, 0, 0, 0, b2 0, b2 1, b2 2, b2 3, b2 4, b4 0, b4 1, b4 2, b4 3, b4 4, b6 0, b6 1, b6 2, b6 3, b6 4, 0, 0, 0, 0, 0, b9 0, b9 1, b11 0, b11 1, b13 0, b13 1, b15 0, b15 1, b17 0, b17 1, b19 0, b19 1, b21 0, b21 1, b23 0, b23 1, 0, 0, 0, 0, b25 0, b25 1, 0, 0, 0, 0, 0, 0, 0, 0, b27 0, b27 1, b27 2, b29 0, b29 1, b29 2, b31 0, b31 1, b31 2, 0, b33 0, b33 1, 0, 0, 0]), b25q, rfl, rfl⟩ dX6_init_156
def t_words : Nat → Int32 := fun j => ([99, 111, 109, 101, 114, 32, 0, 100, 111, 117, 98, 116, 32, 0, 119, 97, 121, 32, 0, 102, 111, 103, 32, 0, 116, 111, 108, 108, 32, 0, 112, 117, 115, 104, 32, 0] : List Int32).getD j 0
def t_numbers : Nat → Int32 := fun j => ([6, 2, 1, 1, 1, 1] : List Int32).getD j 0
def t_mosts : Nat → Int32 := fun j => ([6, 9, 30, 9, 9, 99] : List Int32).getD j 0
def mI : mT := (fun j => if j = 1 then 8 else if j = 3 then 5 else if j = 4 then 1 else if j = 6 then 1 else if j = 7 then -1 else 0, fun j => if j = 22 then fa_fill t_words (fun _ => 0) 36 else if j = 23 then fa_fill t_numbers (fun _ => 0) 6 else if j = 24 then fa_fill t_mosts (fun _ => 0) 6 else fun _ => 0, fun _ _ => 0)

theorem dX7_init_0 : decode cX7_init 0 = .ok (.aload_n 0, 1) := by decide +kernel
theorem dX7_init_1 : decode cX7_init 1 = .ok (.invokespecial 1, 3) := by decide +kernel
theorem dX7_init_4 : decode cX7_init 4 = .ok (.aload_n 0, 1) := by decide +kernel
theorem dX7_init_5 : decode cX7_init 5 = .ok (.bipush 8, 2) := by decide +kernel
theorem dX7_init_7 : decode cX7_init 7 = .ok (.putfield 7, 3) := by decide +kernel
theorem dX7_init_10 : decode cX7_init 10 = .ok (.aload_n 0, 1) := by decide +kernel
theorem dX7_init_11 : decode cX7_init 11 = .ok (.iconst 5, 1) := by decide +kernel
theorem dX7_init_12 : decode cX7_init 12 = .ok (.putfield 13, 3) := by decide +kernel
theorem dX7_init_15 : decode cX7_init 15 = .ok (.aload_n 0, 1) := by decide +kernel
theorem dX7_init_16 : decode cX7_init 16 = .ok (.iconst 1, 1) := by decide +kernel
theorem dX7_init_17 : decode cX7_init 17 = .ok (.putfield 16, 3) := by decide +kernel
theorem dX7_init_20 : decode cX7_init 20 = .ok (.aload_n 0, 1) := by decide +kernel
theorem dX7_init_21 : decode cX7_init 21 = .ok (.iconst 1, 1) := by decide +kernel
theorem dX7_init_22 : decode cX7_init 22 = .ok (.putfield 19, 3) := by decide +kernel
theorem dX7_init_25 : decode cX7_init 25 = .ok (.aload_n 0, 1) := by decide +kernel
theorem dX7_init_26 : decode cX7_init 26 = .ok (.iconst (-1), 1) := by decide +kernel
theorem dX7_init_27 : decode cX7_init 27 = .ok (.putfield 22, 3) := by decide +kernel
theorem dX7_init_30 : decode cX7_init 30 = .ok (.aload_n 0, 1) := by decide +kernel
theorem dX7_init_31 : decode cX7_init 31 = .ok (.bipush 8, 2) := by decide +kernel
theorem dX7_init_33 : decode cX7_init 33 = .ok (.newarray .int, 2) := by decide +kernel
theorem dX7_init_35 : decode cX7_init 35 = .ok (.putfield 25, 3) := by decide +kernel
theorem dX7_init_38 : decode cX7_init 38 = .ok (.aload_n 0, 1) := by decide +kernel
theorem dX7_init_39 : decode cX7_init 39 = .ok (.bipush 7, 2) := by decide +kernel
theorem dX7_init_41 : decode cX7_init 41 = .ok (.newarray .int, 2) := by decide +kernel
theorem dX7_init_43 : decode cX7_init 43 = .ok (.putfield 29, 3) := by decide +kernel
theorem dX7_init_46 : decode cX7_init 46 = .ok (.aload_n 0, 1) := by decide +kernel
theorem dX7_init_47 : decode cX7_init 47 = .ok (.bipush 7, 2) := by decide +kernel
theorem dX7_init_49 : decode cX7_init 49 = .ok (.newarray .int, 2) := by decide +kernel
theorem dX7_init_51 : decode cX7_init 51 = .ok (.putfield 32, 3) := by decide +kernel
theorem dX7_init_54 : decode cX7_init 54 = .ok (.aload_n 0, 1) := by decide +kernel
theorem dX7_init_55 : decode cX7_init 55 = .ok (.bipush 7, 2) := by decide +kernel
theorem dX7_init_57 : decode cX7_init 57 = .ok (.newarray .int, 2) := by decide +kernel
theorem dX7_init_59 : decode cX7_init 59 = .ok (.putfield 35, 3) := by decide +kernel
theorem dX7_init_62 : decode cX7_init 62 = .ok (.aload_n 0, 1) := by decide +kernel
theorem dX7_init_63 : decode cX7_init 63 = .ok (.bipush 7, 2) := by decide +kernel
theorem dX7_init_65 : decode cX7_init 65 = .ok (.newarray .int, 2) := by decide +kernel
theorem dX7_init_67 : decode cX7_init 67 = .ok (.putfield 38, 3) := by decide +kernel
theorem dX7_init_70 : decode cX7_init 70 = .ok (.aload_n 0, 1) := by decide +kernel
theorem dX7_init_71 : decode cX7_init 71 = .ok (.bipush 7, 2) := by decide +kernel
theorem dX7_init_73 : decode cX7_init 73 = .ok (.newarray .int, 2) := by decide +kernel
theorem dX7_init_75 : decode cX7_init 75 = .ok (.putfield 41, 3) := by decide +kernel
theorem dX7_init_78 : decode cX7_init 78 = .ok (.aload_n 0, 1) := by decide +kernel
theorem dX7_init_79 : decode cX7_init 79 = .ok (.bipush 7, 2) := by decide +kernel
theorem dX7_init_81 : decode cX7_init 81 = .ok (.newarray .int, 2) := by decide +kernel
theorem dX7_init_83 : decode cX7_init 83 = .ok (.putfield 44, 3) := by decide +kernel
theorem dX7_init_86 : decode cX7_init 86 = .ok (.aload_n 0, 1) := by decide +kernel
theorem dX7_init_87 : decode cX7_init 87 = .ok (.bipush 7, 2) := by decide +kernel
theorem dX7_init_89 : decode cX7_init 89 = .ok (.newarray .int, 2) := by decide +kernel
theorem dX7_init_91 : decode cX7_init 91 = .ok (.putfield 47, 3) := by decide +kernel
theorem dX7_init_94 : decode cX7_init 94 = .ok (.aload_n 0, 1) := by decide +kernel
theorem dX7_init_95 : decode cX7_init 95 = .ok (.bipush 8, 2) := by decide +kernel
theorem dX7_init_97 : decode cX7_init 97 = .ok (.newarray .int, 2) := by decide +kernel
theorem dX7_init_99 : decode cX7_init 99 = .ok (.putfield 50, 3) := by decide +kernel
theorem dX7_init_102 : decode cX7_init 102 = .ok (.aload_n 0, 1) := by decide +kernel
theorem dX7_init_103 : decode cX7_init 103 = .ok (.bipush 8, 2) := by decide +kernel
theorem dX7_init_105 : decode cX7_init 105 = .ok (.newarray .int, 2) := by decide +kernel
theorem dX7_init_107 : decode cX7_init 107 = .ok (.putfield 53, 3) := by decide +kernel
theorem dX7_init_110 : decode cX7_init 110 = .ok (.aload_n 0, 1) := by decide +kernel
theorem dX7_init_111 : decode cX7_init 111 = .ok (.bipush 8, 2) := by decide +kernel
theorem dX7_init_113 : decode cX7_init 113 = .ok (.newarray .int, 2) := by decide +kernel
theorem dX7_init_115 : decode cX7_init 115 = .ok (.putfield 56, 3) := by decide +kernel
theorem dX7_init_118 : decode cX7_init 118 = .ok (.aload_n 0, 1) := by decide +kernel
theorem dX7_init_119 : decode cX7_init 119 = .ok (.bipush 8, 2) := by decide +kernel
theorem dX7_init_121 : decode cX7_init 121 = .ok (.newarray .int, 2) := by decide +kernel
theorem dX7_init_123 : decode cX7_init 123 = .ok (.putfield 59, 3) := by decide +kernel
theorem dX7_init_126 : decode cX7_init 126 = .ok (.aload_n 0, 1) := by decide +kernel
theorem dX7_init_127 : decode cX7_init 127 = .ok (.sipush 1280, 3) := by decide +kernel
theorem dX7_init_130 : decode cX7_init 130 = .ok (.newarray .long, 2) := by decide +kernel
theorem dX7_init_132 : decode cX7_init 132 = .ok (.putfield 62, 3) := by decide +kernel
theorem dX7_init_135 : decode cX7_init 135 = .ok (.aload_n 0, 1) := by decide +kernel
theorem dX7_init_136 : decode cX7_init 136 = .ok (.sipush 160, 3) := by decide +kernel
theorem dX7_init_139 : decode cX7_init 139 = .ok (.newarray .long, 2) := by decide +kernel
theorem dX7_init_141 : decode cX7_init 141 = .ok (.putfield 66, 3) := by decide +kernel
theorem dX7_init_144 : decode cX7_init 144 = .ok (.aload_n 0, 1) := by decide +kernel
theorem dX7_init_145 : decode cX7_init 145 = .ok (.bipush 36, 2) := by decide +kernel
theorem dX7_init_147 : decode cX7_init 147 = .ok (.newarray .int, 2) := by decide +kernel
theorem dX7_init_149 : decode cX7_init 149 = .ok (.dup, 1) := by decide +kernel
theorem dX7_init_150 : decode cX7_init 150 = .ok (.iconst 0, 1) := by decide +kernel
theorem dX7_init_151 : decode cX7_init 151 = .ok (.bipush 99, 2) := by decide +kernel
theorem dX7_init_153 : decode cX7_init 153 = .ok (.iastore, 1) := by decide +kernel
theorem dX7_init_154 : decode cX7_init 154 = .ok (.dup, 1) := by decide +kernel
theorem dX7_init_155 : decode cX7_init 155 = .ok (.iconst 1, 1) := by decide +kernel
theorem dX7_init_156 : decode cX7_init 156 = .ok (.bipush 111, 2) := by decide +kernel
theorem dX7_init_158 : decode cX7_init 158 = .ok (.iastore, 1) := by decide +kernel
theorem dX7_init_159 : decode cX7_init 159 = .ok (.dup, 1) := by decide +kernel
theorem dX7_init_160 : decode cX7_init 160 = .ok (.iconst 2, 1) := by decide +kernel
theorem dX7_init_161 : decode cX7_init 161 = .ok (.bipush 109, 2) := by decide +kernel
theorem dX7_init_163 : decode cX7_init 163 = .ok (.iastore, 1) := by decide +kernel
theorem dX7_init_164 : decode cX7_init 164 = .ok (.dup, 1) := by decide +kernel
theorem dX7_init_165 : decode cX7_init 165 = .ok (.iconst 3, 1) := by decide +kernel
theorem dX7_init_166 : decode cX7_init 166 = .ok (.bipush 101, 2) := by decide +kernel
theorem dX7_init_168 : decode cX7_init 168 = .ok (.iastore, 1) := by decide +kernel
theorem dX7_init_169 : decode cX7_init 169 = .ok (.dup, 1) := by decide +kernel
theorem dX7_init_170 : decode cX7_init 170 = .ok (.iconst 4, 1) := by decide +kernel
theorem dX7_init_171 : decode cX7_init 171 = .ok (.bipush 114, 2) := by decide +kernel
theorem dX7_init_173 : decode cX7_init 173 = .ok (.iastore, 1) := by decide +kernel
theorem dX7_init_174 : decode cX7_init 174 = .ok (.dup, 1) := by decide +kernel
theorem dX7_init_175 : decode cX7_init 175 = .ok (.iconst 5, 1) := by decide +kernel
theorem dX7_init_176 : decode cX7_init 176 = .ok (.bipush 32, 2) := by decide +kernel
theorem dX7_init_178 : decode cX7_init 178 = .ok (.iastore, 1) := by decide +kernel
theorem dX7_init_179 : decode cX7_init 179 = .ok (.dup, 1) := by decide +kernel
theorem dX7_init_180 : decode cX7_init 180 = .ok (.bipush 6, 2) := by decide +kernel
theorem dX7_init_182 : decode cX7_init 182 = .ok (.iconst 0, 1) := by decide +kernel
theorem dX7_init_183 : decode cX7_init 183 = .ok (.iastore, 1) := by decide +kernel
theorem dX7_init_184 : decode cX7_init 184 = .ok (.dup, 1) := by decide +kernel
theorem dX7_init_185 : decode cX7_init 185 = .ok (.bipush 7, 2) := by decide +kernel
theorem dX7_init_187 : decode cX7_init 187 = .ok (.bipush 100, 2) := by decide +kernel
theorem dX7_init_189 : decode cX7_init 189 = .ok (.iastore, 1) := by decide +kernel
theorem dX7_init_190 : decode cX7_init 190 = .ok (.dup, 1) := by decide +kernel
theorem dX7_init_191 : decode cX7_init 191 = .ok (.bipush 8, 2) := by decide +kernel
theorem dX7_init_193 : decode cX7_init 193 = .ok (.bipush 111, 2) := by decide +kernel
theorem dX7_init_195 : decode cX7_init 195 = .ok (.iastore, 1) := by decide +kernel
theorem dX7_init_196 : decode cX7_init 196 = .ok (.dup, 1) := by decide +kernel
theorem dX7_init_197 : decode cX7_init 197 = .ok (.bipush 9, 2) := by decide +kernel
theorem dX7_init_199 : decode cX7_init 199 = .ok (.bipush 117, 2) := by decide +kernel
theorem dX7_init_201 : decode cX7_init 201 = .ok (.iastore, 1) := by decide +kernel
theorem dX7_init_202 : decode cX7_init 202 = .ok (.dup, 1) := by decide +kernel
theorem dX7_init_203 : decode cX7_init 203 = .ok (.bipush 10, 2) := by decide +kernel
theorem dX7_init_205 : decode cX7_init 205 = .ok (.bipush 98, 2) := by decide +kernel
theorem dX7_init_207 : decode cX7_init 207 = .ok (.iastore, 1) := by decide +kernel
theorem dX7_init_208 : decode cX7_init 208 = .ok (.dup, 1) := by decide +kernel
theorem dX7_init_209 : decode cX7_init 209 = .ok (.bipush 11, 2) := by decide +kernel
theorem dX7_init_211 : decode cX7_init 211 = .ok (.bipush 116, 2) := by decide +kernel
theorem dX7_init_213 : decode cX7_init 213 = .ok (.iastore, 1) := by decide +kernel
theorem dX7_init_214 : decode cX7_init 214 = .ok (.dup, 1) := by decide +kernel
theorem dX7_init_215 : decode cX7_init 215 = .ok (.bipush 12, 2) := by decide +kernel
theorem dX7_init_217 : decode cX7_init 217 = .ok (.bipush 32, 2) := by decide +kernel
theorem dX7_init_219 : decode cX7_init 219 = .ok (.iastore, 1) := by decide +kernel
theorem dX7_init_220 : decode cX7_init 220 = .ok (.dup, 1) := by decide +kernel
theorem dX7_init_221 : decode cX7_init 221 = .ok (.bipush 13, 2) := by decide +kernel
theorem dX7_init_223 : decode cX7_init 223 = .ok (.iconst 0, 1) := by decide +kernel
theorem dX7_init_224 : decode cX7_init 224 = .ok (.iastore, 1) := by decide +kernel
theorem dX7_init_225 : decode cX7_init 225 = .ok (.dup, 1) := by decide +kernel
theorem dX7_init_226 : decode cX7_init 226 = .ok (.bipush 14, 2) := by decide +kernel
theorem dX7_init_228 : decode cX7_init 228 = .ok (.bipush 119, 2) := by decide +kernel
theorem dX7_init_230 : decode cX7_init 230 = .ok (.iastore, 1) := by decide +kernel
theorem dX7_init_231 : decode cX7_init 231 = .ok (.dup, 1) := by decide +kernel
theorem dX7_init_232 : decode cX7_init 232 = .ok (.bipush 15, 2) := by decide +kernel
theorem dX7_init_234 : decode cX7_init 234 = .ok (.bipush 97, 2) := by decide +kernel
theorem dX7_init_236 : decode cX7_init 236 = .ok (.iastore, 1) := by decide +kernel
theorem dX7_init_237 : decode cX7_init 237 = .ok (.dup, 1) := by decide +kernel
theorem dX7_init_238 : decode cX7_init 238 = .ok (.bipush 16, 2) := by decide +kernel
theorem dX7_init_240 : decode cX7_init 240 = .ok (.bipush 121, 2) := by decide +kernel
theorem dX7_init_242 : decode cX7_init 242 = .ok (.iastore, 1) := by decide +kernel
theorem dX7_init_243 : decode cX7_init 243 = .ok (.dup, 1) := by decide +kernel
theorem dX7_init_244 : decode cX7_init 244 = .ok (.bipush 17, 2) := by decide +kernel
theorem dX7_init_246 : decode cX7_init 246 = .ok (.bipush 32, 2) := by decide +kernel
theorem dX7_init_248 : decode cX7_init 248 = .ok (.iastore, 1) := by decide +kernel
theorem dX7_init_249 : decode cX7_init 249 = .ok (.dup, 1) := by decide +kernel
theorem dX7_init_250 : decode cX7_init 250 = .ok (.bipush 18, 2) := by decide +kernel
theorem dX7_init_252 : decode cX7_init 252 = .ok (.iconst 0, 1) := by decide +kernel
theorem dX7_init_253 : decode cX7_init 253 = .ok (.iastore, 1) := by decide +kernel
theorem dX7_init_254 : decode cX7_init 254 = .ok (.dup, 1) := by decide +kernel
theorem dX7_init_255 : decode cX7_init 255 = .ok (.bipush 19, 2) := by decide +kernel
theorem dX7_init_257 : decode cX7_init 257 = .ok (.bipush 102, 2) := by decide +kernel
theorem dX7_init_259 : decode cX7_init 259 = .ok (.iastore, 1) := by decide +kernel
theorem dX7_init_260 : decode cX7_init 260 = .ok (.dup, 1) := by decide +kernel
theorem dX7_init_261 : decode cX7_init 261 = .ok (.bipush 20, 2) := by decide +kernel
theorem dX7_init_263 : decode cX7_init 263 = .ok (.bipush 111, 2) := by decide +kernel
theorem dX7_init_265 : decode cX7_init 265 = .ok (.iastore, 1) := by decide +kernel
theorem dX7_init_266 : decode cX7_init 266 = .ok (.dup, 1) := by decide +kernel
theorem dX7_init_267 : decode cX7_init 267 = .ok (.bipush 21, 2) := by decide +kernel
theorem dX7_init_269 : decode cX7_init 269 = .ok (.bipush 103, 2) := by decide +kernel
theorem dX7_init_271 : decode cX7_init 271 = .ok (.iastore, 1) := by decide +kernel
theorem dX7_init_272 : decode cX7_init 272 = .ok (.dup, 1) := by decide +kernel
theorem dX7_init_273 : decode cX7_init 273 = .ok (.bipush 22, 2) := by decide +kernel
theorem dX7_init_275 : decode cX7_init 275 = .ok (.bipush 32, 2) := by decide +kernel
theorem dX7_init_277 : decode cX7_init 277 = .ok (.iastore, 1) := by decide +kernel
theorem dX7_init_278 : decode cX7_init 278 = .ok (.dup, 1) := by decide +kernel
theorem dX7_init_279 : decode cX7_init 279 = .ok (.bipush 23, 2) := by decide +kernel
theorem dX7_init_281 : decode cX7_init 281 = .ok (.iconst 0, 1) := by decide +kernel
theorem dX7_init_282 : decode cX7_init 282 = .ok (.iastore, 1) := by decide +kernel
theorem dX7_init_283 : decode cX7_init 283 = .ok (.dup, 1) := by decide +kernel
theorem dX7_init_284 : decode cX7_init 284 = .ok (.bipush 24, 2) := by decide +kernel
theorem dX7_init_286 : decode cX7_init 286 = .ok (.bipush 116, 2) := by decide +kernel
theorem dX7_init_288 : decode cX7_init 288 = .ok (.iastore, 1) := by decide +kernel
theorem dX7_init_289 : decode cX7_init 289 = .ok (.dup, 1) := by decide +kernel
theorem dX7_init_290 : decode cX7_init 290 = .ok (.bipush 25, 2) := by decide +kernel
theorem dX7_init_292 : decode cX7_init 292 = .ok (.bipush 111, 2) := by decide +kernel
theorem dX7_init_294 : decode cX7_init 294 = .ok (.iastore, 1) := by decide +kernel
theorem dX7_init_295 : decode cX7_init 295 = .ok (.dup, 1) := by decide +kernel
theorem dX7_init_296 : decode cX7_init 296 = .ok (.bipush 26, 2) := by decide +kernel
theorem dX7_init_298 : decode cX7_init 298 = .ok (.bipush 108, 2) := by decide +kernel
theorem dX7_init_300 : decode cX7_init 300 = .ok (.iastore, 1) := by decide +kernel
theorem dX7_init_301 : decode cX7_init 301 = .ok (.dup, 1) := by decide +kernel
theorem dX7_init_302 : decode cX7_init 302 = .ok (.bipush 27, 2) := by decide +kernel
theorem dX7_init_304 : decode cX7_init 304 = .ok (.bipush 108, 2) := by decide +kernel
theorem dX7_init_306 : decode cX7_init 306 = .ok (.iastore, 1) := by decide +kernel
theorem dX7_init_307 : decode cX7_init 307 = .ok (.dup, 1) := by decide +kernel
theorem dX7_init_308 : decode cX7_init 308 = .ok (.bipush 28, 2) := by decide +kernel
theorem dX7_init_310 : decode cX7_init 310 = .ok (.bipush 32, 2) := by decide +kernel
theorem dX7_init_312 : decode cX7_init 312 = .ok (.iastore, 1) := by decide +kernel
theorem dX7_init_313 : decode cX7_init 313 = .ok (.dup, 1) := by decide +kernel
theorem dX7_init_314 : decode cX7_init 314 = .ok (.bipush 29, 2) := by decide +kernel
theorem dX7_init_316 : decode cX7_init 316 = .ok (.iconst 0, 1) := by decide +kernel
theorem dX7_init_317 : decode cX7_init 317 = .ok (.iastore, 1) := by decide +kernel
theorem dX7_init_318 : decode cX7_init 318 = .ok (.dup, 1) := by decide +kernel
theorem dX7_init_319 : decode cX7_init 319 = .ok (.bipush 30, 2) := by decide +kernel
theorem dX7_init_321 : decode cX7_init 321 = .ok (.bipush 112, 2) := by decide +kernel
theorem dX7_init_323 : decode cX7_init 323 = .ok (.iastore, 1) := by decide +kernel
theorem dX7_init_324 : decode cX7_init 324 = .ok (.dup, 1) := by decide +kernel
theorem dX7_init_325 : decode cX7_init 325 = .ok (.bipush 31, 2) := by decide +kernel
theorem dX7_init_327 : decode cX7_init 327 = .ok (.bipush 117, 2) := by decide +kernel
theorem dX7_init_329 : decode cX7_init 329 = .ok (.iastore, 1) := by decide +kernel
theorem dX7_init_330 : decode cX7_init 330 = .ok (.dup, 1) := by decide +kernel
theorem dX7_init_331 : decode cX7_init 331 = .ok (.bipush 32, 2) := by decide +kernel
theorem dX7_init_333 : decode cX7_init 333 = .ok (.bipush 115, 2) := by decide +kernel
theorem dX7_init_335 : decode cX7_init 335 = .ok (.iastore, 1) := by decide +kernel
theorem dX7_init_336 : decode cX7_init 336 = .ok (.dup, 1) := by decide +kernel
theorem dX7_init_337 : decode cX7_init 337 = .ok (.bipush 33, 2) := by decide +kernel
theorem dX7_init_339 : decode cX7_init 339 = .ok (.bipush 104, 2) := by decide +kernel
theorem dX7_init_341 : decode cX7_init 341 = .ok (.iastore, 1) := by decide +kernel
theorem dX7_init_342 : decode cX7_init 342 = .ok (.dup, 1) := by decide +kernel
theorem dX7_init_343 : decode cX7_init 343 = .ok (.bipush 34, 2) := by decide +kernel
theorem dX7_init_345 : decode cX7_init 345 = .ok (.bipush 32, 2) := by decide +kernel
theorem dX7_init_347 : decode cX7_init 347 = .ok (.iastore, 1) := by decide +kernel
theorem dX7_init_348 : decode cX7_init 348 = .ok (.dup, 1) := by decide +kernel
theorem dX7_init_349 : decode cX7_init 349 = .ok (.bipush 35, 2) := by decide +kernel
theorem dX7_init_351 : decode cX7_init 351 = .ok (.iconst 0, 1) := by decide +kernel
theorem dX7_init_352 : decode cX7_init 352 = .ok (.iastore, 1) := by decide +kernel
theorem dX7_init_353 : decode cX7_init 353 = .ok (.putfield 69, 3) := by decide +kernel
theorem dX7_init_356 : decode cX7_init 356 = .ok (.aload_n 0, 1) := by decide +kernel
theorem dX7_init_357 : decode cX7_init 357 = .ok (.bipush 6, 2) := by decide +kernel
theorem dX7_init_359 : decode cX7_init 359 = .ok (.newarray .int, 2) := by decide +kernel
theorem dX7_init_361 : decode cX7_init 361 = .ok (.dup, 1) := by decide +kernel
theorem dX7_init_362 : decode cX7_init 362 = .ok (.iconst 0, 1) := by decide +kernel
theorem dX7_init_363 : decode cX7_init 363 = .ok (.bipush 6, 2) := by decide +kernel
theorem dX7_init_365 : decode cX7_init 365 = .ok (.iastore, 1) := by decide +kernel
theorem dX7_init_366 : decode cX7_init 366 = .ok (.dup, 1) := by decide +kernel
theorem dX7_init_367 : decode cX7_init 367 = .ok (.iconst 1, 1) := by decide +kernel
theorem dX7_init_368 : decode cX7_init 368 = .ok (.iconst 2, 1) := by decide +kernel
theorem dX7_init_369 : decode cX7_init 369 = .ok (.iastore, 1) := by decide +kernel
theorem dX7_init_370 : decode cX7_init 370 = .ok (.dup, 1) := by decide +kernel
theorem dX7_init_371 : decode cX7_init 371 = .ok (.iconst 2, 1) := by decide +kernel
theorem dX7_init_372 : decode cX7_init 372 = .ok (.iconst 1, 1) := by decide +kernel
theorem dX7_init_373 : decode cX7_init 373 = .ok (.iastore, 1) := by decide +kernel
theorem dX7_init_374 : decode cX7_init 374 = .ok (.dup, 1) := by decide +kernel
theorem dX7_init_375 : decode cX7_init 375 = .ok (.iconst 3, 1) := by decide +kernel
theorem dX7_init_376 : decode cX7_init 376 = .ok (.iconst 1, 1) := by decide +kernel
theorem dX7_init_377 : decode cX7_init 377 = .ok (.iastore, 1) := by decide +kernel
theorem dX7_init_378 : decode cX7_init 378 = .ok (.dup, 1) := by decide +kernel
theorem dX7_init_379 : decode cX7_init 379 = .ok (.iconst 4, 1) := by decide +kernel
theorem dX7_init_380 : decode cX7_init 380 = .ok (.iconst 1, 1) := by decide +kernel
theorem dX7_init_381 : decode cX7_init 381 = .ok (.iastore, 1) := by decide +kernel
theorem dX7_init_382 : decode cX7_init 382 = .ok (.dup, 1) := by decide +kernel
theorem dX7_init_383 : decode cX7_init 383 = .ok (.iconst 5, 1) := by decide +kernel
theorem dX7_init_384 : decode cX7_init 384 = .ok (.iconst 1, 1) := by decide +kernel
theorem dX7_init_385 : decode cX7_init 385 = .ok (.iastore, 1) := by decide +kernel
theorem dX7_init_386 : decode cX7_init 386 = .ok (.putfield 72, 3) := by decide +kernel
theorem dX7_init_389 : decode cX7_init 389 = .ok (.aload_n 0, 1) := by decide +kernel
theorem dX7_init_390 : decode cX7_init 390 = .ok (.bipush 6, 2) := by decide +kernel
theorem dX7_init_392 : decode cX7_init 392 = .ok (.newarray .int, 2) := by decide +kernel
theorem dX7_init_394 : decode cX7_init 394 = .ok (.dup, 1) := by decide +kernel
theorem dX7_init_395 : decode cX7_init 395 = .ok (.iconst 0, 1) := by decide +kernel
theorem dX7_init_396 : decode cX7_init 396 = .ok (.bipush 6, 2) := by decide +kernel
theorem dX7_init_398 : decode cX7_init 398 = .ok (.iastore, 1) := by decide +kernel
theorem dX7_init_399 : decode cX7_init 399 = .ok (.dup, 1) := by decide +kernel
theorem dX7_init_400 : decode cX7_init 400 = .ok (.iconst 1, 1) := by decide +kernel
theorem dX7_init_401 : decode cX7_init 401 = .ok (.bipush 9, 2) := by decide +kernel
theorem dX7_init_403 : decode cX7_init 403 = .ok (.iastore, 1) := by decide +kernel
theorem dX7_init_404 : decode cX7_init 404 = .ok (.dup, 1) := by decide +kernel
theorem dX7_init_405 : decode cX7_init 405 = .ok (.iconst 2, 1) := by decide +kernel
theorem dX7_init_406 : decode cX7_init 406 = .ok (.bipush 30, 2) := by decide +kernel
theorem dX7_init_408 : decode cX7_init 408 = .ok (.iastore, 1) := by decide +kernel
theorem dX7_init_409 : decode cX7_init 409 = .ok (.dup, 1) := by decide +kernel
theorem dX7_init_410 : decode cX7_init 410 = .ok (.iconst 3, 1) := by decide +kernel
theorem dX7_init_411 : decode cX7_init 411 = .ok (.bipush 9, 2) := by decide +kernel
theorem dX7_init_413 : decode cX7_init 413 = .ok (.iastore, 1) := by decide +kernel
theorem dX7_init_414 : decode cX7_init 414 = .ok (.dup, 1) := by decide +kernel
theorem dX7_init_415 : decode cX7_init 415 = .ok (.iconst 4, 1) := by decide +kernel
theorem dX7_init_416 : decode cX7_init 416 = .ok (.bipush 9, 2) := by decide +kernel
theorem dX7_init_418 : decode cX7_init 418 = .ok (.iastore, 1) := by decide +kernel
theorem dX7_init_419 : decode cX7_init 419 = .ok (.dup, 1) := by decide +kernel
theorem dX7_init_420 : decode cX7_init 420 = .ok (.iconst 5, 1) := by decide +kernel
theorem dX7_init_421 : decode cX7_init 421 = .ok (.bipush 99, 2) := by decide +kernel
theorem dX7_init_423 : decode cX7_init 423 = .ok (.iastore, 1) := by decide +kernel
theorem dX7_init_424 : decode cX7_init 424 = .ok (.putfield 75, 3) := by decide +kernel
theorem dX7_init_427 : decode cX7_init 427 = .ok (.aload_n 0, 1) := by decide +kernel
theorem dX7_init_428 : decode cX7_init 428 = .ok (.bipush 6, 2) := by decide +kernel
theorem dX7_init_430 : decode cX7_init 430 = .ok (.newarray .int, 2) := by decide +kernel
theorem dX7_init_432 : decode cX7_init 432 = .ok (.putfield 78, 3) := by decide +kernel
theorem dX7_init_435 : decode cX7_init 435 = .ok (.aload_n 0, 1) := by decide +kernel
theorem dX7_init_436 : decode cX7_init 436 = .ok (.bipush 60, 2) := by decide +kernel
theorem dX7_init_438 : decode cX7_init 438 = .ok (.newarray .int, 2) := by decide +kernel
theorem dX7_init_440 : decode cX7_init 440 = .ok (.putfield 81, 3) := by decide +kernel
theorem dX7_init_443 : decode cX7_init 443 = .ok (.aload_n 0, 1) := by decide +kernel
theorem dX7_init_444 : decode cX7_init 444 = .ok (.bipush 60, 2) := by decide +kernel
theorem dX7_init_446 : decode cX7_init 446 = .ok (.newarray .int, 2) := by decide +kernel
theorem dX7_init_448 : decode cX7_init 448 = .ok (.putfield 84, 3) := by decide +kernel
theorem dX7_init_451 : decode cX7_init 451 = .ok (.aload_n 0, 1) := by decide +kernel
theorem dX7_init_452 : decode cX7_init 452 = .ok (.bipush 7, 2) := by decide +kernel
theorem dX7_init_454 : decode cX7_init 454 = .ok (.newarray .int, 2) := by decide +kernel
theorem dX7_init_456 : decode cX7_init 456 = .ok (.putfield 87, 3) := by decide +kernel
theorem dX7_init_459 : decode cX7_init 459 = .ok (.aload_n 0, 1) := by decide +kernel
theorem dX7_init_460 : decode cX7_init 460 = .ok (.bipush 7, 2) := by decide +kernel
theorem dX7_init_462 : decode cX7_init 462 = .ok (.newarray .int, 2) := by decide +kernel
theorem dX7_init_464 : decode cX7_init 464 = .ok (.putfield 90, 3) := by decide +kernel
theorem dX7_init_467 : decode cX7_init 467 = .ok (.aload_n 0, 1) := by decide +kernel
theorem dX7_init_468 : decode cX7_init 468 = .ok (.bipush 7, 2) := by decide +kernel
theorem dX7_init_470 : decode cX7_init 470 = .ok (.newarray .int, 2) := by decide +kernel
theorem dX7_init_472 : decode cX7_init 472 = .ok (.putfield 93, 3) := by decide +kernel
theorem dX7_init_475 : decode cX7_init 475 = .ok (.aload_n 0, 1) := by decide +kernel
theorem dX7_init_476 : decode cX7_init 476 = .ok (.bipush 20, 2) := by decide +kernel
theorem dX7_init_478 : decode cX7_init 478 = .ok (.newarray .int, 2) := by decide +kernel
theorem dX7_init_480 : decode cX7_init 480 = .ok (.putfield 96, 3) := by decide +kernel
theorem dX7_init_483 : decode cX7_init 483 = .ok (.return_, 1) := by decide +kernel
abbrev k_X7_init : zK := (cX7_init, 1, RX7, none, ({ frames := 1, cells := 24, slots := 1744, locals := 12 } : Room))
theorem zc_X7_init : zcal yX7_init k_X7_init.1 k_X7_init.2.1 k_X7_init.2.2.2.1 0 := ⟨tw_code_yX7_init, tw_i_TollForHesitatorsModel, ⟨by decide +kernel, by decide +kernel⟩, by decide +kernel⟩
set_option maxHeartbeats 800000 in
theorem c_X7_init {l : Launch} (G : zG) (P : pT) (q : Nat) (sz : Nat) : Met l yX7_init (.code yX7_init k_X7_init.1 k_X7_init.2.1 k_X7_init.2.2.2.1 :: TS) k_X7_init.2.2.2.2 (Pz G [.ref q] (Fw G (gX G P) ([(q, .inr (7, [.int 0, .int 0, .int 0, .int 0, .int 0, .int 0, .int 0, .int 0, .null, .null, .null, .null, .null, .null, .null, .null, .null, .null, .null, .null, .null, .null, .null, .null, .null, .null, .int 0, .int 0, .int 0, .int 0, .int 0, .null, .null, .null, .null, .null, .int 0, .int 0, .int 0, .int 0, .int 0, .int 0, .null, .int 0, .int 0]))]) sz)) (Qwv G (fun w => ∃ a : Nat → Nat, a 0 = q ∧ w = mW G a mI) (va_A ([(q, .inr (7, [.int 0, .int 0, .int 0, .int 0, .int 0, .int 0, .int 0, .int 0, .null, .null, .null, .null, .null, .null, .null, .null, .null, .null, .null, .null, .null, .null, .null, .null, .null, .null, .int 0, .int 0, .int 0, .int 0, .int 0, .null, .null, .null, .null, .null, .int 0, .int 0, .int 0, .int 0, .int 0, .int 0, .null, .int 0, .int 0]))]) sz)) 24 1744 (va_A ([(q, .inr (7, [.int 0, .int 0, .int 0, .int 0, .int 0, .int 0, .int 0, .int 0, .null, .null, .null, .null, .null, .null, .null, .null, .null, .null, .null, .null, .null, .null, .null, .null, .null, .null, .int 0, .int 0, .int 0, .int 0, .int 0, .null, .null, .null, .null, .null, .int 0, .int 0, .int 0, .int 0, .int 0, .int 0, .null, .int 0, .int 0]))]) sz) := by
  refine zmet (K := k_X7_init) (by decide +kernel) rfl rfl (fun Γ hl0 hQ hN hF => ?_)
  refine z_start (gX_ok G P) hF (fun hw => ?_)
  generalize va_A ([(q, .inr (7, [.int 0, .int 0, .int 0, .int 0, .int 0, .int 0, .int 0, .int 0, .null, .null, .null, .null, .null, .null, .null, .null, .null, .null, .null, .null, .null, .null, .null, .null, .null, .null, .int 0, .int 0, .int 0, .int 0, .int 0, .null, .null, .null, .null, .null, .int 0, .int 0, .int 0, .int 0, .int 0, .int 0, .null, .int 0, .int 0]))]) sz = A at hQ hw ⊢
  show Z k_X7_init G Γ _ 0 0 [(0, .ref q)] 0 []
  refine z_aload_n dX7_init_0 rfl ?_
  refine z_objinit tw_m_RX7_1 tw_inst_objectInit tw_objcode ⟨Nat.le_of_ble_eq_true rfl, Nat.le_of_ble_eq_true rfl⟩ dX7_init_1 ?_
  refine z_aload_n dX7_init_4 rfl ?_
  refine z_bipush (v := 8) dX7_init_5 rfl ?_
  refine z_put (fs := [.int 0, .int 0, .int 0, .int 0, .int 0, .int 0, .int 0, .int 0, .null, .null, .null, .null, .null, .null, .null, .null, .null, .null, .null, .null, .null, .null, .null, .null, .null, .null, .int 0, .int 0, .int 0, .int 0, .int 0, .null, .null, .null, .null, .null, .int 0, .int 0, .int 0, .int 0, .int 0, .int 0, .null, .int 0, .int 0]) (v := .int 8) (ws' := [(q, .inr (7, [.int 0, .int 8, .int 0, .int 0, .int 0, .int 0, .int 0, .int 0, .null, .null, .null, .null, .null, .null, .null, .null, .null, .null, .null, .null, .null, .null, .null, .null, .null, .null, .int 0, .int 0, .int 0, .int 0, .int 0, .null, .null, .null, .null, .null, .int 0, .int 0, .int 0, .int 0, .int 0, .int 0, .null, .int 0, .int 0]))]) 0 rfl rfl uin_X7 tyX7 tyX7_ok nmX7 1 (Nat.le_of_ble_eq_true rfl) tw_f_RX7_7 rfl rfl (ty := .int) rfl rfl rfl (Nat.le_of_ble_eq_true rfl) rfl dX7_init_7 ?_
  refine z_aload_n dX7_init_10 rfl ?_
  refine z_iconst (v := 5) dX7_init_11 rfl ?_
  refine z_put (fs := [.int 0, .int 8, .int 0, .int 0, .int 0, .int 0, .int 0, .int 0, .null, .null, .null, .null, .null, .null, .null, .null, .null, .null, .null, .null, .null, .null, .null, .null, .null, .null, .int 0, .int 0, .int 0, .int 0, .int 0, .null, .null, .null, .null, .null, .int 0, .int 0, .int 0, .int 0, .int 0, .int 0, .null, .int 0, .int 0]) (v := .int 5) (ws' := [(q, .inr (7, [.int 0, .int 8, .int 0, .int 5, .int 0, .int 0, .int 0, .int 0, .null, .null, .null, .null, .null, .null, .null, .null, .null, .null, .null, .null, .null, .null, .null, .null, .null, .null, .int 0, .int 0, .int 0, .int 0, .int 0, .null, .null, .null, .null, .null, .int 0, .int 0, .int 0, .int 0, .int 0, .int 0, .null, .int 0, .int 0]))]) 0 rfl rfl uin_X7 tyX7 tyX7_ok nmX7 3 (Nat.le_of_ble_eq_true rfl) tw_f_RX7_13 rfl rfl (ty := .int) rfl rfl rfl (Nat.le_of_ble_eq_true rfl) rfl dX7_init_12 ?_
  refine z_aload_n dX7_init_15 rfl ?_
  refine z_iconst (v := 1) dX7_init_16 rfl ?_
  refine z_put (fs := [.int 0, .int 8, .int 0, .int 5, .int 0, .int 0, .int 0, .int 0, .null, .null, .null, .null, .null, .null, .null, .null, .null, .null, .null, .null, .null, .null, .null, .null, .null, .null, .int 0, .int 0, .int 0, .int 0, .int 0, .null, .null, .null, .null, .null, .int 0, .int 0, .int 0, .int 0, .int 0, .int 0, .null, .int 0, .int 0]) (v := .int 1) (ws' := [(q, .inr (7, [.int 0, .int 8, .int 0, .int 5, .int 1, .int 0, .int 0, .int 0, .null, .null, .null, .null, .null, .null, .null, .null, .null, .null, .null, .null, .null, .null, .null, .null, .null, .null, .int 0, .int 0, .int 0, .int 0, .int 0, .null, .null, .null, .null, .null, .int 0, .int 0, .int 0, .int 0, .int 0, .int 0, .null, .int 0, .int 0]))]) 0 rfl rfl uin_X7 tyX7 tyX7_ok nmX7 4 (Nat.le_of_ble_eq_true rfl) tw_f_RX7_16 rfl rfl (ty := .int) rfl rfl rfl (Nat.le_of_ble_eq_true rfl) rfl dX7_init_17 ?_
  refine z_aload_n dX7_init_20 rfl ?_
  refine z_iconst (v := 1) dX7_init_21 rfl ?_
  refine z_put (fs := [.int 0, .int 8, .int 0, .int 5, .int 1, .int 0, .int 0, .int 0, .null, .null, .null, .null, .null, .null, .null, .null, .null, .null, .null, .null, .null, .null, .null, .null, .null, .null, .int 0, .int 0, .int 0, .int 0, .int 0, .null, .null, .null, .null, .null, .int 0, .int 0, .int 0, .int 0, .int 0, .int 0, .null, .int 0, .int 0]) (v := .int 1) (ws' := [(q, .inr (7, [.int 0, .int 8, .int 0, .int 5, .int 1, .int 0, .int 1, .int 0, .null, .null, .null, .null, .null, .null, .null, .null, .null, .null, .null, .null, .null, .null, .null, .null, .null, .null, .int 0, .int 0, .int 0, .int 0, .int 0, .null, .null, .null, .null, .null, .int 0, .int 0, .int 0, .int 0, .int 0, .int 0, .null, .int 0, .int 0]))]) 0 rfl rfl uin_X7 tyX7 tyX7_ok nmX7 6 (Nat.le_of_ble_eq_true rfl) tw_f_RX7_19 rfl rfl (ty := .int) rfl rfl rfl (Nat.le_of_ble_eq_true rfl) rfl dX7_init_22 ?_
  refine z_aload_n dX7_init_25 rfl ?_
  refine z_iconst (v := (-1)) dX7_init_26 rfl ?_
  refine z_put (fs := [.int 0, .int 8, .int 0, .int 5, .int 1, .int 0, .int 1, .int 0, .null, .null, .null, .null, .null, .null, .null, .null, .null, .null, .null, .null, .null, .null, .null, .null, .null, .null, .int 0, .int 0, .int 0, .int 0, .int 0, .null, .null, .null, .null, .null, .int 0, .int 0, .int 0, .int 0, .int 0, .int 0, .null, .int 0, .int 0]) (v := .int (-1)) (ws' := [(q, .inr (7, [.int 0, .int 8, .int 0, .int 5, .int 1, .int 0, .int 1, .int (-1), .null, .null, .null, .null, .null, .null, .null, .null, .null, .null, .null, .null, .null, .null, .null, .null, .null, .null, .int 0, .int 0, .int 0, .int 0, .int 0, .null, .null, .null, .null, .null, .int 0, .int 0, .int 0, .int 0, .int 0, .int 0, .null, .int 0, .int 0]))]) 0 rfl rfl uin_X7 tyX7 tyX7_ok nmX7 7 (Nat.le_of_ble_eq_true rfl) tw_f_RX7_22 rfl rfl (ty := .int) rfl rfl rfl (Nat.le_of_ble_eq_true rfl) rfl dX7_init_27 ?_
  refine z_aload_n dX7_init_30 rfl ?_
  refine z_bipush (v := 8) dX7_init_31 rfl ?_
  refine z_newi (N := 8) hw tw_o_84 (by decide) (by decide) (by decide) (Nat.le_of_ble_eq_true rfl) (Nat.le_of_ble_eq_true rfl) dX7_init_33 (fun a1 => ?_)
  refine z_putF (fs := [.int 0, .int 8, .int 0, .int 5, .int 1, .int 0, .int 1, .int (-1), .null, .null, .null, .null, .null, .null, .null, .null, .null, .null, .null, .null, .null, .null, .null, .null, .null, .null, .int 0, .int 0, .int 0, .int 0, .int 0, .null, .null, .null, .null, .null, .int 0, .int 0, .int 0, .int 0, .int 0, .int 0, .null, .int 0, .int 0]) (v := .ref a1) (ws' := [(q, .inr (7, [.int 0, .int 8, .int 0, .int 5, .int 1, .int 0, .int 1, .int (-1), .ref a1, .null, .null, .null, .null, .null, .null, .null, .null, .null, .null, .null, .null, .null, .null, .null, .null, .null, .int 0, .int 0, .int 0, .int 0, .int 0, .null, .null, .null, .null, .null, .int 0, .int 0, .int 0, .int 0, .int 0, .int 0, .null, .int 0, .int 0]))] ++ [(a1, .inl (G.2.2.1 0, 8, .inl (fun _ => 0)))]) hN 0 rfl rfl uin_X7 tyX7 tyX7_ok nmX7 8 (Nat.le_of_ble_eq_true rfl) tw_f_RX7_25 rfl rfl rfl (ty := (.array .int)) rfl rfl rfl (Nat.le_of_ble_eq_true rfl) rfl dX7_init_35 ?_
  refine z_aload_n dX7_init_38 rfl ?_
  refine z_bipush (v := 7) dX7_init_39 rfl ?_
  refine z_newi (N := 7) hw tw_o_84 (by decide) (by decide) (by decide) (Nat.le_of_ble_eq_true rfl) (Nat.le_of_ble_eq_true rfl) dX7_init_41 (fun a2 => ?_)
  refine z_putF (fs := [.int 0, .int 8, .int 0, .int 5, .int 1, .int 0, .int 1, .int (-1), .ref a1, .null, .null, .null, .null, .null, .null, .null, .null, .null, .null, .null, .null, .null, .null, .null, .null, .null, .int 0, .int 0, .int 0, .int 0, .int 0, .null, .null, .null, .null, .null, .int 0, .int 0, .int 0, .int 0, .int 0, .int 0, .null, .int 0, .int 0]) (v := .ref a2) (ws' := [(q, .inr (7, [.int 0, .int 8, .int 0, .int 5, .int 1, .int 0, .int 1, .int (-1), .ref a1, .ref a2, .null, .null, .null, .null, .null, .null, .null, .null, .null, .null, .null, .null, .null, .null, .null, .null, .int 0, .int 0, .int 0, .int 0, .int 0, .null, .null, .null, .null, .null, .int 0, .int 0, .int 0, .int 0, .int 0, .int 0, .null, .int 0, .int 0]))] ++ [(a1, .inl (G.2.2.1 0, 8, .inl (fun _ => 0)))] ++ [(a2, .inl (G.2.2.1 0, 7, .inl (fun _ => 0)))]) hN 0 rfl rfl uin_X7 tyX7 tyX7_ok nmX7 9 (Nat.le_of_ble_eq_true rfl) tw_f_RX7_29 rfl rfl rfl (ty := (.array .int)) rfl rfl rfl (Nat.le_of_ble_eq_true rfl) rfl dX7_init_43 ?_
  refine z_aload_n dX7_init_46 rfl ?_
  refine z_bipush (v := 7) dX7_init_47 rfl ?_
  refine z_newi (N := 7) hw tw_o_84 (by decide) (by decide) (by decide) (Nat.le_of_ble_eq_true rfl) (Nat.le_of_ble_eq_true rfl) dX7_init_49 (fun a3 => ?_)
  refine z_putF (fs := [.int 0, .int 8, .int 0, .int 5, .int 1, .int 0, .int 1, .int (-1), .ref a1, .ref a2, .null, .null, .null, .null, .null, .null, .null, .null, .null, .null, .null, .null, .null, .null, .null, .null, .int 0, .int 0, .int 0, .int 0, .int 0, .null, .null, .null, .null, .null, .int 0, .int 0, .int 0, .int 0, .int 0, .int 0, .null, .int 0, .int 0]) (v := .ref a3) (ws' := [(q, .inr (7, [.int 0, .int 8, .int 0, .int 5, .int 1, .int 0, .int 1, .int (-1), .ref a1, .ref a2, .ref a3, .null, .null, .null, .null, .null, .null, .null, .null, .null, .null, .null, .null, .null, .null, .null, .int 0, .int 0, .int 0, .int 0, .int 0, .null, .null, .null, .null, .null, .int 0, .int 0, .int 0, .int 0, .int 0, .int 0, .null, .int 0, .int 0]))] ++ [(a1, .inl (G.2.2.1 0, 8, .inl (fun _ => 0)))] ++ [(a2, .inl (G.2.2.1 0, 7, .inl (fun _ => 0)))] ++ [(a3, .inl (G.2.2.1 0, 7, .inl (fun _ => 0)))]) hN 0 rfl rfl uin_X7 tyX7 tyX7_ok nmX7 10 (Nat.le_of_ble_eq_true rfl) tw_f_RX7_32 rfl rfl rfl (ty := (.array .int)) rfl rfl rfl (Nat.le_of_ble_eq_true rfl) rfl dX7_init_51 ?_
  refine z_aload_n dX7_init_54 rfl ?_
  refine z_bipush (v := 7) dX7_init_55 rfl ?_
  refine z_newi (N := 7) hw tw_o_84 (by decide) (by decide) (by decide) (Nat.le_of_ble_eq_true rfl) (Nat.le_of_ble_eq_true rfl) dX7_init_57 (fun a4 => ?_)
  refine z_putF (fs := [.int 0, .int 8, .int 0, .int 5, .int 1, .int 0, .int 1, .int (-1), .ref a1, .ref a2, .ref a3, .null, .null, .null, .null, .null, .null, .null, .null, .null, .null, .null, .null, .null, .null, .null, .int 0, .int 0, .int 0, .int 0, .int 0, .null, .null, .null, .null, .null, .int 0, .int 0, .int 0, .int 0, .int 0, .int 0, .null, .int 0, .int 0]) (v := .ref a4) (ws' := [(q, .inr (7, [.int 0, .int 8, .int 0, .int 5, .int 1, .int 0, .int 1, .int (-1), .ref a1, .ref a2, .ref a3, .ref a4, .null, .null, .null, .null, .null, .null, .null, .null, .null, .null, .null, .null, .null, .null, .int 0, .int 0, .int 0, .int 0, .int 0, .null, .null, .null, .null, .null, .int 0, .int 0, .int 0, .int 0, .int 0, .int 0, .null, .int 0, .int 0]))] ++ [(a1, .inl (G.2.2.1 0, 8, .inl (fun _ => 0)))] ++ [(a2, .inl (G.2.2.1 0, 7, .inl (fun _ => 0)))] ++ [(a3, .inl (G.2.2.1 0, 7, .inl (fun _ => 0)))] ++ [(a4, .inl (G.2.2.1 0, 7, .inl (fun _ => 0)))]) hN 0 rfl rfl uin_X7 tyX7 tyX7_ok nmX7 11 (Nat.le_of_ble_eq_true rfl) tw_f_RX7_35 rfl rfl rfl (ty := (.array .int)) rfl rfl rfl (Nat.le_of_ble_eq_true rfl) rfl dX7_init_59 ?_
  refine z_aload_n dX7_init_62 rfl ?_
  refine z_bipush (v := 7) dX7_init_63 rfl ?_
  refine z_newi (N := 7) hw tw_o_84 (by decide) (by decide) (by decide) (Nat.le_of_ble_eq_true rfl) (Nat.le_of_ble_eq_true rfl) dX7_init_65 (fun a5 => ?_)
  refine z_putF (fs := [.int 0, .int 8, .int 0, .int 5, .int 1, .int 0, .int 1, .int (-1), .ref a1, .ref a2, .ref a3, .ref a4, .null, .null, .null, .null, .null, .null, .null, .null, .null, .null, .null, .null, .null, .null, .int 0, .int 0, .int 0, .int 0, .int 0, .null, .null, .null, .null, .null, .int 0, .int 0, .int 0, .int 0, .int 0, .int 0, .null, .int 0, .int 0]) (v := .ref a5) (ws' := [(q, .inr (7, [.int 0, .int 8, .int 0, .int 5, .int 1, .int 0, .int 1, .int (-1), .ref a1, .ref a2, .ref a3, .ref a4, .ref a5, .null, .null, .null, .null, .null, .null, .null, .null, .null, .null, .null, .null, .null, .int 0, .int 0, .int 0, .int 0, .int 0, .null, .null, .null, .null, .null, .int 0, .int 0, .int 0, .int 0, .int 0, .int 0, .null, .int 0, .int 0]))] ++ [(a1, .inl (G.2.2.1 0, 8, .inl (fun _ => 0)))] ++ [(a2, .inl (G.2.2.1 0, 7, .inl (fun _ => 0)))] ++ [(a3, .inl (G.2.2.1 0, 7, .inl (fun _ => 0)))] ++ [(a4, .inl (G.2.2.1 0, 7, .inl (fun _ => 0)))] ++ [(a5, .inl (G.2.2.1 0, 7, .inl (fun _ => 0)))]) hN 0 rfl rfl uin_X7 tyX7 tyX7_ok nmX7 12 (Nat.le_of_ble_eq_true rfl) tw_f_RX7_38 rfl rfl rfl (ty := (.array .int)) rfl rfl rfl (Nat.le_of_ble_eq_true rfl) rfl dX7_init_67 ?_
  refine z_aload_n dX7_init_70 rfl ?_
  refine z_bipush (v := 7) dX7_init_71 rfl ?_
  refine z_newi (N := 7) hw tw_o_84 (by decide) (by decide) (by decide) (Nat.le_of_ble_eq_true rfl) (Nat.le_of_ble_eq_true rfl) dX7_init_73 (fun a6 => ?_)
  refine z_putF (fs := [.int 0, .int 8, .int 0, .int 5, .int 1, .int 0, .int 1, .int (-1), .ref a1, .ref a2, .ref a3, .ref a4, .ref a5, .null, .null, .null, .null, .null, .null, .null, .null, .null, .null, .null, .null, .null, .int 0, .int 0, .int 0, .int 0, .int 0, .null, .null, .null, .null, .null, .int 0, .int 0, .int 0, .int 0, .int 0, .int 0, .null, .int 0, .int 0]) (v := .ref a6) (ws' := [(q, .inr (7, [.int 0, .int 8, .int 0, .int 5, .int 1, .int 0, .int 1, .int (-1), .ref a1, .ref a2, .ref a3, .ref a4, .ref a5, .ref a6, .null, .null, .null, .null, .null, .null, .null, .null, .null, .null, .null, .null, .int 0, .int 0, .int 0, .int 0, .int 0, .null, .null, .null, .null, .null, .int 0, .int 0, .int 0, .int 0, .int 0, .int 0, .null, .int 0, .int 0]))] ++ [(a1, .inl (G.2.2.1 0, 8, .inl (fun _ => 0)))] ++ [(a2, .inl (G.2.2.1 0, 7, .inl (fun _ => 0)))] ++ [(a3, .inl (G.2.2.1 0, 7, .inl (fun _ => 0)))] ++ [(a4, .inl (G.2.2.1 0, 7, .inl (fun _ => 0)))] ++ [(a5, .inl (G.2.2.1 0, 7, .inl (fun _ => 0)))] ++ [(a6, .inl (G.2.2.1 0, 7, .inl (fun _ => 0)))]) hN 0 rfl rfl uin_X7 tyX7 tyX7_ok nmX7 13 (Nat.le_of_ble_eq_true rfl) tw_f_RX7_41 rfl rfl rfl (ty := (.array .int)) rfl rfl rfl (Nat.le_of_ble_eq_true rfl) rfl dX7_init_75 ?_
  refine z_aload_n dX7_init_78 rfl ?_
  refine z_bipush (v := 7) dX7_init_79 rfl ?_
  refine z_newi (N := 7) hw tw_o_84 (by decide) (by decide) (by decide) (Nat.le_of_ble_eq_true rfl) (Nat.le_of_ble_eq_true rfl) dX7_init_81 (fun a7 => ?_)
  refine z_putF (fs := [.int 0, .int 8, .int 0, .int 5, .int 1, .int 0, .int 1, .int (-1), .ref a1, .ref a2, .ref a3, .ref a4, .ref a5, .ref a6, .null, .null, .null, .null, .null, .null, .null, .null, .null, .null, .null, .null, .int 0, .int 0, .int 0, .int 0, .int 0, .null, .null, .null, .null, .null, .int 0, .int 0, .int 0, .int 0, .int 0, .int 0, .null, .int 0, .int 0]) (v := .ref a7) (ws' := [(q, .inr (7, [.int 0, .int 8, .int 0, .int 5, .int 1, .int 0, .int 1, .int (-1), .ref a1, .ref a2, .ref a3, .ref a4, .ref a5, .ref a6, .ref a7, .null, .null, .null, .null, .null, .null, .null, .null, .null, .null, .null, .int 0, .int 0, .int 0, .int 0, .int 0, .null, .null, .null, .null, .null, .int 0, .int 0, .int 0, .int 0, .int 0, .int 0, .null, .int 0, .int 0]))] ++ [(a1, .inl (G.2.2.1 0, 8, .inl (fun _ => 0)))] ++ [(a2, .inl (G.2.2.1 0, 7, .inl (fun _ => 0)))] ++ [(a3, .inl (G.2.2.1 0, 7, .inl (fun _ => 0)))] ++ [(a4, .inl (G.2.2.1 0, 7, .inl (fun _ => 0)))] ++ [(a5, .inl (G.2.2.1 0, 7, .inl (fun _ => 0)))] ++ [(a6, .inl (G.2.2.1 0, 7, .inl (fun _ => 0)))] ++ [(a7, .inl (G.2.2.1 0, 7, .inl (fun _ => 0)))]) hN 0 rfl rfl uin_X7 tyX7 tyX7_ok nmX7 14 (Nat.le_of_ble_eq_true rfl) tw_f_RX7_44 rfl rfl rfl (ty := (.array .int)) rfl rfl rfl (Nat.le_of_ble_eq_true rfl) rfl dX7_init_83 ?_
  refine z_aload_n dX7_init_86 rfl ?_
  refine z_bipush (v := 7) dX7_init_87 rfl ?_
  refine z_newi (N := 7) hw tw_o_84 (by decide) (by decide) (by decide) (Nat.le_of_ble_eq_true rfl) (Nat.le_of_ble_eq_true rfl) dX7_init_89 (fun a8 => ?_)
  refine z_putF (fs := [.int 0, .int 8, .int 0, .int 5, .int 1, .int 0, .int 1, .int (-1), .ref a1, .ref a2, .ref a3, .ref a4, .ref a5, .ref a6, .ref a7, .null, .null, .null, .null, .null, .null, .null, .null, .null, .null, .null, .int 0, .int 0, .int 0, .int 0, .int 0, .null, .null, .null, .null, .null, .int 0, .int 0, .int 0, .int 0, .int 0, .int 0, .null, .int 0, .int 0]) (v := .ref a8) (ws' := [(q, .inr (7, [.int 0, .int 8, .int 0, .int 5, .int 1, .int 0, .int 1, .int (-1), .ref a1, .ref a2, .ref a3, .ref a4, .ref a5, .ref a6, .ref a7, .ref a8, .null, .null, .null, .null, .null, .null, .null, .null, .null, .null, .int 0, .int 0, .int 0, .int 0, .int 0, .null, .null, .null, .null, .null, .int 0, .int 0, .int 0, .int 0, .int 0, .int 0, .null, .int 0, .int 0]))] ++ [(a1, .inl (G.2.2.1 0, 8, .inl (fun _ => 0)))] ++ [(a2, .inl (G.2.2.1 0, 7, .inl (fun _ => 0)))] ++ [(a3, .inl (G.2.2.1 0, 7, .inl (fun _ => 0)))] ++ [(a4, .inl (G.2.2.1 0, 7, .inl (fun _ => 0)))] ++ [(a5, .inl (G.2.2.1 0, 7, .inl (fun _ => 0)))] ++ [(a6, .inl (G.2.2.1 0, 7, .inl (fun _ => 0)))] ++ [(a7, .inl (G.2.2.1 0, 7, .inl (fun _ => 0)))] ++ [(a8, .inl (G.2.2.1 0, 7, .inl (fun _ => 0)))]) hN 0 rfl rfl uin_X7 tyX7 tyX7_ok nmX7 15 (Nat.le_of_ble_eq_true rfl) tw_f_RX7_47 rfl rfl rfl (ty := (.array .int)) rfl rfl rfl (Nat.le_of_ble_eq_true rfl) rfl dX7_init_91 ?_
  refine z_aload_n dX7_init_94 rfl ?_
  refine z_bipush (v := 8) dX7_init_95 rfl ?_
  refine z_newi (N := 8) hw tw_o_84 (by decide) (by decide) (by decide) (Nat.le_of_ble_eq_true rfl) (Nat.le_of_ble_eq_true rfl) dX7_init_97 (fun a9 => ?_)
  refine z_putF (fs := [.int 0, .int 8, .int 0, .int 5, .int 1, .int 0, .int 1, .int (-1), .ref a1, .ref a2, .ref a3, .ref a4, .ref a5, .ref a6, .ref a7, .ref a8, .null, .null, .null, .null, .null, .null, .null, .null, .null, .null, .int 0, .int 0, .int 0, .int 0, .int 0, .null, .null, .null, .null, .null, .int 0, .int 0, .int 0, .int 0, .int 0, .int 0, .null, .int 0, .int 0]) (v := .ref a9) (ws' := [(q, .inr (7, [.int 0, .int 8, .int 0, .int 5, .int 1, .int 0, .int 1, .int (-1), .ref a1, .ref a2, .ref a3, .ref a4, .ref a5, .ref a6, .ref a7, .ref a8, .ref a9, .null, .null, .null, .null, .null, .null, .null, .null, .null, .int 0, .int 0, .int 0, .int 0, .int 0, .null, .null, .null, .null, .null, .int 0, .int 0, .int 0, .int 0, .int 0, .int 0, .null, .int 0, .int 0]))] ++ [(a1, .inl (G.2.2.1 0, 8, .inl (fun _ => 0)))] ++ [(a2, .inl (G.2.2.1 0, 7, .inl (fun _ => 0)))] ++ [(a3, .inl (G.2.2.1 0, 7, .inl (fun _ => 0)))] ++ [(a4, .inl (G.2.2.1 0, 7, .inl (fun _ => 0)))] ++ [(a5, .inl (G.2.2.1 0, 7, .inl (fun _ => 0)))] ++ [(a6, .inl (G.2.2.1 0, 7, .inl (fun _ => 0)))] ++ [(a7, .inl (G.2.2.1 0, 7, .inl (fun _ => 0)))] ++ [(a8, .inl (G.2.2.1 0, 7, .inl (fun _ => 0)))] ++ [(a9, .inl (G.2.2.1 0, 8, .inl (fun _ => 0)))]) hN 0 rfl rfl uin_X7 tyX7 tyX7_ok nmX7 16 (Nat.le_of_ble_eq_true rfl) tw_f_RX7_50 rfl rfl rfl (ty := (.array .int)) rfl rfl rfl (Nat.le_of_ble_eq_true rfl) rfl dX7_init_99 ?_
  refine z_aload_n dX7_init_102 rfl ?_
  refine z_bipush (v := 8) dX7_init_103 rfl ?_
  refine z_newi (N := 8) hw tw_o_84 (by decide) (by decide) (by decide) (Nat.le_of_ble_eq_true rfl) (Nat.le_of_ble_eq_true rfl) dX7_init_105 (fun a10 => ?_)
  refine z_putF (fs := [.int 0, .int 8, .int 0, .int 5, .int 1, .int 0, .int 1, .int (-1), .ref a1, .ref a2, .ref a3, .ref a4, .ref a5, .ref a6, .ref a7, .ref a8, .ref a9, .null, .null, .null, .null, .null, .null, .null, .null, .null, .int 0, .int 0, .int 0, .int 0, .int 0, .null, .null, .null, .null, .null, .int 0, .int 0, .int 0, .int 0, .int 0, .int 0, .null, .int 0, .int 0]) (v := .ref a10) (ws' := [(q, .inr (7, [.int 0, .int 8, .int 0, .int 5, .int 1, .int 0, .int 1, .int (-1), .ref a1, .ref a2, .ref a3, .ref a4, .ref a5, .ref a6, .ref a7, .ref a8, .ref a9, .ref a10, .null, .null, .null, .null, .null, .null, .null, .null, .int 0, .int 0, .int 0, .int 0, .int 0, .null, .null, .null, .null, .null, .int 0, .int 0, .int 0, .int 0, .int 0, .int 0, .null, .int 0, .int 0]))] ++ [(a1, .inl (G.2.2.1 0, 8, .inl (fun _ => 0)))] ++ [(a2, .inl (G.2.2.1 0, 7, .inl (fun _ => 0)))] ++ [(a3, .inl (G.2.2.1 0, 7, .inl (fun _ => 0)))] ++ [(a4, .inl (G.2.2.1 0, 7, .inl (fun _ => 0)))] ++ [(a5, .inl (G.2.2.1 0, 7, .inl (fun _ => 0)))] ++ [(a6, .inl (G.2.2.1 0, 7, .inl (fun _ => 0)))] ++ [(a7, .inl (G.2.2.1 0, 7, .inl (fun _ => 0)))] ++ [(a8, .inl (G.2.2.1 0, 7, .inl (fun _ => 0)))] ++ [(a9, .inl (G.2.2.1 0, 8, .inl (fun _ => 0)))] ++ [(a10, .inl (G.2.2.1 0, 8, .inl (fun _ => 0)))]) hN 0 rfl rfl uin_X7 tyX7 tyX7_ok nmX7 17 (Nat.le_of_ble_eq_true rfl) tw_f_RX7_53 rfl rfl rfl (ty := (.array .int)) rfl rfl rfl (Nat.le_of_ble_eq_true rfl) rfl dX7_init_107 ?_
  refine z_aload_n dX7_init_110 rfl ?_
  refine z_bipush (v := 8) dX7_init_111 rfl ?_
  refine z_newi (N := 8) hw tw_o_84 (by decide) (by decide) (by decide) (Nat.le_of_ble_eq_true rfl) (Nat.le_of_ble_eq_true rfl) dX7_init_113 (fun a11 => ?_)
  refine z_putF (fs := [.int 0, .int 8, .int 0, .int 5, .int 1, .int 0, .int 1, .int (-1), .ref a1, .ref a2, .ref a3, .ref a4, .ref a5, .ref a6, .ref a7, .ref a8, .ref a9, .ref a10, .null, .null, .null, .null, .null, .null, .null, .null, .int 0, .int 0, .int 0, .int 0, .int 0, .null, .null, .null, .null, .null, .int 0, .int 0, .int 0, .int 0, .int 0, .int 0, .null, .int 0, .int 0]) (v := .ref a11) (ws' := [(q, .inr (7, [.int 0, .int 8, .int 0, .int 5, .int 1, .int 0, .int 1, .int (-1), .ref a1, .ref a2, .ref a3, .ref a4, .ref a5, .ref a6, .ref a7, .ref a8, .ref a9, .ref a10, .ref a11, .null, .null, .null, .null, .null, .null, .null, .int 0, .int 0, .int 0, .int 0, .int 0, .null, .null, .null, .null, .null, .int 0, .int 0, .int 0, .int 0, .int 0, .int 0, .null, .int 0, .int 0]))] ++ [(a1, .inl (G.2.2.1 0, 8, .inl (fun _ => 0)))] ++ [(a2, .inl (G.2.2.1 0, 7, .inl (fun _ => 0)))] ++ [(a3, .inl (G.2.2.1 0, 7, .inl (fun _ => 0)))] ++ [(a4, .inl (G.2.2.1 0, 7, .inl (fun _ => 0)))] ++ [(a5, .inl (G.2.2.1 0, 7, .inl (fun _ => 0)))] ++ [(a6, .inl (G.2.2.1 0, 7, .inl (fun _ => 0)))] ++ [(a7, .inl (G.2.2.1 0, 7, .inl (fun _ => 0)))] ++ [(a8, .inl (G.2.2.1 0, 7, .inl (fun _ => 0)))] ++ [(a9, .inl (G.2.2.1 0, 8, .inl (fun _ => 0)))] ++ [(a10, .inl (G.2.2.1 0, 8, .inl (fun _ => 0)))] ++ [(a11, .inl (G.2.2.1 0, 8, .inl (fun _ => 0)))]) hN 0 rfl rfl uin_X7 tyX7 tyX7_ok nmX7 18 (Nat.le_of_ble_eq_true rfl) tw_f_RX7_56 rfl rfl rfl (ty := (.array .int)) rfl rfl rfl (Nat.le_of_ble_eq_true rfl) rfl dX7_init_115 ?_
  refine z_aload_n dX7_init_118 rfl ?_
  refine z_bipush (v := 8) dX7_init_119 rfl ?_
  refine z_newi (N := 8) hw tw_o_84 (by decide) (by decide) (by decide) (Nat.le_of_ble_eq_true rfl) (Nat.le_of_ble_eq_true rfl) dX7_init_121 (fun a12 => ?_)
  refine z_putF (fs := [.int 0, .int 8, .int 0, .int 5, .int 1, .int 0, .int 1, .int (-1), .ref a1, .ref a2, .ref a3, .ref a4, .ref a5, .ref a6, .ref a7, .ref a8, .ref a9, .ref a10, .ref a11, .null, .null, .null, .null, .null, .null, .null, .int 0, .int 0, .int 0, .int 0, .int 0, .null, .null, .null, .null, .null, .int 0, .int 0, .int 0, .int 0, .int 0, .int 0, .null, .int 0, .int 0]) (v := .ref a12) (ws' := [(q, .inr (7, [.int 0, .int 8, .int 0, .int 5, .int 1, .int 0, .int 1, .int (-1), .ref a1, .ref a2, .ref a3, .ref a4, .ref a5, .ref a6, .ref a7, .ref a8, .ref a9, .ref a10, .ref a11, .ref a12, .null, .null, .null, .null, .null, .null, .int 0, .int 0, .int 0, .int 0, .int 0, .null, .null, .null, .null, .null, .int 0, .int 0, .int 0, .int 0, .int 0, .int 0, .null, .int 0, .int 0]))] ++ [(a1, .inl (G.2.2.1 0, 8, .inl (fun _ => 0)))] ++ [(a2, .inl (G.2.2.1 0, 7, .inl (fun _ => 0)))] ++ [(a3, .inl (G.2.2.1 0, 7, .inl (fun _ => 0)))] ++ [(a4, .inl (G.2.2.1 0, 7, .inl (fun _ => 0)))] ++ [(a5, .inl (G.2.2.1 0, 7, .inl (fun _ => 0)))] ++ [(a6, .inl (G.2.2.1 0, 7, .inl (fun _ => 0)))] ++ [(a7, .inl (G.2.2.1 0, 7, .inl (fun _ => 0)))] ++ [(a8, .inl (G.2.2.1 0, 7, .inl (fun _ => 0)))] ++ [(a9, .inl (G.2.2.1 0, 8, .inl (fun _ => 0)))] ++ [(a10, .inl (G.2.2.1 0, 8, .inl (fun _ => 0)))] ++ [(a11, .inl (G.2.2.1 0, 8, .inl (fun _ => 0)))] ++ [(a12, .inl (G.2.2.1 0, 8, .inl (fun _ => 0)))]) hN 0 rfl rfl uin_X7 tyX7 tyX7_ok nmX7 19 (Nat.le_of_ble_eq_true rfl) tw_f_RX7_59 rfl rfl rfl (ty := (.array .int)) rfl rfl rfl (Nat.le_of_ble_eq_true rfl) rfl dX7_init_123 ?_
  refine z_aload_n dX7_init_126 rfl ?_
  refine z_sipush (v := 1280) dX7_init_127 rfl ?_
  refine z_newl (N := 1280) hw tw_o_107 (by decide) (by decide) (by decide) (Nat.le_of_ble_eq_true rfl) (Nat.le_of_ble_eq_true rfl) dX7_init_130 (fun a13 => ?_)
  refine z_putF (fs := [.int 0, .int 8, .int 0, .int 5, .int 1, .int 0, .int 1, .int (-1), .ref a1, .ref a2, .ref a3, .ref a4, .ref a5, .ref a6, .ref a7, .ref a8, .ref a9, .ref a10, .ref a11, .ref a12, .null, .null, .null, .null, .null, .null, .int 0, .int 0, .int 0, .int 0, .int 0, .null, .null, .null, .null, .null, .int 0, .int 0, .int 0, .int 0, .int 0, .int 0, .null, .int 0, .int 0]) (v := .ref a13) (ws' := [(q, .inr (7, [.int 0, .int 8, .int 0, .int 5, .int 1, .int 0, .int 1, .int (-1), .ref a1, .ref a2, .ref a3, .ref a4, .ref a5, .ref a6, .ref a7, .ref a8, .ref a9, .ref a10, .ref a11, .ref a12, .ref a13, .null, .null, .null, .null, .null, .int 0, .int 0, .int 0, .int 0, .int 0, .null, .null, .null, .null, .null, .int 0, .int 0, .int 0, .int 0, .int 0, .int 0, .null, .int 0, .int 0]))] ++ [(a1, .inl (G.2.2.1 0, 8, .inl (fun _ => 0)))] ++ [(a2, .inl (G.2.2.1 0, 7, .inl (fun _ => 0)))] ++ [(a3, .inl (G.2.2.1 0, 7, .inl (fun _ => 0)))] ++ [(a4, .inl (G.2.2.1 0, 7, .inl (fun _ => 0)))] ++ [(a5, .inl (G.2.2.1 0, 7, .inl (fun _ => 0)))] ++ [(a6, .inl (G.2.2.1 0, 7, .inl (fun _ => 0)))] ++ [(a7, .inl (G.2.2.1 0, 7, .inl (fun _ => 0)))] ++ [(a8, .inl (G.2.2.1 0, 7, .inl (fun _ => 0)))] ++ [(a9, .inl (G.2.2.1 0, 8, .inl (fun _ => 0)))] ++ [(a10, .inl (G.2.2.1 0, 8, .inl (fun _ => 0)))] ++ [(a11, .inl (G.2.2.1 0, 8, .inl (fun _ => 0)))] ++ [(a12, .inl (G.2.2.1 0, 8, .inl (fun _ => 0)))] ++ [(a13, .inl (G.2.2.1 1, 1280, .inr (.inl (fun _ => 0))))]) hN 0 rfl rfl uin_X7 tyX7 tyX7_ok nmX7 20 (Nat.le_of_ble_eq_true rfl) tw_f_RX7_62 rfl rfl rfl (ty := (.array .long)) rfl rfl rfl (Nat.le_of_ble_eq_true rfl) rfl dX7_init_132 ?_
  refine z_aload_n dX7_init_135 rfl ?_
  refine z_sipush (v := 160) dX7_init_136 rfl ?_
  refine z_newl (N := 160) hw tw_o_107 (by decide) (by decide) (by decide) (Nat.le_of_ble_eq_true rfl) (Nat.le_of_ble_eq_true rfl) dX7_init_139 (fun a14 => ?_)
  refine z_putF (fs := [.int 0, .int 8, .int 0, .int 5, .int 1, .int 0, .int 1, .int (-1), .ref a1, .ref a2, .ref a3, .ref a4, .ref a5, .ref a6, .ref a7, .ref a8, .ref a9, .ref a10, .ref a11, .ref a12, .ref a13, .null, .null, .null, .null, .null, .int 0, .int 0, .int 0, .int 0, .int 0, .null, .null, .null, .null, .null, .int 0, .int 0, .int 0, .int 0, .int 0, .int 0, .null, .int 0, .int 0]) (v := .ref a14) (ws' := [(q, .inr (7, [.int 0, .int 8, .int 0, .int 5, .int 1, .int 0, .int 1, .int (-1), .ref a1, .ref a2, .ref a3, .ref a4, .ref a5, .ref a6, .ref a7, .ref a8, .ref a9, .ref a10, .ref a11, .ref a12, .ref a13, .ref a14, .null, .null, .null, .null, .int 0, .int 0, .int 0, .int 0, .int 0, .null, .null, .null, .null, .null, .int 0, .int 0, .int 0, .int 0, .int 0, .int 0, .null, .int 0, .int 0]))] ++ [(a1, .inl (G.2.2.1 0, 8, .inl (fun _ => 0)))] ++ [(a2, .inl (G.2.2.1 0, 7, .inl (fun _ => 0)))] ++ [(a3, .inl (G.2.2.1 0, 7, .inl (fun _ => 0)))] ++ [(a4, .inl (G.2.2.1 0, 7, .inl (fun _ => 0)))] ++ [(a5, .inl (G.2.2.1 0, 7, .inl (fun _ => 0)))] ++ [(a6, .inl (G.2.2.1 0, 7, .inl (fun _ => 0)))] ++ [(a7, .inl (G.2.2.1 0, 7, .inl (fun _ => 0)))] ++ [(a8, .inl (G.2.2.1 0, 7, .inl (fun _ => 0)))] ++ [(a9, .inl (G.2.2.1 0, 8, .inl (fun _ => 0)))] ++ [(a10, .inl (G.2.2.1 0, 8, .inl (fun _ => 0)))] ++ [(a11, .inl (G.2.2.1 0, 8, .inl (fun _ => 0)))] ++ [(a12, .inl (G.2.2.1 0, 8, .inl (fun _ => 0)))] ++ [(a13, .inl (G.2.2.1 1, 1280, .inr (.inl (fun _ => 0))))] ++ [(a14, .inl (G.2.2.1 1, 160, .inr (.inl (fun _ => 0))))]) hN 0 rfl rfl uin_X7 tyX7 tyX7_ok nmX7 21 (Nat.le_of_ble_eq_true rfl) tw_f_RX7_66 rfl rfl rfl (ty := (.array .long)) rfl rfl rfl (Nat.le_of_ble_eq_true rfl) rfl dX7_init_141 ?_
  refine z_aload_n dX7_init_144 rfl ?_
  refine z_bipush (v := 36) dX7_init_145 rfl ?_
  refine z_newi (N := 36) hw tw_o_84 (by decide) (by decide) (by decide) (Nat.le_of_ble_eq_true rfl) (Nat.le_of_ble_eq_true rfl) dX7_init_147 (fun a15 => ?_)
  refine z_dup dX7_init_149 rfl ?_
  refine z_iconst (v := 0) dX7_init_150 rfl ?_
  refine z_bipush (v := 99) dX7_init_151 rfl ?_
  refine z_iastx (F := fa_fill t_words (fun _ => 0) 1) (ws' := [(q, .inr (7, [.int 0, .int 8, .int 0, .int 5, .int 1, .int 0, .int 1, .int (-1), .ref a1, .ref a2, .ref a3, .ref a4, .ref a5, .ref a6, .ref a7, .ref a8, .ref a9, .ref a10, .ref a11, .ref a12, .ref a13, .ref a14, .null, .null, .null, .null, .int 0, .int 0, .int 0, .int 0, .int 0, .null, .null, .null, .null, .null, .int 0, .int 0, .int 0, .int 0, .int 0, .int 0, .null, .int 0, .int 0]))] ++ [(a1, .inl (G.2.2.1 0, 8, .inl (fun _ => 0)))] ++ [(a2, .inl (G.2.2.1 0, 7, .inl (fun _ => 0)))] ++ [(a3, .inl (G.2.2.1 0, 7, .inl (fun _ => 0)))] ++ [(a4, .inl (G.2.2.1 0, 7, .inl (fun _ => 0)))] ++ [(a5, .inl (G.2.2.1 0, 7, .inl (fun _ => 0)))] ++ [(a6, .inl (G.2.2.1 0, 7, .inl (fun _ => 0)))] ++ [(a7, .inl (G.2.2.1 0, 7, .inl (fun _ => 0)))] ++ [(a8, .inl (G.2.2.1 0, 7, .inl (fun _ => 0)))] ++ [(a9, .inl (G.2.2.1 0, 8, .inl (fun _ => 0)))] ++ [(a10, .inl (G.2.2.1 0, 8, .inl (fun _ => 0)))] ++ [(a11, .inl (G.2.2.1 0, 8, .inl (fun _ => 0)))] ++ [(a12, .inl (G.2.2.1 0, 8, .inl (fun _ => 0)))] ++ [(a13, .inl (G.2.2.1 1, 1280, .inr (.inl (fun _ => 0))))] ++ [(a14, .inl (G.2.2.1 1, 160, .inr (.inl (fun _ => 0))))] ++ [(a15, .inl (G.2.2.1 0, 36, .inl (fa_fill t_words (fun _ => 0) 1)))]) 15 rfl (vin rfl) ((congrArg (fun g => upd g 0 (t_words 0)) (fa_fill_0 t_words (fun _ => 0)).symm).trans (fa_fill_succ t_words (fun _ => 0) 0)) rfl dX7_init_153 ?_
  refine z_dup dX7_init_154 rfl ?_
  refine z_iconst (v := 1) dX7_init_155 rfl ?_
  refine z_bipush (v := 111) dX7_init_156 rfl ?_
  refine z_iastx (F := fa_fill t_words (fun _ => 0) 2) (ws' := [(q, .inr (7, [.int 0, .int 8, .int 0, .int 5, .int 1, .int 0, .int 1, .int (-1), .ref a1, .ref a2, .ref a3, .ref a4, .ref a5, .ref a6, .ref a7, .ref a8, .ref a9, .ref a10, .ref a11, .ref a12, .ref a13, .ref a14, .null, .null, .null, .null, .int 0, .int 0, .int 0, .int 0, .int 0, .null, .null, .null, .null, .null, .int 0, .int 0, .int 0, .int 0, .int 0, .int 0, .null, .int 0, .int 0]))] ++ [(a1, .inl (G.2.2.1 0, 8, .inl (fun _ => 0)))] ++ [(a2, .inl (G.2.2.1 0, 7, .inl (fun _ => 0)))] ++ [(a3, .inl (G.2.2.1 0, 7, .inl (fun _ => 0)))] ++ [(a4, .inl (G.2.2.1 0, 7, .inl (fun _ => 0)))] ++ [(a5, .inl (G.2.2.1 0, 7, .inl (fun _ => 0)))] ++ [(a6, .inl (G.2.2.1 0, 7, .inl (fun _ => 0)))] ++ [(a7, .inl (G.2.2.1 0, 7, .inl (fun _ => 0)))] ++ [(a8, .inl (G.2.2.1 0, 7, .inl (fun _ => 0)))] ++ [(a9, .inl (G.2.2.1 0, 8, .inl (fun _ => 0)))] ++ [(a10, .inl (G.2.2.1 0, 8, .inl (fun _ => 0)))] ++ [(a11, .inl (G.2.2.1 0, 8, .inl (fun _ => 0)))] ++ [(a12, .inl (G.2.2.1 0, 8, .inl (fun _ => 0)))] ++ [(a13, .inl (G.2.2.1 1, 1280, .inr (.inl (fun _ => 0))))] ++ [(a14, .inl (G.2.2.1 1, 160, .inr (.inl (fun _ => 0))))] ++ [(a15, .inl (G.2.2.1 0, 36, .inl (fa_fill t_words (fun _ => 0) 2)))]) 15 rfl (vin rfl) ((fa_fill_succ t_words (fun _ => 0) 1)) rfl dX7_init_158 ?_
  refine z_dup dX7_init_159 rfl ?_
  refine z_iconst (v := 2) dX7_init_160 rfl ?_
  refine z_bipush (v := 109) dX7_init_161 rfl ?_
  refine z_iastx (F := fa_fill t_words (fun _ => 0) 3) (ws' := [(q, .inr (7, [.int 0, .int 8, .int 0, .int 5, .int 1, .int 0, .int 1, .int (-1), .ref a1, .ref a2, .ref a3, .ref a4, .ref a5, .ref a6, .ref a7, .ref a8, .ref a9, .ref a10, .ref a11, .ref a12, .ref a13, .ref a14, .null, .null, .null, .null, .int 0, .int 0, .int 0, .int 0, .int 0, .null, .null, .null, .null, .null, .int 0, .int 0, .int 0, .int 0, .int 0, .int 0, .null, .int 0, .int 0]))] ++ [(a1, .inl (G.2.2.1 0, 8, .inl (fun _ => 0)))] ++ [(a2, .inl (G.2.2.1 0, 7, .inl (fun _ => 0)))] ++ [(a3, .inl (G.2.2.1 0, 7, .inl (fun _ => 0)))] ++ [(a4, .inl (G.2.2.1 0, 7, .inl (fun _ => 0)))] ++ [(a5, .inl (G.2.2.1 0, 7, .inl (fun _ => 0)))] ++ [(a6, .inl (G.2.2.1 0, 7, .inl (fun _ => 0)))] ++ [(a7, .inl (G.2.2.1 0, 7, .inl (fun _ => 0)))] ++ [(a8, .inl (G.2.2.1 0, 7, .inl (fun _ => 0)))] ++ [(a9, .inl (G.2.2.1 0, 8, .inl (fun _ => 0)))] ++ [(a10, .inl (G.2.2.1 0, 8, .inl (fun _ => 0)))] ++ [(a11, .inl (G.2.2.1 0, 8, .inl (fun _ => 0)))] ++ [(a12, .inl (G.2.2.1 0, 8, .inl (fun _ => 0)))] ++ [(a13, .inl (G.2.2.1 1, 1280, .inr (.inl (fun _ => 0))))] ++ [(a14, .inl (G.2.2.1 1, 160, .inr (.inl (fun _ => 0))))] ++ [(a15, .inl (G.2.2.1 0, 36, .inl (fa_fill t_words (fun _ => 0) 3)))]) 15 rfl (vin rfl) ((fa_fill_succ t_words (fun _ => 0) 2)) rfl dX7_init_163 ?_
  refine z_dup dX7_init_164 rfl ?_
  refine z_iconst (v := 3) dX7_init_165 rfl ?_
  refine z_bipush (v := 101) dX7_init_166 rfl ?_
  refine z_iastx (F := fa_fill t_words (fun _ => 0) 4) (ws' := [(q, .inr (7, [.int 0, .int 8, .int 0, .int 5, .int 1, .int 0, .int 1, .int (-1), .ref a1, .ref a2, .ref a3, .ref a4, .ref a5, .ref a6, .ref a7, .ref a8, .ref a9, .ref a10, .ref a11, .ref a12, .ref a13, .ref a14, .null, .null, .null, .null, .int 0, .int 0, .int 0, .int 0, .int 0, .null, .null, .null, .null, .null, .int 0, .int 0, .int 0, .int 0, .int 0, .int 0, .null, .int 0, .int 0]))] ++ [(a1, .inl (G.2.2.1 0, 8, .inl (fun _ => 0)))] ++ [(a2, .inl (G.2.2.1 0, 7, .inl (fun _ => 0)))] ++ [(a3, .inl (G.2.2.1 0, 7, .inl (fun _ => 0)))] ++ [(a4, .inl (G.2.2.1 0, 7, .inl (fun _ => 0)))] ++ [(a5, .inl (G.2.2.1 0, 7, .inl (fun _ => 0)))] ++ [(a6, .inl (G.2.2.1 0, 7, .inl (fun _ => 0)))] ++ [(a7, .inl (G.2.2.1 0, 7, .inl (fun _ => 0)))] ++ [(a8, .inl (G.2.2.1 0, 7, .inl (fun _ => 0)))] ++ [(a9, .inl (G.2.2.1 0, 8, .inl (fun _ => 0)))] ++ [(a10, .inl (G.2.2.1 0, 8, .inl (fun _ => 0)))] ++ [(a11, .inl (G.2.2.1 0, 8, .inl (fun _ => 0)))] ++ [(a12, .inl (G.2.2.1 0, 8, .inl (fun _ => 0)))] ++ [(a13, .inl (G.2.2.1 1, 1280, .inr (.inl (fun _ => 0))))] ++ [(a14, .inl (G.2.2.1 1, 160, .inr (.inl (fun _ => 0))))] ++ [(a15, .inl (G.2.2.1 0, 36, .inl (fa_fill t_words (fun _ => 0) 4)))]) 15 rfl (vin rfl) ((fa_fill_succ t_words (fun _ => 0) 3)) rfl dX7_init_168 ?_
  refine z_dup dX7_init_169 rfl ?_
  refine z_iconst (v := 4) dX7_init_170 rfl ?_
  refine z_bipush (v := 114) dX7_init_171 rfl ?_
  refine z_iastx (F := fa_fill t_words (fun _ => 0) 5) (ws' := [(q, .inr (7, [.int 0, .int 8, .int 0, .int 5, .int 1, .int 0, .int 1, .int (-1), .ref a1, .ref a2, .ref a3, .ref a4, .ref a5, .ref a6, .ref a7, .ref a8, .ref a9, .ref a10, .ref a11, .ref a12, .ref a13, .ref a14, .null, .null, .null, .null, .int 0, .int 0, .int 0, .int 0, .int 0, .null, .null, .null, .null, .null, .int 0, .int 0, .int 0, .int 0, .int 0, .int 0, .null, .int 0, .int 0]))] ++ [(a1, .inl (G.2.2.1 0, 8, .inl (fun _ => 0)))] ++ [(a2, .inl (G.2.2.1 0, 7, .inl (fun _ => 0)))] ++ [(a3, .inl (G.2.2.1 0, 7, .inl (fun _ => 0)))] ++ [(a4, .inl (G.2.2.1 0, 7, .inl (fun _ => 0)))] ++ [(a5, .inl (G.2.2.1 0, 7, .inl (fun _ => 0)))] ++ [(a6, .inl (G.2.2.1 0, 7, .inl (fun _ => 0)))] ++ [(a7, .inl (G.2.2.1 0, 7, .inl (fun _ => 0)))] ++ [(a8, .inl (G.2.2.1 0, 7, .inl (fun _ => 0)))] ++ [(a9, .inl (G.2.2.1 0, 8, .inl (fun _ => 0)))] ++ [(a10, .inl (G.2.2.1 0, 8, .inl (fun _ => 0)))] ++ [(a11, .inl (G.2.2.1 0, 8, .inl (fun _ => 0)))] ++ [(a12, .inl (G.2.2.1 0, 8, .inl (fun _ => 0)))] ++ [(a13, .inl (G.2.2.1 1, 1280, .inr (.inl (fun _ => 0))))] ++ [(a14, .inl (G.2.2.1 1, 160, .inr (.inl (fun _ => 0))))] ++ [(a15, .inl (G.2.2.1 0, 36, .inl (fa_fill t_words (fun _ => 0) 5)))]) 15 rfl (vin rfl) ((fa_fill_succ t_words (fun _ => 0) 4)) rfl dX7_init_173 ?_
  refine z_dup dX7_init_174 rfl ?_
  refine z_iconst (v := 5) dX7_init_175 rfl ?_
  refine z_bipush (v := 32) dX7_init_176 rfl ?_
  refine z_iastx (F := fa_fill t_words (fun _ => 0) 6) (ws' := [(q, .inr (7, [.int 0, .int 8, .int 0, .int 5, .int 1, .int 0, .int 1, .int (-1), .ref a1, .ref a2, .ref a3, .ref a4, .ref a5, .ref a6, .ref a7, .ref a8, .ref a9, .ref a10, .ref a11, .ref a12, .ref a13, .ref a14, .null, .null, .null, .null, .int 0, .int 0, .int 0, .int 0, .int 0, .null, .null, .null, .null, .null, .int 0, .int 0, .int 0, .int 0, .int 0, .int 0, .null, .int 0, .int 0]))] ++ [(a1, .inl (G.2.2.1 0, 8, .inl (fun _ => 0)))] ++ [(a2, .inl (G.2.2.1 0, 7, .inl (fun _ => 0)))] ++ [(a3, .inl (G.2.2.1 0, 7, .inl (fun _ => 0)))] ++ [(a4, .inl (G.2.2.1 0, 7, .inl (fun _ => 0)))] ++ [(a5, .inl (G.2.2.1 0, 7, .inl (fun _ => 0)))] ++ [(a6, .inl (G.2.2.1 0, 7, .inl (fun _ => 0)))] ++ [(a7, .inl (G.2.2.1 0, 7, .inl (fun _ => 0)))] ++ [(a8, .inl (G.2.2.1 0, 7, .inl (fun _ => 0)))] ++ [(a9, .inl (G.2.2.1 0, 8, .inl (fun _ => 0)))] ++ [(a10, .inl (G.2.2.1 0, 8, .inl (fun _ => 0)))] ++ [(a11, .inl (G.2.2.1 0, 8, .inl (fun _ => 0)))] ++ [(a12, .inl (G.2.2.1 0, 8, .inl (fun _ => 0)))] ++ [(a13, .inl (G.2.2.1 1, 1280, .inr (.inl (fun _ => 0))))] ++ [(a14, .inl (G.2.2.1 1, 160, .inr (.inl (fun _ => 0))))] ++ [(a15, .inl (G.2.2.1 0, 36, .inl (fa_fill t_words (fun _ => 0) 6)))]) 15 rfl (vin rfl) ((fa_fill_succ t_words (fun _ => 0) 5)) rfl dX7_init_178 ?_
  refine z_dup dX7_init_179 rfl ?_
  refine z_bipush (v := 6) dX7_init_180 rfl ?_
  refine z_iconst (v := 0) dX7_init_182 rfl ?_
  refine z_iastx (F := fa_fill t_words (fun _ => 0) 7) (ws' := [(q, .inr (7, [.int 0, .int 8, .int 0, .int 5, .int 1, .int 0, .int 1, .int (-1), .ref a1, .ref a2, .ref a3, .ref a4, .ref a5, .ref a6, .ref a7, .ref a8, .ref a9, .ref a10, .ref a11, .ref a12, .ref a13, .ref a14, .null, .null, .null, .null, .int 0, .int 0, .int 0, .int 0, .int 0, .null, .null, .null, .null, .null, .int 0, .int 0, .int 0, .int 0, .int 0, .int 0, .null, .int 0, .int 0]))] ++ [(a1, .inl (G.2.2.1 0, 8, .inl (fun _ => 0)))] ++ [(a2, .inl (G.2.2.1 0, 7, .inl (fun _ => 0)))] ++ [(a3, .inl (G.2.2.1 0, 7, .inl (fun _ => 0)))] ++ [(a4, .inl (G.2.2.1 0, 7, .inl (fun _ => 0)))] ++ [(a5, .inl (G.2.2.1 0, 7, .inl (fun _ => 0)))] ++ [(a6, .inl (G.2.2.1 0, 7, .inl (fun _ => 0)))] ++ [(a7, .inl (G.2.2.1 0, 7, .inl (fun _ => 0)))] ++ [(a8, .inl (G.2.2.1 0, 7, .inl (fun _ => 0)))] ++ [(a9, .inl (G.2.2.1 0, 8, .inl (fun _ => 0)))] ++ [(a10, .inl (G.2.2.1 0, 8, .inl (fun _ => 0)))] ++ [(a11, .inl (G.2.2.1 0, 8, .inl (fun _ => 0)))] ++ [(a12, .inl (G.2.2.1 0, 8, .inl (fun _ => 0)))] ++ [(a13, .inl (G.2.2.1 1, 1280, .inr (.inl (fun _ => 0))))] ++ [(a14, .inl (G.2.2.1 1, 160, .inr (.inl (fun _ => 0))))] ++ [(a15, .inl (G.2.2.1 0, 36, .inl (fa_fill t_words (fun _ => 0) 7)))]) 15 rfl (vin rfl) ((fa_fill_succ t_words (fun _ => 0) 6)) rfl dX7_init_183 ?_
  refine z_dup dX7_init_184 rfl ?_
  refine z_bipush (v := 7) dX7_init_185 rfl ?_
  refine z_bipush (v := 100) dX7_init_187 rfl ?_
  refine z_iastx (F := fa_fill t_words (fun _ => 0) 8) (ws' := [(q, .inr (7, [.int 0, .int 8, .int 0, .int 5, .int 1, .int 0, .int 1, .int (-1), .ref a1, .ref a2, .ref a3, .ref a4, .ref a5, .ref a6, .ref a7, .ref a8, .ref a9, .ref a10, .ref a11, .ref a12, .ref a13, .ref a14, .null, .null, .null, .null, .int 0, .int 0, .int 0, .int 0, .int 0, .null, .null, .null, .null, .null, .int 0, .int 0, .int 0, .int 0, .int 0, .int 0, .null, .int 0, .int 0]))] ++ [(a1, .inl (G.2.2.1 0, 8, .inl (fun _ => 0)))] ++ [(a2, .inl (G.2.2.1 0, 7, .inl (fun _ => 0)))] ++ [(a3, .inl (G.2.2.1 0, 7, .inl (fun _ => 0)))] ++ [(a4, .inl (G.2.2.1 0, 7, .inl (fun _ => 0)))] ++ [(a5, .inl (G.2.2.1 0, 7, .inl (fun _ => 0)))] ++ [(a6, .inl (G.2.2.1 0, 7, .inl (fun _ => 0)))] ++ [(a7, .inl (G.2.2.1 0, 7, .inl (fun _ => 0)))] ++ [(a8, .inl (G.2.2.1 0, 7, .inl (fun _ => 0)))] ++ [(a9, .inl (G.2.2.1 0, 8, .inl (fun _ => 0)))] ++ [(a10, .inl (G.2.2.1 0, 8, .inl (fun _ => 0)))] ++ [(a11, .inl (G.2.2.1 0, 8, .inl (fun _ => 0)))] ++ [(a12, .inl (G.2.2.1 0, 8, .inl (fun _ => 0)))] ++ [(a13, .inl (G.2.2.1 1, 1280, .inr (.inl (fun _ => 0))))] ++ [(a14, .inl (G.2.2.1 1, 160, .inr (.inl (fun _ => 0))))] ++ [(a15, .inl (G.2.2.1 0, 36, .inl (fa_fill t_words (fun _ => 0) 8)))]) 15 rfl (vin rfl) ((fa_fill_succ t_words (fun _ => 0) 7)) rfl dX7_init_189 ?_
  refine z_dup dX7_init_190 rfl ?_
  refine z_bipush (v := 8) dX7_init_191 rfl ?_
  refine z_bipush (v := 111) dX7_init_193 rfl ?_
  refine z_iastx (F := fa_fill t_words (fun _ => 0) 9) (ws' := [(q, .inr (7, [.int 0, .int 8, .int 0, .int 5, .int 1, .int 0, .int 1, .int (-1), .ref a1, .ref a2, .ref a3, .ref a4, .ref a5, .ref a6, .ref a7, .ref a8, .ref a9, .ref a10, .ref a11, .ref a12, .ref a13, .ref a14, .null, .null, .null, .null, .int 0, .int 0, .int 0, .int 0, .int 0, .null, .null, .null, .null, .null, .int 0, .int 0, .int 0, .int 0, .int 0, .int 0, .null, .int 0, .int 0]))] ++ [(a1, .inl (G.2.2.1 0, 8, .inl (fun _ => 0)))] ++ [(a2, .inl (G.2.2.1 0, 7, .inl (fun _ => 0)))] ++ [(a3, .inl (G.2.2.1 0, 7, .inl (fun _ => 0)))] ++ [(a4, .inl (G.2.2.1 0, 7, .inl (fun _ => 0)))] ++ [(a5, .inl (G.2.2.1 0, 7, .inl (fun _ => 0)))] ++ [(a6, .inl (G.2.2.1 0, 7, .inl (fun _ => 0)))] ++ [(a7, .inl (G.2.2.1 0, 7, .inl (fun _ => 0)))] ++ [(a8, .inl (G.2.2.1 0, 7, .inl (fun _ => 0)))] ++ [(a9, .inl (G.2.2.1 0, 8, .inl (fun _ => 0)))] ++ [(a10, .inl (G.2.2.1 0, 8, .inl (fun _ => 0)))] ++ [(a11, .inl (G.2.2.1 0, 8, .inl (fun _ => 0)))] ++ [(a12, .inl (G.2.2.1 0, 8, .inl (fun _ => 0)))] ++ [(a13, .inl (G.2.2.1 1, 1280, .inr (.inl (fun _ => 0))))] ++ [(a14, .inl (G.2.2.1 1, 160, .inr (.inl (fun _ => 0))))] ++ [(a15, .inl (G.2.2.1 0, 36, .inl (fa_fill t_words (fun _ => 0) 9)))]) 15 rfl (vin rfl) ((fa_fill_succ t_words (fun _ => 0) 8)) rfl dX7_init_195 ?_
  refine z_dup dX7_init_196 rfl ?_
  refine z_bipush (v := 9) dX7_init_197 rfl ?_
  refine z_bipush (v := 117) dX7_init_199 rfl ?_
  refine z_iastx (F := fa_fill t_words (fun _ => 0) 10) (ws' := [(q, .inr (7, [.int 0, .int 8, .int 0, .int 5, .int 1, .int 0, .int 1, .int (-1), .ref a1, .ref a2, .ref a3, .ref a4, .ref a5, .ref a6, .ref a7, .ref a8, .ref a9, .ref a10, .ref a11, .ref a12, .ref a13, .ref a14, .null, .null, .null, .null, .int 0, .int 0, .int 0, .int 0, .int 0, .null, .null, .null, .null, .null, .int 0, .int 0, .int 0, .int 0, .int 0, .int 0, .null, .int 0, .int 0]))] ++ [(a1, .inl (G.2.2.1 0, 8, .inl (fun _ => 0)))] ++ [(a2, .inl (G.2.2.1 0, 7, .inl (fun _ => 0)))] ++ [(a3, .inl (G.2.2.1 0, 7, .inl (fun _ => 0)))] ++ [(a4, .inl (G.2.2.1 0, 7, .inl (fun _ => 0)))] ++ [(a5, .inl (G.2.2.1 0, 7, .inl (fun _ => 0)))] ++ [(a6, .inl (G.2.2.1 0, 7, .inl (fun _ => 0)))] ++ [(a7, .inl (G.2.2.1 0, 7, .inl (fun _ => 0)))] ++ [(a8, .inl (G.2.2.1 0, 7, .inl (fun _ => 0)))] ++ [(a9, .inl (G.2.2.1 0, 8, .inl (fun _ => 0)))] ++ [(a10, .inl (G.2.2.1 0, 8, .inl (fun _ => 0)))] ++ [(a11, .inl (G.2.2.1 0, 8, .inl (fun _ => 0)))] ++ [(a12, .inl (G.2.2.1 0, 8, .inl (fun _ => 0)))] ++ [(a13, .inl (G.2.2.1 1, 1280, .inr (.inl (fun _ => 0))))] ++ [(a14, .inl (G.2.2.1 1, 160, .inr (.inl (fun _ => 0))))] ++ [(a15, .inl (G.2.2.1 0, 36, .inl (fa_fill t_words (fun _ => 0) 10)))]) 15 rfl (vin rfl) ((fa_fill_succ t_words (fun _ => 0) 9)) rfl dX7_init_201 ?_
  refine z_dup dX7_init_202 rfl ?_
  refine z_bipush (v := 10) dX7_init_203 rfl ?_
  refine z_bipush (v := 98) dX7_init_205 rfl ?_
  refine z_iastx (F := fa_fill t_words (fun _ => 0) 11) (ws' := [(q, .inr (7, [.int 0, .int 8, .int 0, .int 5, .int 1, .int 0, .int 1, .int (-1), .ref a1, .ref a2, .ref a3, .ref a4, .ref a5, .ref a6, .ref a7, .ref a8, .ref a9, .ref a10, .ref a11, .ref a12, .ref a13, .ref a14, .null, .null, .null, .null, .int 0, .int 0, .int 0, .int 0, .int 0, .null, .null, .null, .null, .null, .int 0, .int 0, .int 0, .int 0, .int 0, .int 0, .null, .int 0, .int 0]))] ++ [(a1, .inl (G.2.2.1 0, 8, .inl (fun _ => 0)))] ++ [(a2, .inl (G.2.2.1 0, 7, .inl (fun _ => 0)))] ++ [(a3, .inl (G.2.2.1 0, 7, .inl (fun _ => 0)))] ++ [(a4, .inl (G.2.2.1 0, 7, .inl (fun _ => 0)))] ++ [(a5, .inl (G.2.2.1 0, 7, .inl (fun _ => 0)))] ++ [(a6, .inl (G.2.2.1 0, 7, .inl (fun _ => 0)))] ++ [(a7, .inl (G.2.2.1 0, 7, .inl (fun _ => 0)))] ++ [(a8, .inl (G.2.2.1 0, 7, .inl (fun _ => 0)))] ++ [(a9, .inl (G.2.2.1 0, 8, .inl (fun _ => 0)))] ++ [(a10, .inl (G.2.2.1 0, 8, .inl (fun _ => 0)))] ++ [(a11, .inl (G.2.2.1 0, 8, .inl (fun _ => 0)))] ++ [(a12, .inl (G.2.2.1 0, 8, .inl (fun _ => 0)))] ++ [(a13, .inl (G.2.2.1 1, 1280, .inr (.inl (fun _ => 0))))] ++ [(a14, .inl (G.2.2.1 1, 160, .inr (.inl (fun _ => 0))))] ++ [(a15, .inl (G.2.2.1 0, 36, .inl (fa_fill t_words (fun _ => 0) 11)))]) 15 rfl (vin rfl) ((fa_fill_succ t_words (fun _ => 0) 10)) rfl dX7_init_207 ?_
  refine z_dup dX7_init_208 rfl ?_
  refine z_bipush (v := 11) dX7_init_209 rfl ?_
  refine z_bipush (v := 116) dX7_init_211 rfl ?_
  refine z_iastx (F := fa_fill t_words (fun _ => 0) 12) (ws' := [(q, .inr (7, [.int 0, .int 8, .int 0, .int 5, .int 1, .int 0, .int 1, .int (-1), .ref a1, .ref a2, .ref a3, .ref a4, .ref a5, .ref a6, .ref a7, .ref a8, .ref a9, .ref a10, .ref a11, .ref a12, .ref a13, .ref a14, .null, .null, .null, .null, .int 0, .int 0, .int 0, .int 0, .int 0, .null, .null, .null, .null, .null, .int 0, .int 0, .int 0, .int 0, .int 0, .int 0, .null, .int 0, .int 0]))] ++ [(a1, .inl (G.2.2.1 0, 8, .inl (fun _ => 0)))] ++ [(a2, .inl (G.2.2.1 0, 7, .inl (fun _ => 0)))] ++ [(a3, .inl (G.2.2.1 0, 7, .inl (fun _ => 0)))] ++ [(a4, .inl (G.2.2.1 0, 7, .inl (fun _ => 0)))] ++ [(a5, .inl (G.2.2.1 0, 7, .inl (fun _ => 0)))] ++ [(a6, .inl (G.2.2.1 0, 7, .inl (fun _ => 0)))] ++ [(a7, .inl (G.2.2.1 0, 7, .inl (fun _ => 0)))] ++ [(a8, .inl (G.2.2.1 0, 7, .inl (fun _ => 0)))] ++ [(a9, .inl (G.2.2.1 0, 8, .inl (fun _ => 0)))] ++ [(a10, .inl (G.2.2.1 0, 8, .inl (fun _ => 0)))] ++ [(a11, .inl (G.2.2.1 0, 8, .inl (fun _ => 0)))] ++ [(a12, .inl (G.2.2.1 0, 8, .inl (fun _ => 0)))] ++ [(a13, .inl (G.2.2.1 1, 1280, .inr (.inl (fun _ => 0))))] ++ [(a14, .inl (G.2.2.1 1, 160, .inr (.inl (fun _ => 0))))] ++ [(a15, .inl (G.2.2.1 0, 36, .inl (fa_fill t_words (fun _ => 0) 12)))]) 15 rfl (vin rfl) ((fa_fill_succ t_words (fun _ => 0) 11)) rfl dX7_init_213 ?_
  refine z_dup dX7_init_214 rfl ?_
  refine z_bipush (v := 12) dX7_init_215 rfl ?_
  refine z_bipush (v := 32) dX7_init_217 rfl ?_
  refine z_iastx (F := fa_fill t_words (fun _ => 0) 13) (ws' := [(q, .inr (7, [.int 0, .int 8, .int 0, .int 5, .int 1, .int 0, .int 1, .int (-1), .ref a1, .ref a2, .ref a3, .ref a4, .ref a5, .ref a6, .ref a7, .ref a8, .ref a9, .ref a10, .ref a11, .ref a12, .ref a13, .ref a14, .null, .null, .null, .null, .int 0, .int 0, .int 0, .int 0, .int 0, .null, .null, .null, .null, .null, .int 0, .int 0, .int 0, .int 0, .int 0, .int 0, .null, .int 0, .int 0]))] ++ [(a1, .inl (G.2.2.1 0, 8, .inl (fun _ => 0)))] ++ [(a2, .inl (G.2.2.1 0, 7, .inl (fun _ => 0)))] ++ [(a3, .inl (G.2.2.1 0, 7, .inl (fun _ => 0)))] ++ [(a4, .inl (G.2.2.1 0, 7, .inl (fun _ => 0)))] ++ [(a5, .inl (G.2.2.1 0, 7, .inl (fun _ => 0)))] ++ [(a6, .inl (G.2.2.1 0, 7, .inl (fun _ => 0)))] ++ [(a7, .inl (G.2.2.1 0, 7, .inl (fun _ => 0)))] ++ [(a8, .inl (G.2.2.1 0, 7, .inl (fun _ => 0)))] ++ [(a9, .inl (G.2.2.1 0, 8, .inl (fun _ => 0)))] ++ [(a10, .inl (G.2.2.1 0, 8, .inl (fun _ => 0)))] ++ [(a11, .inl (G.2.2.1 0, 8, .inl (fun _ => 0)))] ++ [(a12, .inl (G.2.2.1 0, 8, .inl (fun _ => 0)))] ++ [(a13, .inl (G.2.2.1 1, 1280, .inr (.inl (fun _ => 0))))] ++ [(a14, .inl (G.2.2.1 1, 160, .inr (.inl (fun _ => 0))))] ++ [(a15, .inl (G.2.2.1 0, 36, .inl (fa_fill t_words (fun _ => 0) 13)))]) 15 rfl (vin rfl) ((fa_fill_succ t_words (fun _ => 0) 12)) rfl dX7_init_219 ?_
  refine z_dup dX7_init_220 rfl ?_
  refine z_bipush (v := 13) dX7_init_221 rfl ?_
  refine z_iconst (v := 0) dX7_init_223 rfl ?_
  refine z_iastx (F := fa_fill t_words (fun _ => 0) 14) (ws' := [(q, .inr (7, [.int 0, .int 8, .int 0, .int 5, .int 1, .int 0, .int 1, .int (-1), .ref a1, .ref a2, .ref a3, .ref a4, .ref a5, .ref a6, .ref a7, .ref a8, .ref a9, .ref a10, .ref a11, .ref a12, .ref a13, .ref a14, .null, .null, .null, .null, .int 0, .int 0, .int 0, .int 0, .int 0, .null, .null, .null, .null, .null, .int 0, .int 0, .int 0, .int 0, .int 0, .int 0, .null, .int 0, .int 0]))] ++ [(a1, .inl (G.2.2.1 0, 8, .inl (fun _ => 0)))] ++ [(a2, .inl (G.2.2.1 0, 7, .inl (fun _ => 0)))] ++ [(a3, .inl (G.2.2.1 0, 7, .inl (fun _ => 0)))] ++ [(a4, .inl (G.2.2.1 0, 7, .inl (fun _ => 0)))] ++ [(a5, .inl (G.2.2.1 0, 7, .inl (fun _ => 0)))] ++ [(a6, .inl (G.2.2.1 0, 7, .inl (fun _ => 0)))] ++ [(a7, .inl (G.2.2.1 0, 7, .inl (fun _ => 0)))] ++ [(a8, .inl (G.2.2.1 0, 7, .inl (fun _ => 0)))] ++ [(a9, .inl (G.2.2.1 0, 8, .inl (fun _ => 0)))] ++ [(a10, .inl (G.2.2.1 0, 8, .inl (fun _ => 0)))] ++ [(a11, .inl (G.2.2.1 0, 8, .inl (fun _ => 0)))] ++ [(a12, .inl (G.2.2.1 0, 8, .inl (fun _ => 0)))] ++ [(a13, .inl (G.2.2.1 1, 1280, .inr (.inl (fun _ => 0))))] ++ [(a14, .inl (G.2.2.1 1, 160, .inr (.inl (fun _ => 0))))] ++ [(a15, .inl (G.2.2.1 0, 36, .inl (fa_fill t_words (fun _ => 0) 14)))]) 15 rfl (vin rfl) ((fa_fill_succ t_words (fun _ => 0) 13)) rfl dX7_init_224 ?_
  refine z_dup dX7_init_225 rfl ?_
  refine z_bipush (v := 14) dX7_init_226 rfl ?_
  refine z_bipush (v := 119) dX7_init_228 rfl ?_
  refine z_iastx (F := fa_fill t_words (fun _ => 0) 15) (ws' := [(q, .inr (7, [.int 0, .int 8, .int 0, .int 5, .int 1, .int 0, .int 1, .int (-1), .ref a1, .ref a2, .ref a3, .ref a4, .ref a5, .ref a6, .ref a7, .ref a8, .ref a9, .ref a10, .ref a11, .ref a12, .ref a13, .ref a14, .null, .null, .null, .null, .int 0, .int 0, .int 0, .int 0, .int 0, .null, .null, .null, .null, .null, .int 0, .int 0, .int 0, .int 0, .int 0, .int 0, .null, .int 0, .int 0]))] ++ [(a1, .inl (G.2.2.1 0, 8, .inl (fun _ => 0)))] ++ [(a2, .inl (G.2.2.1 0, 7, .inl (fun _ => 0)))] ++ [(a3, .inl (G.2.2.1 0, 7, .inl (fun _ => 0)))] ++ [(a4, .inl (G.2.2.1 0, 7, .inl (fun _ => 0)))] ++ [(a5, .inl (G.2.2.1 0, 7, .inl (fun _ => 0)))] ++ [(a6, .inl (G.2.2.1 0, 7, .inl (fun _ => 0)))] ++ [(a7, .inl (G.2.2.1 0, 7, .inl (fun _ => 0)))] ++ [(a8, .inl (G.2.2.1 0, 7, .inl (fun _ => 0)))] ++ [(a9, .inl (G.2.2.1 0, 8, .inl (fun _ => 0)))] ++ [(a10, .inl (G.2.2.1 0, 8, .inl (fun _ => 0)))] ++ [(a11, .inl (G.2.2.1 0, 8, .inl (fun _ => 0)))] ++ [(a12, .inl (G.2.2.1 0, 8, .inl (fun _ => 0)))] ++ [(a13, .inl (G.2.2.1 1, 1280, .inr (.inl (fun _ => 0))))] ++ [(a14, .inl (G.2.2.1 1, 160, .inr (.inl (fun _ => 0))))] ++ [(a15, .inl (G.2.2.1 0, 36, .inl (fa_fill t_words (fun _ => 0) 15)))]) 15 rfl (vin rfl) ((fa_fill_succ t_words (fun _ => 0) 14)) rfl dX7_init_230 ?_
  refine z_dup dX7_init_231 rfl ?_
  refine z_bipush (v := 15) dX7_init_232 rfl ?_
  refine z_bipush (v := 97) dX7_init_234 rfl ?_
  refine z_iastx (F := fa_fill t_words (fun _ => 0) 16) (ws' := [(q, .inr (7, [.int 0, .int 8, .int 0, .int 5, .int 1, .int 0, .int 1, .int (-1), .ref a1, .ref a2, .ref a3, .ref a4, .ref a5, .ref a6, .ref a7, .ref a8, .ref a9, .ref a10, .ref a11, .ref a12, .ref a13, .ref a14, .null, .null, .null, .null, .int 0, .int 0, .int 0, .int 0, .int 0, .null, .null, .null, .null, .null, .int 0, .int 0, .int 0, .int 0, .int 0, .int 0, .null, .int 0, .int 0]))] ++ [(a1, .inl (G.2.2.1 0, 8, .inl (fun _ => 0)))] ++ [(a2, .inl (G.2.2.1 0, 7, .inl (fun _ => 0)))] ++ [(a3, .inl (G.2.2.1 0, 7, .inl (fun _ => 0)))] ++ [(a4, .inl (G.2.2.1 0, 7, .inl (fun _ => 0)))] ++ [(a5, .inl (G.2.2.1 0, 7, .inl (fun _ => 0)))] ++ [(a6, .inl (G.2.2.1 0, 7, .inl (fun _ => 0)))] ++ [(a7, .inl (G.2.2.1 0, 7, .inl (fun _ => 0)))] ++ [(a8, .inl (G.2.2.1 0, 7, .inl (fun _ => 0)))] ++ [(a9, .inl (G.2.2.1 0, 8, .inl (fun _ => 0)))] ++ [(a10, .inl (G.2.2.1 0, 8, .inl (fun _ => 0)))] ++ [(a11, .inl (G.2.2.1 0, 8, .inl (fun _ => 0)))] ++ [(a12, .inl (G.2.2.1 0, 8, .inl (fun _ => 0)))] ++ [(a13, .inl (G.2.2.1 1, 1280, .inr (.inl (fun _ => 0))))] ++ [(a14, .inl (G.2.2.1 1, 160, .inr (.inl (fun _ => 0))))] ++ [(a15, .inl (G.2.2.1 0, 36, .inl (fa_fill t_words (fun _ => 0) 16)))]) 15 rfl (vin rfl) ((fa_fill_succ t_words (fun _ => 0) 15)) rfl dX7_init_236 ?_
  refine z_dup dX7_init_237 rfl ?_
  refine z_bipush (v := 16) dX7_init_238 rfl ?_
  refine z_bipush (v := 121) dX7_init_240 rfl ?_
  refine z_iastx (F := fa_fill t_words (fun _ => 0) 17) (ws' := [(q, .inr (7, [.int 0, .int 8, .int 0, .int 5, .int 1, .int 0, .int 1, .int (-1), .ref a1, .ref a2, .ref a3, .ref a4, .ref a5, .ref a6, .ref a7, .ref a8, .ref a9, .ref a10, .ref a11, .ref a12, .ref a13, .ref a14, .null, .null, .null, .null, .int 0, .int 0, .int 0, .int 0, .int 0, .null, .null, .null, .null, .null, .int 0, .int 0, .int 0, .int 0, .int 0, .int 0, .null, .int 0, .int 0]))] ++ [(a1, .inl (G.2.2.1 0, 8, .inl (fun _ => 0)))] ++ [(a2, .inl (G.2.2.1 0, 7, .inl (fun _ => 0)))] ++ [(a3, .inl (G.2.2.1 0, 7, .inl (fun _ => 0)))] ++ [(a4, .inl (G.2.2.1 0, 7, .inl (fun _ => 0)))] ++ [(a5, .inl (G.2.2.1 0, 7, .inl (fun _ => 0)))] ++ [(a6, .inl (G.2.2.1 0, 7, .inl (fun _ => 0)))] ++ [(a7, .inl (G.2.2.1 0, 7, .inl (fun _ => 0)))] ++ [(a8, .inl (G.2.2.1 0, 7, .inl (fun _ => 0)))] ++ [(a9, .inl (G.2.2.1 0, 8, .inl (fun _ => 0)))] ++ [(a10, .inl (G.2.2.1 0, 8, .inl (fun _ => 0)))] ++ [(a11, .inl (G.2.2.1 0, 8, .inl (fun _ => 0)))] ++ [(a12, .inl (G.2.2.1 0, 8, .inl (fun _ => 0)))] ++ [(a13, .inl (G.2.2.1 1, 1280, .inr (.inl (fun _ => 0))))] ++ [(a14, .inl (G.2.2.1 1, 160, .inr (.inl (fun _ => 0))))] ++ [(a15, .inl (G.2.2.1 0, 36, .inl (fa_fill t_words (fun _ => 0) 17)))]) 15 rfl (vin rfl) ((fa_fill_succ t_words (fun _ => 0) 16)) rfl dX7_init_242 ?_
  refine z_dup dX7_init_243 rfl ?_
  refine z_bipush (v := 17) dX7_init_244 rfl ?_
  refine z_bipush (v := 32) dX7_init_246 rfl ?_
  refine z_iastx (F := fa_fill t_words (fun _ => 0) 18) (ws' := [(q, .inr (7, [.int 0, .int 8, .int 0, .int 5, .int 1, .int 0, .int 1, .int (-1), .ref a1, .ref a2, .ref a3, .ref a4, .ref a5, .ref a6, .ref a7, .ref a8, .ref a9, .ref a10, .ref a11, .ref a12, .ref a13, .ref a14, .null, .null, .null, .null, .int 0, .int 0, .int 0, .int 0, .int 0, .null, .null, .null, .null, .null, .int 0, .int 0, .int 0, .int 0, .int 0, .int 0, .null, .int 0, .int 0]))] ++ [(a1, .inl (G.2.2.1 0, 8, .inl (fun _ => 0)))] ++ [(a2, .inl (G.2.2.1 0, 7, .inl (fun _ => 0)))] ++ [(a3, .inl (G.2.2.1 0, 7, .inl (fun _ => 0)))] ++ [(a4, .inl (G.2.2.1 0, 7, .inl (fun _ => 0)))] ++ [(a5, .inl (G.2.2.1 0, 7, .inl (fun _ => 0)))] ++ [(a6, .inl (G.2.2.1 0, 7, .inl (fun _ => 0)))] ++ [(a7, .inl (G.2.2.1 0, 7, .inl (fun _ => 0)))] ++ [(a8, .inl (G.2.2.1 0, 7, .inl (fun _ => 0)))] ++ [(a9, .inl (G.2.2.1 0, 8, .inl (fun _ => 0)))] ++ [(a10, .inl (G.2.2.1 0, 8, .inl (fun _ => 0)))] ++ [(a11, .inl (G.2.2.1 0, 8, .inl (fun _ => 0)))] ++ [(a12, .inl (G.2.2.1 0, 8, .inl (fun _ => 0)))] ++ [(a13, .inl (G.2.2.1 1, 1280, .inr (.inl (fun _ => 0))))] ++ [(a14, .inl (G.2.2.1 1, 160, .inr (.inl (fun _ => 0))))] ++ [(a15, .inl (G.2.2.1 0, 36, .inl (fa_fill t_words (fun _ => 0) 18)))]) 15 rfl (vin rfl) ((fa_fill_succ t_words (fun _ => 0) 17)) rfl dX7_init_248 ?_
  refine z_dup dX7_init_249 rfl ?_
  refine z_bipush (v := 18) dX7_init_250 rfl ?_
  refine z_iconst (v := 0) dX7_init_252 rfl ?_
  refine z_iastx (F := fa_fill t_words (fun _ => 0) 19) (ws' := [(q, .inr (7, [.int 0, .int 8, .int 0, .int 5, .int 1, .int 0, .int 1, .int (-1), .ref a1, .ref a2, .ref a3, .ref a4, .ref a5, .ref a6, .ref a7, .ref a8, .ref a9, .ref a10, .ref a11, .ref a12, .ref a13, .ref a14, .null, .null, .null, .null, .int 0, .int 0, .int 0, .int 0, .int 0, .null, .null, .null, .null, .null, .int 0, .int 0, .int 0, .int 0, .int 0, .int 0, .null, .int 0, .int 0]))] ++ [(a1, .inl (G.2.2.1 0, 8, .inl (fun _ => 0)))] ++ [(a2, .inl (G.2.2.1 0, 7, .inl (fun _ => 0)))] ++ [(a3, .inl (G.2.2.1 0, 7, .inl (fun _ => 0)))] ++ [(a4, .inl (G.2.2.1 0, 7, .inl (fun _ => 0)))] ++ [(a5, .inl (G.2.2.1 0, 7, .inl (fun _ => 0)))] ++ [(a6, .inl (G.2.2.1 0, 7, .inl (fun _ => 0)))] ++ [(a7, .inl (G.2.2.1 0, 7, .inl (fun _ => 0)))] ++ [(a8, .inl (G.2.2.1 0, 7, .inl (fun _ => 0)))] ++ [(a9, .inl (G.2.2.1 0, 8, .inl (fun _ => 0)))] ++ [(a10, .inl (G.2.2.1 0, 8, .inl (fun _ => 0)))] ++ [(a11, .inl (G.2.2.1 0, 8, .inl (fun _ => 0)))] ++ [(a12, .inl (G.2.2.1 0, 8, .inl (fun _ => 0)))] ++ [(a13, .inl (G.2.2.1 1, 1280, .inr (.inl (fun _ => 0))))] ++ [(a14, .inl (G.2.2.1 1, 160, .inr (.inl (fun _ => 0))))] ++ [(a15, .inl (G.2.2.1 0, 36, .inl (fa_fill t_words (fun _ => 0) 19)))]) 15 rfl (vin rfl) ((fa_fill_succ t_words (fun _ => 0) 18)) rfl dX7_init_253 ?_
  refine z_dup dX7_init_254 rfl ?_
  refine z_bipush (v := 19) dX7_init_255 rfl ?_
  refine z_bipush (v := 102) dX7_init_257 rfl ?_
  refine z_iastx (F := fa_fill t_words (fun _ => 0) 20) (ws' := [(q, .inr (7, [.int 0, .int 8, .int 0, .int 5, .int 1, .int 0, .int 1, .int (-1), .ref a1, .ref a2, .ref a3, .ref a4, .ref a5, .ref a6, .ref a7, .ref a8, .ref a9, .ref a10, .ref a11, .ref a12, .ref a13, .ref a14, .null, .null, .null, .null, .int 0, .int 0, .int 0, .int 0, .int 0, .null, .null, .null, .null, .null, .int 0, .int 0, .int 0, .int 0, .int 0, .int 0, .null, .int 0, .int 0]))] ++ [(a1, .inl (G.2.2.1 0, 8, .inl (fun _ => 0)))] ++ [(a2, .inl (G.2.2.1 0, 7, .inl (fun _ => 0)))] ++ [(a3, .inl (G.2.2.1 0, 7, .inl (fun _ => 0)))] ++ [(a4, .inl (G.2.2.1 0, 7, .inl (fun _ => 0)))] ++ [(a5, .inl (G.2.2.1 0, 7, .inl (fun _ => 0)))] ++ [(a6, .inl (G.2.2.1 0, 7, .inl (fun _ => 0)))] ++ [(a7, .inl (G.2.2.1 0, 7, .inl (fun _ => 0)))] ++ [(a8, .inl (G.2.2.1 0, 7, .inl (fun _ => 0)))] ++ [(a9, .inl (G.2.2.1 0, 8, .inl (fun _ => 0)))] ++ [(a10, .inl (G.2.2.1 0, 8, .inl (fun _ => 0)))] ++ [(a11, .inl (G.2.2.1 0, 8, .inl (fun _ => 0)))] ++ [(a12, .inl (G.2.2.1 0, 8, .inl (fun _ => 0)))] ++ [(a13, .inl (G.2.2.1 1, 1280, .inr (.inl (fun _ => 0))))] ++ [(a14, .inl (G.2.2.1 1, 160, .inr (.inl (fun _ => 0))))] ++ [(a15, .inl (G.2.2.1 0, 36, .inl (fa_fill t_words (fun _ => 0) 20)))]) 15 rfl (vin rfl) ((fa_fill_succ t_words (fun _ => 0) 19)) rfl dX7_init_259 ?_
  refine z_dup dX7_init_260 rfl ?_
  refine z_bipush (v := 20) dX7_init_261 rfl ?_
  refine z_bipush (v := 111) dX7_init_263 rfl ?_
  refine z_iastx (F := fa_fill t_words (fun _ => 0) 21) (ws' := [(q, .inr (7, [.int 0, .int 8, .int 0, .int 5, .int 1, .int 0, .int 1, .int (-1), .ref a1, .ref a2, .ref a3, .ref a4, .ref a5, .ref a6, .ref a7, .ref a8, .ref a9, .ref a10, .ref a11, .ref a12, .ref a13, .ref a14, .null, .null, .null, .null, .int 0, .int 0, .int 0, .int 0, .int 0, .null, .null, .null, .null, .null, .int 0, .int 0, .int 0, .int 0, .int 0, .int 0, .null, .int 0, .int 0]))] ++ [(a1, .inl (G.2.2.1 0, 8, .inl (fun _ => 0)))] ++ [(a2, .inl (G.2.2.1 0, 7, .inl (fun _ => 0)))] ++ [(a3, .inl (G.2.2.1 0, 7, .inl (fun _ => 0)))] ++ [(a4, .inl (G.2.2.1 0, 7, .inl (fun _ => 0)))] ++ [(a5, .inl (G.2.2.1 0, 7, .inl (fun _ => 0)))] ++ [(a6, .inl (G.2.2.1 0, 7, .inl (fun _ => 0)))] ++ [(a7, .inl (G.2.2.1 0, 7, .inl (fun _ => 0)))] ++ [(a8, .inl (G.2.2.1 0, 7, .inl (fun _ => 0)))] ++ [(a9, .inl (G.2.2.1 0, 8, .inl (fun _ => 0)))] ++ [(a10, .inl (G.2.2.1 0, 8, .inl (fun _ => 0)))] ++ [(a11, .inl (G.2.2.1 0, 8, .inl (fun _ => 0)))] ++ [(a12, .inl (G.2.2.1 0, 8, .inl (fun _ => 0)))] ++ [(a13, .inl (G.2.2.1 1, 1280, .inr (.inl (fun _ => 0))))] ++ [(a14, .inl (G.2.2.1 1, 160, .inr (.inl (fun _ => 0))))] ++ [(a15, .inl (G.2.2.1 0, 36, .inl (fa_fill t_words (fun _ => 0) 21)))]) 15 rfl (vin rfl) ((fa_fill_succ t_words (fun _ => 0) 20)) rfl dX7_init_265 ?_
  refine z_dup dX7_init_266 rfl ?_
  refine z_bipush (v := 21) dX7_init_267 rfl ?_
  refine z_bipush (v := 103) dX7_init_269 rfl ?_
  refine z_iastx (F := fa_fill t_words (fun _ => 0) 22) (ws' := [(q, .inr (7, [.int 0, .int 8, .int 0, .int 5, .int 1, .int 0, .int 1, .int (-1), .ref a1, .ref a2, .ref a3, .ref a4, .ref a5, .ref a6, .ref a7, .ref a8, .ref a9, .ref a10, .ref a11, .ref a12, .ref a13, .ref a14, .null, .null, .null, .null, .int 0, .int 0, .int 0, .int 0, .int 0, .null, .null, .null, .null, .null, .int 0, .int 0, .int 0, .int 0, .int 0, .int 0, .null, .int 0, .int 0]))] ++ [(a1, .inl (G.2.2.1 0, 8, .inl (fun _ => 0)))] ++ [(a2, .inl (G.2.2.1 0, 7, .inl (fun _ => 0)))] ++ [(a3, .inl (G.2.2.1 0, 7, .inl (fun _ => 0)))] ++ [(a4, .inl (G.2.2.1 0, 7, .inl (fun _ => 0)))] ++ [(a5, .inl (G.2.2.1 0, 7, .inl (fun _ => 0)))] ++ [(a6, .inl (G.2.2.1 0, 7, .inl (fun _ => 0)))] ++ [(a7, .inl (G.2.2.1 0, 7, .inl (fun _ => 0)))] ++ [(a8, .inl (G.2.2.1 0, 7, .inl (fun _ => 0)))] ++ [(a9, .inl (G.2.2.1 0, 8, .inl (fun _ => 0)))] ++ [(a10, .inl (G.2.2.1 0, 8, .inl (fun _ => 0)))] ++ [(a11, .inl (G.2.2.1 0, 8, .inl (fun _ => 0)))] ++ [(a12, .inl (G.2.2.1 0, 8, .inl (fun _ => 0)))] ++ [(a13, .inl (G.2.2.1 1, 1280, .inr (.inl (fun _ => 0))))] ++ [(a14, .inl (G.2.2.1 1, 160, .inr (.inl (fun _ => 0))))] ++ [(a15, .inl (G.2.2.1 0, 36, .inl (fa_fill t_words (fun _ => 0) 22)))]) 15 rfl (vin rfl) ((fa_fill_succ t_words (fun _ => 0) 21)) rfl dX7_init_271 ?_
  refine z_dup dX7_init_272 rfl ?_
  refine z_bipush (v := 22) dX7_init_273 rfl ?_
  refine z_bipush (v := 32) dX7_init_275 rfl ?_
  refine z_iastx (F := fa_fill t_words (fun _ => 0) 23) (ws' := [(q, .inr (7, [.int 0, .int 8, .int 0, .int 5, .int 1, .int 0, .int 1, .int (-1), .ref a1, .ref a2, .ref a3, .ref a4, .ref a5, .ref a6, .ref a7, .ref a8, .ref a9, .ref a10, .ref a11, .ref a12, .ref a13, .ref a14, .null, .null, .null, .null, .int 0, .int 0, .int 0, .int 0, .int 0, .null, .null, .null, .null, .null, .int 0, .int 0, .int 0, .int 0, .int 0, .int 0, .null, .int 0, .int 0]))] ++ [(a1, .inl (G.2.2.1 0, 8, .inl (fun _ => 0)))] ++ [(a2, .inl (G.2.2.1 0, 7, .inl (fun _ => 0)))] ++ [(a3, .inl (G.2.2.1 0, 7, .inl (fun _ => 0)))] ++ [(a4, .inl (G.2.2.1 0, 7, .inl (fun _ => 0)))] ++ [(a5, .inl (G.2.2.1 0, 7, .inl (fun _ => 0)))] ++ [(a6, .inl (G.2.2.1 0, 7, .inl (fun _ => 0)))] ++ [(a7, .inl (G.2.2.1 0, 7, .inl (fun _ => 0)))] ++ [(a8, .inl (G.2.2.1 0, 7, .inl (fun _ => 0)))] ++ [(a9, .inl (G.2.2.1 0, 8, .inl (fun _ => 0)))] ++ [(a10, .inl (G.2.2.1 0, 8, .inl (fun _ => 0)))] ++ [(a11, .inl (G.2.2.1 0, 8, .inl (fun _ => 0)))] ++ [(a12, .inl (G.2.2.1 0, 8, .inl (fun _ => 0)))] ++ [(a13, .inl (G.2.2.1 1, 1280, .inr (.inl (fun _ => 0))))] ++ [(a14, .inl (G.2.2.1 1, 160, .inr (.inl (fun _ => 0))))] ++ [(a15, .inl (G.2.2.1 0, 36, .inl (fa_fill t_words (fun _ => 0) 23)))]) 15 rfl (vin rfl) ((fa_fill_succ t_words (fun _ => 0) 22)) rfl dX7_init_277 ?_
  refine z_dup dX7_init_278 rfl ?_
  refine z_bipush (v := 23) dX7_init_279 rfl ?_
  refine z_iconst (v := 0) dX7_init_281 rfl ?_
  refine z_iastx (F := fa_fill t_words (fun _ => 0) 24) (ws' := [(q, .inr (7, [.int 0, .int 8, .int 0, .int 5, .int 1, .int 0, .int 1, .int (-1), .ref a1, .ref a2, .ref a3, .ref a4, .ref a5, .ref a6, .ref a7, .ref a8, .ref a9, .ref a10, .ref a11, .ref a12, .ref a13, .ref a14, .null, .null, .null, .null, .int 0, .int 0, .int 0, .int 0, .int 0, .null, .null, .null, .null, .null, .int 0, .int 0, .int 0, .int 0, .int 0, .int 0, .null, .int 0, .int 0]))] ++ [(a1, .inl (G.2.2.1 0, 8, .inl (fun _ => 0)))] ++ [(a2, .inl (G.2.2.1 0, 7, .inl (fun _ => 0)))] ++ [(a3, .inl (G.2.2.1 0, 7, .inl (fun _ => 0)))] ++ [(a4, .inl (G.2.2.1 0, 7, .inl (fun _ => 0)))] ++ [(a5, .inl (G.2.2.1 0, 7, .inl (fun _ => 0)))] ++ [(a6, .inl (G.2.2.1 0, 7, .inl (fun _ => 0)))] ++ [(a7, .inl (G.2.2.1 0, 7, .inl (fun _ => 0)))] ++ [(a8, .inl (G.2.2.1 0, 7, .inl (fun _ => 0)))] ++ [(a9, .inl (G.2.2.1 0, 8, .inl (fun _ => 0)))] ++ [(a10, .inl (G.2.2.1 0, 8, .inl (fun _ => 0)))] ++ [(a11, .inl (G.2.2.1 0, 8, .inl (fun _ => 0)))] ++ [(a12, .inl (G.2.2.1 0, 8, .inl (fun _ => 0)))] ++ [(a13, .inl (G.2.2.1 1, 1280, .inr (.inl (fun _ => 0))))] ++ [(a14, .inl (G.2.2.1 1, 160, .inr (.inl (fun _ => 0))))] ++ [(a15, .inl (G.2.2.1 0, 36, .inl (fa_fill t_words (fun _ => 0) 24)))]) 15 rfl (vin rfl) ((fa_fill_succ t_words (fun _ => 0) 23)) rfl dX7_init_282 ?_
  refine z_dup dX7_init_283 rfl ?_
  refine z_bipush (v := 24) dX7_init_284 rfl ?_
  refine z_bipush (v := 116) dX7_init_286 rfl ?_
  refine z_iastx (F := fa_fill t_words (fun _ => 0) 25) (ws' := [(q, .inr (7, [.int 0, .int 8, .int 0, .int 5, .int 1, .int 0, .int 1, .int (-1), .ref a1, .ref a2, .ref a3, .ref a4, .ref a5, .ref a6, .ref a7, .ref a8, .ref a9, .ref a10, .ref a11, .ref a12, .ref a13, .ref a14, .null, .null, .null, .null, .int 0, .int 0, .int 0, .int 0, .int 0, .null, .null, .null, .null, .null, .int 0, .int 0, .int 0, .int 0, .int 0, .int 0, .null, .int 0, .int 0]))] ++ [(a1, .inl (G.2.2.1 0, 8, .inl (fun _ => 0)))] ++ [(a2, .inl (G.2.2.1 0, 7, .inl (fun _ => 0)))] ++ [(a3, .inl (G.2.2.1 0, 7, .inl (fun _ => 0)))] ++ [(a4, .inl (G.2.2.1 0, 7, .inl (fun _ => 0)))] ++ [(a5, .inl (G.2.2.1 0, 7, .inl (fun _ => 0)))] ++ [(a6, .inl (G.2.2.1 0, 7, .inl (fun _ => 0)))] ++ [(a7, .inl (G.2.2.1 0, 7, .inl (fun _ => 0)))] ++ [(a8, .inl (G.2.2.1 0, 7, .inl (fun _ => 0)))] ++ [(a9, .inl (G.2.2.1 0, 8, .inl (fun _ => 0)))] ++ [(a10, .inl (G.2.2.1 0, 8, .inl (fun _ => 0)))] ++ [(a11, .inl (G.2.2.1 0, 8, .inl (fun _ => 0)))] ++ [(a12, .inl (G.2.2.1 0, 8, .inl (fun _ => 0)))] ++ [(a13, .inl (G.2.2.1 1, 1280, .inr (.inl (fun _ => 0))))] ++ [(a14, .inl (G.2.2.1 1, 160, .inr (.inl (fun _ => 0))))] ++ [(a15, .inl (G.2.2.1 0, 36, .inl (fa_fill t_words (fun _ => 0) 25)))]) 15 rfl (vin rfl) ((fa_fill_succ t_words (fun _ => 0) 24)) rfl dX7_init_288 ?_
  refine z_dup dX7_init_289 rfl ?_
  refine z_bipush (v := 25) dX7_init_290 rfl ?_
  refine z_bipush (v := 111) dX7_init_292 rfl ?_
  refine z_iastx (F := fa_fill t_words (fun _ => 0) 26) (ws' := [(q, .inr (7, [.int 0, .int 8, .int 0, .int 5, .int 1, .int 0, .int 1, .int (-1), .ref a1, .ref a2, .ref a3, .ref a4, .ref a5, .ref a6, .ref a7, .ref a8, .ref a9, .ref a10, .ref a11, .ref a12, .ref a13, .ref a14, .null, .null, .null, .null, .int 0, .int 0, .int 0, .int 0, .int 0, .null, .null, .null, .null, .null, .int 0, .int 0, .int 0, .int 0, .int 0, .int 0, .null, .int 0, .int 0]))] ++ [(a1, .inl (G.2.2.1 0, 8, .inl (fun _ => 0)))] ++ [(a2, .inl (G.2.2.1 0, 7, .inl (fun _ => 0)))] ++ [(a3, .inl (G.2.2.1 0, 7, .inl (fun _ => 0)))] ++ [(a4, .inl (G.2.2.1 0, 7, .inl (fun _ => 0)))] ++ [(a5, .inl (G.2.2.1 0, 7, .inl (fun _ => 0)))] ++ [(a6, .inl (G.2.2.1 0, 7, .inl (fun _ => 0)))] ++ [(a7, .inl (G.2.2.1 0, 7, .inl (fun _ => 0)))] ++ [(a8, .inl (G.2.2.1 0, 7, .inl (fun _ => 0)))] ++ [(a9, .inl (G.2.2.1 0, 8, .inl (fun _ => 0)))] ++ [(a10, .inl (G.2.2.1 0, 8, .inl (fun _ => 0)))] ++ [(a11, .inl (G.2.2.1 0, 8, .inl (fun _ => 0)))] ++ [(a12, .inl (G.2.2.1 0, 8, .inl (fun _ => 0)))] ++ [(a13, .inl (G.2.2.1 1, 1280, .inr (.inl (fun _ => 0))))] ++ [(a14, .inl (G.2.2.1 1, 160, .inr (.inl (fun _ => 0))))] ++ [(a15, .inl (G.2.2.1 0, 36, .inl (fa_fill t_words (fun _ => 0) 26)))]) 15 rfl (vin rfl) ((fa_fill_succ t_words (fun _ => 0) 25)) rfl dX7_init_294 ?_
  refine z_dup dX7_init_295 rfl ?_
  refine z_bipush (v := 26) dX7_init_296 rfl ?_
  refine z_bipush (v := 108) dX7_init_298 rfl ?_
  refine z_iastx (F := fa_fill t_words (fun _ => 0) 27) (ws' := [(q, .inr (7, [.int 0, .int 8, .int 0, .int 5, .int 1, .int 0, .int 1, .int (-1), .ref a1, .ref a2, .ref a3, .ref a4, .ref a5, .ref a6, .ref a7, .ref a8, .ref a9, .ref a10, .ref a11, .ref a12, .ref a13, .ref a14, .null, .null, .null, .null, .int 0, .int 0, .int 0, .int 0, .int 0, .null, .null, .null, .null, .null, .int 0, .int 0, .int 0, .int 0, .int 0, .int 0, .null, .int 0, .int 0]))] ++ [(a1, .inl (G.2.2.1 0, 8, .inl (fun _ => 0)))] ++ [(a2, .inl (G.2.2.1 0, 7, .inl (fun _ => 0)))] ++ [(a3, .inl (G.2.2.1 0, 7, .inl (fun _ => 0)))] ++ [(a4, .inl (G.2.2.1 0, 7, .inl (fun _ => 0)))] ++ [(a5, .inl (G.2.2.1 0, 7, .inl (fun _ => 0)))] ++ [(a6, .inl (G.2.2.1 0, 7, .inl (fun _ => 0)))] ++ [(a7, .inl (G.2.2.1 0, 7, .inl (fun _ => 0)))] ++ [(a8, .inl (G.2.2.1 0, 7, .inl (fun _ => 0)))] ++ [(a9, .inl (G.2.2.1 0, 8, .inl (fun _ => 0)))] ++ [(a10, .inl (G.2.2.1 0, 8, .inl (fun _ => 0)))] ++ [(a11, .inl (G.2.2.1 0, 8, .inl (fun _ => 0)))] ++ [(a12, .inl (G.2.2.1 0, 8, .inl (fun _ => 0)))] ++ [(a13, .inl (G.2.2.1 1, 1280, .inr (.inl (fun _ => 0))))] ++ [(a14, .inl (G.2.2.1 1, 160, .inr (.inl (fun _ => 0))))] ++ [(a15, .inl (G.2.2.1 0, 36, .inl (fa_fill t_words (fun _ => 0) 27)))]) 15 rfl (vin rfl) ((fa_fill_succ t_words (fun _ => 0) 26)) rfl dX7_init_300 ?_
  refine z_dup dX7_init_301 rfl ?_
  refine z_bipush (v := 27) dX7_init_302 rfl ?_
  refine z_bipush (v := 108) dX7_init_304 rfl ?_
  refine z_iastx (F := fa_fill t_words (fun _ => 0) 28) (ws' := [(q, .inr (7, [.int 0, .int 8, .int 0, .int 5, .int 1, .int 0, .int 1, .int (-1), .ref a1, .ref a2, .ref a3, .ref a4, .ref a5, .ref a6, .ref a7, .ref a8, .ref a9, .ref a10, .ref a11, .ref a12, .ref a13, .ref a14, .null, .null, .null, .null, .int 0, .int 0, .int 0, .int 0, .int 0, .null, .null, .null, .null, .null, .int 0, .int 0, .int 0, .int 0, .int 0, .int 0, .null, .int 0, .int 0]))] ++ [(a1, .inl (G.2.2.1 0, 8, .inl (fun _ => 0)))] ++ [(a2, .inl (G.2.2.1 0, 7, .inl (fun _ => 0)))] ++ [(a3, .inl (G.2.2.1 0, 7, .inl (fun _ => 0)))] ++ [(a4, .inl (G.2.2.1 0, 7, .inl (fun _ => 0)))] ++ [(a5, .inl (G.2.2.1 0, 7, .inl (fun _ => 0)))] ++ [(a6, .inl (G.2.2.1 0, 7, .inl (fun _ => 0)))] ++ [(a7, .inl (G.2.2.1 0, 7, .inl (fun _ => 0)))] ++ [(a8, .inl (G.2.2.1 0, 7, .inl (fun _ => 0)))] ++ [(a9, .inl (G.2.2.1 0, 8, .inl (fun _ => 0)))] ++ [(a10, .inl (G.2.2.1 0, 8, .inl (fun _ => 0)))] ++ [(a11, .inl (G.2.2.1 0, 8, .inl (fun _ => 0)))] ++ [(a12, .inl (G.2.2.1 0, 8, .inl (fun _ => 0)))] ++ [(a13, .inl (G.2.2.1 1, 1280, .inr (.inl (fun _ => 0))))] ++ [(a14, .inl (G.2.2.1 1, 160, .inr (.inl (fun _ => 0))))] ++ [(a15, .inl (G.2.2.1 0, 36, .inl (fa_fill t_words (fun _ => 0) 28)))]) 15 rfl (vin rfl) ((fa_fill_succ t_words (fun _ => 0) 27)) rfl dX7_init_306 ?_
  refine z_dup dX7_init_307 rfl ?_
  refine z_bipush (v := 28) dX7_init_308 rfl ?_
  refine z_bipush (v := 32) dX7_init_310 rfl ?_
  refine z_iastx (F := fa_fill t_words (fun _ => 0) 29) (ws' := [(q, .inr (7, [.int 0, .int 8, .int 0, .int 5, .int 1, .int 0, .int 1, .int (-1), .ref a1, .ref a2, .ref a3, .ref a4, .ref a5, .ref a6, .ref a7, .ref a8, .ref a9, .ref a10, .ref a11, .ref a12, .ref a13, .ref a14, .null, .null, .null, .null, .int 0, .int 0, .int 0, .int 0, .int 0, .null, .null, .null, .null, .null, .int 0, .int 0, .int 0, .int 0, .int 0, .int 0, .null, .int 0, .int 0]))] ++ [(a1, .inl (G.2.2.1 0, 8, .inl (fun _ => 0)))] ++ [(a2, .inl (G.2.2.1 0, 7, .inl (fun _ => 0)))] ++ [(a3, .inl (G.2.2.1 0, 7, .inl (fun _ => 0)))] ++ [(a4, .inl (G.2.2.1 0, 7, .inl (fun _ => 0)))] ++ [(a5, .inl (G.2.2.1 0, 7, .inl (fun _ => 0)))] ++ [(a6, .inl (G.2.2.1 0, 7, .inl (fun _ => 0)))] ++ [(a7, .inl (G.2.2.1 0, 7, .inl (fun _ => 0)))] ++ [(a8, .inl (G.2.2.1 0, 7, .inl (fun _ => 0)))] ++ [(a9, .inl (G.2.2.1 0, 8, .inl (fun _ => 0)))] ++ [(a10, .inl (G.2.2.1 0, 8, .inl (fun _ => 0)))] ++ [(a11, .inl (G.2.2.1 0, 8, .inl (fun _ => 0)))] ++ [(a12, .inl (G.2.2.1 0, 8, .inl (fun _ => 0)))] ++ [(a13, .inl (G.2.2.1 1, 1280, .inr (.inl (fun _ => 0))))] ++ [(a14, .inl (G.2.2.1 1, 160, .inr (.inl (fun _ => 0))))] ++ [(a15, .inl (G.2.2.1 0, 36, .inl (fa_fill t_words (fun _ => 0) 29)))]) 15 rfl (vin rfl) ((fa_fill_succ t_words (fun _ => 0) 28)) rfl dX7_init_312 ?_
  refine z_dup dX7_init_313 rfl ?_
  refine z_bipush (v := 29) dX7_init_314 rfl ?_
  refine z_iconst (v := 0) dX7_init_316 rfl ?_
  refine z_iastx (F := fa_fill t_words (fun _ => 0) 30) (ws' := [(q, .inr (7, [.int 0, .int 8, .int 0, .int 5, .int 1, .int 0, .int 1, .int (-1), .ref a1, .ref a2, .ref a3, .ref a4, .ref a5, .ref a6, .ref a7, .ref a8, .ref a9, .ref a10, .ref a11, .ref a12, .ref a13, .ref a14, .null, .null, .null, .null, .int 0, .int 0, .int 0, .int 0, .int 0, .null, .null, .null, .null, .null, .int 0, .int 0, .int 0, .int 0, .int 0, .int 0, .null, .int 0, .int 0]))] ++ [(a1, .inl (G.2.2.1 0, 8, .inl (fun _ => 0)))] ++ [(a2, .inl (G.2.2.1 0, 7, .inl (fun _ => 0)))] ++ [(a3, .inl (G.2.2.1 0, 7, .inl (fun _ => 0)))] ++ [(a4, .inl (G.2.2.1 0, 7, .inl (fun _ => 0)))] ++ [(a5, .inl (G.2.2.1 0, 7, .inl (fun _ => 0)))] ++ [(a6, .inl (G.2.2.1 0, 7, .inl (fun _ => 0)))] ++ [(a7, .inl (G.2.2.1 0, 7, .inl (fun _ => 0)))] ++ [(a8, .inl (G.2.2.1 0, 7, .inl (fun _ => 0)))] ++ [(a9, .inl (G.2.2.1 0, 8, .inl (fun _ => 0)))] ++ [(a10, .inl (G.2.2.1 0, 8, .inl (fun _ => 0)))] ++ [(a11, .inl (G.2.2.1 0, 8, .inl (fun _ => 0)))] ++ [(a12, .inl (G.2.2.1 0, 8, .inl (fun _ => 0)))] ++ [(a13, .inl (G.2.2.1 1, 1280, .inr (.inl (fun _ => 0))))] ++ [(a14, .inl (G.2.2.1 1, 160, .inr (.inl (fun _ => 0))))] ++ [(a15, .inl (G.2.2.1 0, 36, .inl (fa_fill t_words (fun _ => 0) 30)))]) 15 rfl (vin rfl) ((fa_fill_succ t_words (fun _ => 0) 29)) rfl dX7_init_317 ?_
  refine z_dup dX7_init_318 rfl ?_
  refine z_bipush (v := 30) dX7_init_319 rfl ?_
  refine z_bipush (v := 112) dX7_init_321 rfl ?_
  refine z_iastx (F := fa_fill t_words (fun _ => 0) 31) (ws' := [(q, .inr (7, [.int 0, .int 8, .int 0, .int 5, .int 1, .int 0, .int 1, .int (-1), .ref a1, .ref a2, .ref a3, .ref a4, .ref a5, .ref a6, .ref a7, .ref a8, .ref a9, .ref a10, .ref a11, .ref a12, .ref a13, .ref a14, .null, .null, .null, .null, .int 0, .int 0, .int 0, .int 0, .int 0, .null, .null, .null, .null, .null, .int 0, .int 0, .int 0, .int 0, .int 0, .int 0, .null, .int 0, .int 0]))] ++ [(a1, .inl (G.2.2.1 0, 8, .inl (fun _ => 0)))] ++ [(a2, .inl (G.2.2.1 0, 7, .inl (fun _ => 0)))] ++ [(a3, .inl (G.2.2.1 0, 7, .inl (fun _ => 0)))] ++ [(a4, .inl (G.2.2.1 0, 7, .inl (fun _ => 0)))] ++ [(a5, .inl (G.2.2.1 0, 7, .inl (fun _ => 0)))] ++ [(a6, .inl (G.2.2.1 0, 7, .inl (fun _ => 0)))] ++ [(a7, .inl (G.2.2.1 0, 7, .inl (fun _ => 0)))] ++ [(a8, .inl (G.2.2.1 0, 7, .inl (fun _ => 0)))] ++ [(a9, .inl (G.2.2.1 0, 8, .inl (fun _ => 0)))] ++ [(a10, .inl (G.2.2.1 0, 8, .inl (fun _ => 0)))] ++ [(a11, .inl (G.2.2.1 0, 8, .inl (fun _ => 0)))] ++ [(a12, .inl (G.2.2.1 0, 8, .inl (fun _ => 0)))] ++ [(a13, .inl (G.2.2.1 1, 1280, .inr (.inl (fun _ => 0))))] ++ [(a14, .inl (G.2.2.1 1, 160, .inr (.inl (fun _ => 0))))] ++ [(a15, .inl (G.2.2.1 0, 36, .inl (fa_fill t_words (fun _ => 0) 31)))]) 15 rfl (vin rfl) ((fa_fill_succ t_words (fun _ => 0) 30)) rfl dX7_init_323 ?_
  refine z_dup dX7_init_324 rfl ?_
  refine z_bipush (v := 31) dX7_init_325 rfl ?_
  refine z_bipush (v := 117) dX7_init_327 rfl ?_
  refine z_iastx (F := fa_fill t_words (fun _ => 0) 32) (ws' := [(q, .inr (7, [.int 0, .int 8, .int 0, .int 5, .int 1, .int 0, .int 1, .int (-1), .ref a1, .ref a2, .ref a3, .ref a4, .ref a5, .ref a6, .ref a7, .ref a8, .ref a9, .ref a10, .ref a11, .ref a12, .ref a13, .ref a14, .null, .null, .null, .null, .int 0, .int 0, .int 0, .int 0, .int 0, .null, .null, .null, .null, .null, .int 0, .int 0, .int 0, .int 0, .int 0, .int 0, .null, .int 0, .int 0]))] ++ [(a1, .inl (G.2.2.1 0, 8, .inl (fun _ => 0)))] ++ [(a2, .inl (G.2.2.1 0, 7, .inl (fun _ => 0)))] ++ [(a3, .inl (G.2.2.1 0, 7, .inl (fun _ => 0)))] ++ [(a4, .inl (G.2.2.1 0, 7, .inl (fun _ => 0)))] ++ [(a5, .inl (G.2.2.1 0, 7, .inl (fun _ => 0)))] ++ [(a6, .inl (G.2.2.1 0, 7, .inl (fun _ => 0)))] ++ [(a7, .inl (G.2.2.1 0, 7, .inl (fun _ => 0)))] ++ [(a8, .inl (G.2.2.1 0, 7, .inl (fun _ => 0)))] ++ [(a9, .inl (G.2.2.1 0, 8, .inl (fun _ => 0)))] ++ [(a10, .inl (G.2.2.1 0, 8, .inl (fun _ => 0)))] ++ [(a11, .inl (G.2.2.1 0, 8, .inl (fun _ => 0)))] ++ [(a12, .inl (G.2.2.1 0, 8, .inl (fun _ => 0)))] ++ [(a13, .inl (G.2.2.1 1, 1280, .inr (.inl (fun _ => 0))))] ++ [(a14, .inl (G.2.2.1 1, 160, .inr (.inl (fun _ => 0))))] ++ [(a15, .inl (G.2.2.1 0, 36, .inl (fa_fill t_words (fun _ => 0) 32)))]) 15 rfl (vin rfl) ((fa_fill_succ t_words (fun _ => 0) 31)) rfl dX7_init_329 ?_
  refine z_dup dX7_init_330 rfl ?_
  refine z_bipush (v := 32) dX7_init_331 rfl ?_
  refine z_bipush (v := 115) dX7_init_333 rfl ?_
  refine z_iastx (F := fa_fill t_words (fun _ => 0) 33) (ws' := [(q, .inr (7, [.int 0, .int 8, .int 0, .int 5, .int 1, .int 0, .int 1, .int (-1), .ref a1, .ref a2, .ref a3, .ref a4, .ref a5, .ref a6, .ref a7, .ref a8, .ref a9, .ref a10, .ref a11, .ref a12, .ref a13, .ref a14, .null, .null, .null, .null, .int 0, .int 0, .int 0, .int 0, .int 0, .null, .null, .null, .null, .null, .int 0, .int 0, .int 0, .int 0, .int 0, .int 0, .null, .int 0, .int 0]))] ++ [(a1, .inl (G.2.2.1 0, 8, .inl (fun _ => 0)))] ++ [(a2, .inl (G.2.2.1 0, 7, .inl (fun _ => 0)))] ++ [(a3, .inl (G.2.2.1 0, 7, .inl (fun _ => 0)))] ++ [(a4, .inl (G.2.2.1 0, 7, .inl (fun _ => 0)))] ++ [(a5, .inl (G.2.2.1 0, 7, .inl (fun _ => 0)))] ++ [(a6, .inl (G.2.2.1 0, 7, .inl (fun _ => 0)))] ++ [(a7, .inl (G.2.2.1 0, 7, .inl (fun _ => 0)))] ++ [(a8, .inl (G.2.2.1 0, 7, .inl (fun _ => 0)))] ++ [(a9, .inl (G.2.2.1 0, 8, .inl (fun _ => 0)))] ++ [(a10, .inl (G.2.2.1 0, 8, .inl (fun _ => 0)))] ++ [(a11, .inl (G.2.2.1 0, 8, .inl (fun _ => 0)))] ++ [(a12, .inl (G.2.2.1 0, 8, .inl (fun _ => 0)))] ++ [(a13, .inl (G.2.2.1 1, 1280, .inr (.inl (fun _ => 0))))] ++ [(a14, .inl (G.2.2.1 1, 160, .inr (.inl (fun _ => 0))))] ++ [(a15, .inl (G.2.2.1 0, 36, .inl (fa_fill t_words (fun _ => 0) 33)))]) 15 rfl (vin rfl) ((fa_fill_succ t_words (fun _ => 0) 32)) rfl dX7_init_335 ?_
  refine z_dup dX7_init_336 rfl ?_
  refine z_bipush (v := 33) dX7_init_337 rfl ?_
  refine z_bipush (v := 104) dX7_init_339 rfl ?_
  refine z_iastx (F := fa_fill t_words (fun _ => 0) 34) (ws' := [(q, .inr (7, [.int 0, .int 8, .int 0, .int 5, .int 1, .int 0, .int 1, .int (-1), .ref a1, .ref a2, .ref a3, .ref a4, .ref a5, .ref a6, .ref a7, .ref a8, .ref a9, .ref a10, .ref a11, .ref a12, .ref a13, .ref a14, .null, .null, .null, .null, .int 0, .int 0, .int 0, .int 0, .int 0, .null, .null, .null, .null, .null, .int 0, .int 0, .int 0, .int 0, .int 0, .int 0, .null, .int 0, .int 0]))] ++ [(a1, .inl (G.2.2.1 0, 8, .inl (fun _ => 0)))] ++ [(a2, .inl (G.2.2.1 0, 7, .inl (fun _ => 0)))] ++ [(a3, .inl (G.2.2.1 0, 7, .inl (fun _ => 0)))] ++ [(a4, .inl (G.2.2.1 0, 7, .inl (fun _ => 0)))] ++ [(a5, .inl (G.2.2.1 0, 7, .inl (fun _ => 0)))] ++ [(a6, .inl (G.2.2.1 0, 7, .inl (fun _ => 0)))] ++ [(a7, .inl (G.2.2.1 0, 7, .inl (fun _ => 0)))] ++ [(a8, .inl (G.2.2.1 0, 7, .inl (fun _ => 0)))] ++ [(a9, .inl (G.2.2.1 0, 8, .inl (fun _ => 0)))] ++ [(a10, .inl (G.2.2.1 0, 8, .inl (fun _ => 0)))] ++ [(a11, .inl (G.2.2.1 0, 8, .inl (fun _ => 0)))] ++ [(a12, .inl (G.2.2.1 0, 8, .inl (fun _ => 0)))] ++ [(a13, .inl (G.2.2.1 1, 1280, .inr (.inl (fun _ => 0))))] ++ [(a14, .inl (G.2.2.1 1, 160, .inr (.inl (fun _ => 0))))] ++ [(a15, .inl (G.2.2.1 0, 36, .inl (fa_fill t_words (fun _ => 0) 34)))]) 15 rfl (vin rfl) ((fa_fill_succ t_words (fun _ => 0) 33)) rfl dX7_init_341 ?_
  refine z_dup dX7_init_342 rfl ?_
  refine z_bipush (v := 34) dX7_init_343 rfl ?_
  refine z_bipush (v := 32) dX7_init_345 rfl ?_
  refine z_iastx (F := fa_fill t_words (fun _ => 0) 35) (ws' := [(q, .inr (7, [.int 0, .int 8, .int 0, .int 5, .int 1, .int 0, .int 1, .int (-1), .ref a1, .ref a2, .ref a3, .ref a4, .ref a5, .ref a6, .ref a7, .ref a8, .ref a9, .ref a10, .ref a11, .ref a12, .ref a13, .ref a14, .null, .null, .null, .null, .int 0, .int 0, .int 0, .int 0, .int 0, .null, .null, .null, .null, .null, .int 0, .int 0, .int 0, .int 0, .int 0, .int 0, .null, .int 0, .int 0]))] ++ [(a1, .inl (G.2.2.1 0, 8, .inl (fun _ => 0)))] ++ [(a2, .inl (G.2.2.1 0, 7, .inl (fun _ => 0)))] ++ [(a3, .inl (G.2.2.1 0, 7, .inl (fun _ => 0)))] ++ [(a4, .inl (G.2.2.1 0, 7, .inl (fun _ => 0)))] ++ [(a5, .inl (G.2.2.1 0, 7, .inl (fun _ => 0)))] ++ [(a6, .inl (G.2.2.1 0, 7, .inl (fun _ => 0)))] ++ [(a7, .inl (G.2.2.1 0, 7, .inl (fun _ => 0)))] ++ [(a8, .inl (G.2.2.1 0, 7, .inl (fun _ => 0)))] ++ [(a9, .inl (G.2.2.1 0, 8, .inl (fun _ => 0)))] ++ [(a10, .inl (G.2.2.1 0, 8, .inl (fun _ => 0)))] ++ [(a11, .inl (G.2.2.1 0, 8, .inl (fun _ => 0)))] ++ [(a12, .inl (G.2.2.1 0, 8, .inl (fun _ => 0)))] ++ [(a13, .inl (G.2.2.1 1, 1280, .inr (.inl (fun _ => 0))))] ++ [(a14, .inl (G.2.2.1 1, 160, .inr (.inl (fun _ => 0))))] ++ [(a15, .inl (G.2.2.1 0, 36, .inl (fa_fill t_words (fun _ => 0) 35)))]) 15 rfl (vin rfl) ((fa_fill_succ t_words (fun _ => 0) 34)) rfl dX7_init_347 ?_
  refine z_dup dX7_init_348 rfl ?_
  refine z_bipush (v := 35) dX7_init_349 rfl ?_
  refine z_iconst (v := 0) dX7_init_351 rfl ?_
  refine z_iastx (F := fa_fill t_words (fun _ => 0) 36) (ws' := [(q, .inr (7, [.int 0, .int 8, .int 0, .int 5, .int 1, .int 0, .int 1, .int (-1), .ref a1, .ref a2, .ref a3, .ref a4, .ref a5, .ref a6, .ref a7, .ref a8, .ref a9, .ref a10, .ref a11, .ref a12, .ref a13, .ref a14, .null, .null, .null, .null, .int 0, .int 0, .int 0, .int 0, .int 0, .null, .null, .null, .null, .null, .int 0, .int 0, .int 0, .int 0, .int 0, .int 0, .null, .int 0, .int 0]))] ++ [(a1, .inl (G.2.2.1 0, 8, .inl (fun _ => 0)))] ++ [(a2, .inl (G.2.2.1 0, 7, .inl (fun _ => 0)))] ++ [(a3, .inl (G.2.2.1 0, 7, .inl (fun _ => 0)))] ++ [(a4, .inl (G.2.2.1 0, 7, .inl (fun _ => 0)))] ++ [(a5, .inl (G.2.2.1 0, 7, .inl (fun _ => 0)))] ++ [(a6, .inl (G.2.2.1 0, 7, .inl (fun _ => 0)))] ++ [(a7, .inl (G.2.2.1 0, 7, .inl (fun _ => 0)))] ++ [(a8, .inl (G.2.2.1 0, 7, .inl (fun _ => 0)))] ++ [(a9, .inl (G.2.2.1 0, 8, .inl (fun _ => 0)))] ++ [(a10, .inl (G.2.2.1 0, 8, .inl (fun _ => 0)))] ++ [(a11, .inl (G.2.2.1 0, 8, .inl (fun _ => 0)))] ++ [(a12, .inl (G.2.2.1 0, 8, .inl (fun _ => 0)))] ++ [(a13, .inl (G.2.2.1 1, 1280, .inr (.inl (fun _ => 0))))] ++ [(a14, .inl (G.2.2.1 1, 160, .inr (.inl (fun _ => 0))))] ++ [(a15, .inl (G.2.2.1 0, 36, .inl (fa_fill t_words (fun _ => 0) 36)))]) 15 rfl (vin rfl) ((fa_fill_succ t_words (fun _ => 0) 35)) rfl dX7_init_352 ?_
  refine z_putF (fs := [.int 0, .int 8, .int 0, .int 5, .int 1, .int 0, .int 1, .int (-1), .ref a1, .ref a2, .ref a3, .ref a4, .ref a5, .ref a6, .ref a7, .ref a8, .ref a9, .ref a10, .ref a11, .ref a12, .ref a13, .ref a14, .null, .null, .null, .null, .int 0, .int 0, .int 0, .int 0, .int 0, .null, .null, .null, .null, .null, .int 0, .int 0, .int 0, .int 0, .int 0, .int 0, .null, .int 0, .int 0]) (v := .ref a15) (ws' := [(q, .inr (7, [.int 0, .int 8, .int 0, .int 5, .int 1, .int 0, .int 1, .int (-1), .ref a1, .ref a2, .ref a3, .ref a4, .ref a5, .ref a6, .ref a7, .ref a8, .ref a9, .ref a10, .ref a11, .ref a12, .ref a13, .ref a14, .ref a15, .null, .null, .null, .int 0, .int 0, .int 0, .int 0, .int 0, .null, .null, .null, .null, .null, .int 0, .int 0, .int 0, .int 0, .int 0, .int 0, .null, .int 0, .int 0]))] ++ [(a1, .inl (G.2.2.1 0, 8, .inl (fun _ => 0)))] ++ [(a2, .inl (G.2.2.1 0, 7, .inl (fun _ => 0)))] ++ [(a3, .inl (G.2.2.1 0, 7, .inl (fun _ => 0)))] ++ [(a4, .inl (G.2.2.1 0, 7, .inl (fun _ => 0)))] ++ [(a5, .inl (G.2.2.1 0, 7, .inl (fun _ => 0)))] ++ [(a6, .inl (G.2.2.1 0, 7, .inl (fun _ => 0)))] ++ [(a7, .inl (G.2.2.1 0, 7, .inl (fun _ => 0)))] ++ [(a8, .inl (G.2.2.1 0, 7, .inl (fun _ => 0)))] ++ [(a9, .inl (G.2.2.1 0, 8, .inl (fun _ => 0)))] ++ [(a10, .inl (G.2.2.1 0, 8, .inl (fun _ => 0)))] ++ [(a11, .inl (G.2.2.1 0, 8, .inl (fun _ => 0)))] ++ [(a12, .inl (G.2.2.1 0, 8, .inl (fun _ => 0)))] ++ [(a13, .inl (G.2.2.1 1, 1280, .inr (.inl (fun _ => 0))))] ++ [(a14, .inl (G.2.2.1 1, 160, .inr (.inl (fun _ => 0))))] ++ [(a15, .inl (G.2.2.1 0, 36, .inl (fa_fill t_words (fun _ => 0) 36)))]) hN 0 rfl rfl uin_X7 tyX7 tyX7_ok nmX7 22 (Nat.le_of_ble_eq_true rfl) tw_f_RX7_69 rfl rfl rfl (ty := (.array .int)) rfl rfl rfl (Nat.le_of_ble_eq_true rfl) rfl dX7_init_353 ?_
  refine z_aload_n dX7_init_356 rfl ?_
  refine z_bipush (v := 6) dX7_init_357 rfl ?_
  refine z_newi (N := 6) hw tw_o_84 (by decide) (by decide) (by decide) (Nat.le_of_ble_eq_true rfl) (Nat.le_of_ble_eq_true rfl) dX7_init_359 (fun a16 => ?_)
  refine z_dup dX7_init_361 rfl ?_
  refine z_iconst (v := 0) dX7_init_362 rfl ?_
  refine z_bipush (v := 6) dX7_init_363 rfl ?_
  refine z_iastx (F := fa_fill t_numbers (fun _ => 0) 1) (ws' := [(q, .inr (7, [.int 0, .int 8, .int 0, .int 5, .int 1, .int 0, .int 1, .int (-1), .ref a1, .ref a2, .ref a3, .ref a4, .ref a5, .ref a6, .ref a7, .ref a8, .ref a9, .ref a10, .ref a11, .ref a12, .ref a13, .ref a14, .ref a15, .null, .null, .null, .int 0, .int 0, .int 0, .int 0, .int 0, .null, .null, .null, .null, .null, .int 0, .int 0, .int 0, .int 0, .int 0, .int 0, .null, .int 0, .int 0]))] ++ [(a1, .inl (G.2.2.1 0, 8, .inl (fun _ => 0)))] ++ [(a2, .inl (G.2.2.1 0, 7, .inl (fun _ => 0)))] ++ [(a3, .inl (G.2.2.1 0, 7, .inl (fun _ => 0)))] ++ [(a4, .inl (G.2.2.1 0, 7, .inl (fun _ => 0)))] ++ [(a5, .inl (G.2.2.1 0, 7, .inl (fun _ => 0)))] ++ [(a6, .inl (G.2.2.1 0, 7, .inl (fun _ => 0)))] ++ [(a7, .inl (G.2.2.1 0, 7, .inl (fun _ => 0)))] ++ [(a8, .inl (G.2.2.1 0, 7, .inl (fun _ => 0)))] ++ [(a9, .inl (G.2.2.1 0, 8, .inl (fun _ => 0)))] ++ [(a10, .inl (G.2.2.1 0, 8, .inl (fun _ => 0)))] ++ [(a11, .inl (G.2.2.1 0, 8, .inl (fun _ => 0)))] ++ [(a12, .inl (G.2.2.1 0, 8, .inl (fun _ => 0)))] ++ [(a13, .inl (G.2.2.1 1, 1280, .inr (.inl (fun _ => 0))))] ++ [(a14, .inl (G.2.2.1 1, 160, .inr (.inl (fun _ => 0))))] ++ [(a15, .inl (G.2.2.1 0, 36, .inl (fa_fill t_words (fun _ => 0) 36)))] ++ [(a16, .inl (G.2.2.1 0, 6, .inl (fa_fill t_numbers (fun _ => 0) 1)))]) 16 rfl (vin rfl) ((congrArg (fun g => upd g 0 (t_numbers 0)) (fa_fill_0 t_numbers (fun _ => 0)).symm).trans (fa_fill_succ t_numbers (fun _ => 0) 0)) rfl dX7_init_365 ?_
  refine z_dup dX7_init_366 rfl ?_
  refine z_iconst (v := 1) dX7_init_367 rfl ?_
  refine z_iconst (v := 2) dX7_init_368 rfl ?_
  refine z_iastx (F := fa_fill t_numbers (fun _ => 0) 2) (ws' := [(q, .inr (7, [.int 0, .int 8, .int 0, .int 5, .int 1, .int 0, .int 1, .int (-1), .ref a1, .ref a2, .ref a3, .ref a4, .ref a5, .ref a6, .ref a7, .ref a8, .ref a9, .ref a10, .ref a11, .ref a12, .ref a13, .ref a14, .ref a15, .null, .null, .null, .int 0, .int 0, .int 0, .int 0, .int 0, .null, .null, .null, .null, .null, .int 0, .int 0, .int 0, .int 0, .int 0, .int 0, .null, .int 0, .int 0]))] ++ [(a1, .inl (G.2.2.1 0, 8, .inl (fun _ => 0)))] ++ [(a2, .inl (G.2.2.1 0, 7, .inl (fun _ => 0)))] ++ [(a3, .inl (G.2.2.1 0, 7, .inl (fun _ => 0)))] ++ [(a4, .inl (G.2.2.1 0, 7, .inl (fun _ => 0)))] ++ [(a5, .inl (G.2.2.1 0, 7, .inl (fun _ => 0)))] ++ [(a6, .inl (G.2.2.1 0, 7, .inl (fun _ => 0)))] ++ [(a7, .inl (G.2.2.1 0, 7, .inl (fun _ => 0)))] ++ [(a8, .inl (G.2.2.1 0, 7, .inl (fun _ => 0)))] ++ [(a9, .inl (G.2.2.1 0, 8, .inl (fun _ => 0)))] ++ [(a10, .inl (G.2.2.1 0, 8, .inl (fun _ => 0)))] ++ [(a11, .inl (G.2.2.1 0, 8, .inl (fun _ => 0)))] ++ [(a12, .inl (G.2.2.1 0, 8, .inl (fun _ => 0)))] ++ [(a13, .inl (G.2.2.1 1, 1280, .inr (.inl (fun _ => 0))))] ++ [(a14, .inl (G.2.2.1 1, 160, .inr (.inl (fun _ => 0))))] ++ [(a15, .inl (G.2.2.1 0, 36, .inl (fa_fill t_words (fun _ => 0) 36)))] ++ [(a16, .inl (G.2.2.1 0, 6, .inl (fa_fill t_numbers (fun _ => 0) 2)))]) 16 rfl (vin rfl) ((fa_fill_succ t_numbers (fun _ => 0) 1)) rfl dX7_init_369 ?_
  refine z_dup dX7_init_370 rfl ?_
  refine z_iconst (v := 2) dX7_init_371 rfl ?_
  refine z_iconst (v := 1) dX7_init_372 rfl ?_
  refine z_iastx (F := fa_fill t_numbers (fun _ => 0) 3) (ws' := [(q, .inr (7, [.int 0, .int 8, .int 0, .int 5, .int 1, .int 0, .int 1, .int (-1), .ref a1, .ref a2, .ref a3, .ref a4, .ref a5, .ref a6, .ref a7, .ref a8, .ref a9, .ref a10, .ref a11, .ref a12, .ref a13, .ref a14, .ref a15, .null, .null, .null, .int 0, .int 0, .int 0, .int 0, .int 0, .null, .null, .null, .null, .null, .int 0, .int 0, .int 0, .int 0, .int 0, .int 0, .null, .int 0, .int 0]))] ++ [(a1, .inl (G.2.2.1 0, 8, .inl (fun _ => 0)))] ++ [(a2, .inl (G.2.2.1 0, 7, .inl (fun _ => 0)))] ++ [(a3, .inl (G.2.2.1 0, 7, .inl (fun _ => 0)))] ++ [(a4, .inl (G.2.2.1 0, 7, .inl (fun _ => 0)))] ++ [(a5, .inl (G.2.2.1 0, 7, .inl (fun _ => 0)))] ++ [(a6, .inl (G.2.2.1 0, 7, .inl (fun _ => 0)))] ++ [(a7, .inl (G.2.2.1 0, 7, .inl (fun _ => 0)))] ++ [(a8, .inl (G.2.2.1 0, 7, .inl (fun _ => 0)))] ++ [(a9, .inl (G.2.2.1 0, 8, .inl (fun _ => 0)))] ++ [(a10, .inl (G.2.2.1 0, 8, .inl (fun _ => 0)))] ++ [(a11, .inl (G.2.2.1 0, 8, .inl (fun _ => 0)))] ++ [(a12, .inl (G.2.2.1 0, 8, .inl (fun _ => 0)))] ++ [(a13, .inl (G.2.2.1 1, 1280, .inr (.inl (fun _ => 0))))] ++ [(a14, .inl (G.2.2.1 1, 160, .inr (.inl (fun _ => 0))))] ++ [(a15, .inl (G.2.2.1 0, 36, .inl (fa_fill t_words (fun _ => 0) 36)))] ++ [(a16, .inl (G.2.2.1 0, 6, .inl (fa_fill t_numbers (fun _ => 0) 3)))]) 16 rfl (vin rfl) ((fa_fill_succ t_numbers (fun _ => 0) 2)) rfl dX7_init_373 ?_
  refine z_dup dX7_init_374 rfl ?_
  refine z_iconst (v := 3) dX7_init_375 rfl ?_
  refine z_iconst (v := 1) dX7_init_376 rfl ?_
  refine z_iastx (F := fa_fill t_numbers (fun _ => 0) 4) (ws' := [(q, .inr (7, [.int 0, .int 8, .int 0, .int 5, .int 1, .int 0, .int 1, .int (-1), .ref a1, .ref a2, .ref a3, .ref a4, .ref a5, .ref a6, .ref a7, .ref a8, .ref a9, .ref a10, .ref a11, .ref a12, .ref a13, .ref a14, .ref a15, .null, .null, .null, .int 0, .int 0, .int 0, .int 0, .int 0, .null, .null, .null, .null, .null, .int 0, .int 0, .int 0, .int 0, .int 0, .int 0, .null, .int 0, .int 0]))] ++ [(a1, .inl (G.2.2.1 0, 8, .inl (fun _ => 0)))] ++ [(a2, .inl (G.2.2.1 0, 7, .inl (fun _ => 0)))] ++ [(a3, .inl (G.2.2.1 0, 7, .inl (fun _ => 0)))] ++ [(a4, .inl (G.2.2.1 0, 7, .inl (fun _ => 0)))] ++ [(a5, .inl (G.2.2.1 0, 7, .inl (fun _ => 0)))] ++ [(a6, .inl (G.2.2.1 0, 7, .inl (fun _ => 0)))] ++ [(a7, .inl (G.2.2.1 0, 7, .inl (fun _ => 0)))] ++ [(a8, .inl (G.2.2.1 0, 7, .inl (fun _ => 0)))] ++ [(a9, .inl (G.2.2.1 0, 8, .inl (fun _ => 0)))] ++ [(a10, .inl (G.2.2.1 0, 8, .inl (fun _ => 0)))] ++ [(a11, .inl (G.2.2.1 0, 8, .inl (fun _ => 0)))] ++ [(a12, .inl (G.2.2.1 0, 8, .inl (fun _ => 0)))] ++ [(a13, .inl (G.2.2.1 1, 1280, .inr (.inl (fun _ => 0))))] ++ [(a14, .inl (G.2.2.1 1, 160, .inr (.inl (fun _ => 0))))] ++ [(a15, .inl (G.2.2.1 0, 36, .inl (fa_fill t_words (fun _ => 0) 36)))] ++ [(a16, .inl (G.2.2.1 0, 6, .inl (fa_fill t_numbers (fun _ => 0) 4)))]) 16 rfl (vin rfl) ((fa_fill_succ t_numbers (fun _ => 0) 3)) rfl dX7_init_377 ?_
  refine z_dup dX7_init_378 rfl ?_
  refine z_iconst (v := 4) dX7_init_379 rfl ?_
  refine z_iconst (v := 1) dX7_init_380 rfl ?_
  refine z_iastx (F := fa_fill t_numbers (fun _ => 0) 5) (ws' := [(q, .inr (7, [.int 0, .int 8, .int 0, .int 5, .int 1, .int 0, .int 1, .int (-1), .ref a1, .ref a2, .ref a3, .ref a4, .ref a5, .ref a6, .ref a7, .ref a8, .ref a9, .ref a10, .ref a11, .ref a12, .ref a13, .ref a14, .ref a15, .null, .null, .null, .int 0, .int 0, .int 0, .int 0, .int 0, .null, .null, .null, .null, .null, .int 0, .int 0, .int 0, .int 0, .int 0, .int 0, .null, .int 0, .int 0]))] ++ [(a1, .inl (G.2.2.1 0, 8, .inl (fun _ => 0)))] ++ [(a2, .inl (G.2.2.1 0, 7, .inl (fun _ => 0)))] ++ [(a3, .inl (G.2.2.1 0, 7, .inl (fun _ => 0)))] ++ [(a4, .inl (G.2.2.1 0, 7, .inl (fun _ => 0)))] ++ [(a5, .inl (G.2.2.1 0, 7, .inl (fun _ => 0)))] ++ [(a6, .inl (G.2.2.1 0, 7, .inl (fun _ => 0)))] ++ [(a7, .inl (G.2.2.1 0, 7, .inl (fun _ => 0)))] ++ [(a8, .inl (G.2.2.1 0, 7, .inl (fun _ => 0)))] ++ [(a9, .inl (G.2.2.1 0, 8, .inl (fun _ => 0)))] ++ [(a10, .inl (G.2.2.1 0, 8, .inl (fun _ => 0)))] ++ [(a11, .inl (G.2.2.1 0, 8, .inl (fun _ => 0)))] ++ [(a12, .inl (G.2.2.1 0, 8, .inl (fun _ => 0)))] ++ [(a13, .inl (G.2.2.1 1, 1280, .inr (.inl (fun _ => 0))))] ++ [(a14, .inl (G.2.2.1 1, 160, .inr (.inl (fun _ => 0))))] ++ [(a15, .inl (G.2.2.1 0, 36, .inl (fa_fill t_words (fun _ => 0) 36)))] ++ [(a16, .inl (G.2.2.1 0, 6, .inl (fa_fill t_numbers (fun _ => 0) 5)))]) 16 rfl (vin rfl) ((fa_fill_succ t_numbers (fun _ => 0) 4)) rfl dX7_init_381 ?_
  refine z_dup dX7_init_382 rfl ?_
  refine z_iconst (v := 5) dX7_init_383 rfl ?_
  refine z_iconst (v := 1) dX7_init_384 rfl ?_
  refine z_iastx (F := fa_fill t_numbers (fun _ => 0) 6) (ws' := [(q, .inr (7, [.int 0, .int 8, .int 0, .int 5, .int 1, .int 0, .int 1, .int (-1), .ref a1, .ref a2, .ref a3, .ref a4, .ref a5, .ref a6, .ref a7, .ref a8, .ref a9, .ref a10, .ref a11, .ref a12, .ref a13, .ref a14, .ref a15, .null, .null, .null, .int 0, .int 0, .int 0, .int 0, .int 0, .null, .null, .null, .null, .null, .int 0, .int 0, .int 0, .int 0, .int 0, .int 0, .null, .int 0, .int 0]))] ++ [(a1, .inl (G.2.2.1 0, 8, .inl (fun _ => 0)))] ++ [(a2, .inl (G.2.2.1 0, 7, .inl (fun _ => 0)))] ++ [(a3, .inl (G.2.2.1 0, 7, .inl (fun _ => 0)))] ++ [(a4, .inl (G.2.2.1 0, 7, .inl (fun _ => 0)))] ++ [(a5, .inl (G.2.2.1 0, 7, .inl (fun _ => 0)))] ++ [(a6, .inl (G.2.2.1 0, 7, .inl (fun _ => 0)))] ++ [(a7, .inl (G.2.2.1 0, 7, .inl (fun _ => 0)))] ++ [(a8, .inl (G.2.2.1 0, 7, .inl (fun _ => 0)))] ++ [(a9, .inl (G.2.2.1 0, 8, .inl (fun _ => 0)))] ++ [(a10, .inl (G.2.2.1 0, 8, .inl (fun _ => 0)))] ++ [(a11, .inl (G.2.2.1 0, 8, .inl (fun _ => 0)))] ++ [(a12, .inl (G.2.2.1 0, 8, .inl (fun _ => 0)))] ++ [(a13, .inl (G.2.2.1 1, 1280, .inr (.inl (fun _ => 0))))] ++ [(a14, .inl (G.2.2.1 1, 160, .inr (.inl (fun _ => 0))))] ++ [(a15, .inl (G.2.2.1 0, 36, .inl (fa_fill t_words (fun _ => 0) 36)))] ++ [(a16, .inl (G.2.2.1 0, 6, .inl (fa_fill t_numbers (fun _ => 0) 6)))]) 16 rfl (vin rfl) ((fa_fill_succ t_numbers (fun _ => 0) 5)) rfl dX7_init_385 ?_
  refine z_putF (fs := [.int 0, .int 8, .int 0, .int 5, .int 1, .int 0, .int 1, .int (-1), .ref a1, .ref a2, .ref a3, .ref a4, .ref a5, .ref a6, .ref a7, .ref a8, .ref a9, .ref a10, .ref a11, .ref a12, .ref a13, .ref a14, .ref a15, .null, .null, .null, .int 0, .int 0, .int 0, .int 0, .int 0, .null, .null, .null, .null, .null, .int 0, .int 0, .int 0, .int 0, .int 0, .int 0, .null, .int 0, .int 0]) (v := .ref a16) (ws' := [(q, .inr (7, [.int 0, .int 8, .int 0, .int 5, .int 1, .int 0, .int 1, .int (-1), .ref a1, .ref a2, .ref a3, .ref a4, .ref a5, .ref a6, .ref a7, .ref a8, .ref a9, .ref a10, .ref a11, .ref a12, .ref a13, .ref a14, .ref a15, .ref a16, .null, .null, .int 0, .int 0, .int 0, .int 0, .int 0, .null, .null, .null, .null, .null, .int 0, .int 0, .int 0, .int 0, .int 0, .int 0, .null, .int 0, .int 0]))] ++ [(a1, .inl (G.2.2.1 0, 8, .inl (fun _ => 0)))] ++ [(a2, .inl (G.2.2.1 0, 7, .inl (fun _ => 0)))] ++ [(a3, .inl (G.2.2.1 0, 7, .inl (fun _ => 0)))] ++ [(a4, .inl (G.2.2.1 0, 7, .inl (fun _ => 0)))] ++ [(a5, .inl (G.2.2.1 0, 7, .inl (fun _ => 0)))] ++ [(a6, .inl (G.2.2.1 0, 7, .inl (fun _ => 0)))] ++ [(a7, .inl (G.2.2.1 0, 7, .inl (fun _ => 0)))] ++ [(a8, .inl (G.2.2.1 0, 7, .inl (fun _ => 0)))] ++ [(a9, .inl (G.2.2.1 0, 8, .inl (fun _ => 0)))] ++ [(a10, .inl (G.2.2.1 0, 8, .inl (fun _ => 0)))] ++ [(a11, .inl (G.2.2.1 0, 8, .inl (fun _ => 0)))] ++ [(a12, .inl (G.2.2.1 0, 8, .inl (fun _ => 0)))] ++ [(a13, .inl (G.2.2.1 1, 1280, .inr (.inl (fun _ => 0))))] ++ [(a14, .inl (G.2.2.1 1, 160, .inr (.inl (fun _ => 0))))] ++ [(a15, .inl (G.2.2.1 0, 36, .inl (fa_fill t_words (fun _ => 0) 36)))] ++ [(a16, .inl (G.2.2.1 0, 6, .inl (fa_fill t_numbers (fun _ => 0) 6)))]) hN 0 rfl rfl uin_X7 tyX7 tyX7_ok nmX7 23 (Nat.le_of_ble_eq_true rfl) tw_f_RX7_72 rfl rfl rfl (ty := (.array .int)) rfl rfl rfl (Nat.le_of_ble_eq_true rfl) rfl dX7_init_386 ?_
  refine z_aload_n dX7_init_389 rfl ?_
  refine z_bipush (v := 6) dX7_init_390 rfl ?_
  refine z_newi (N := 6) hw tw_o_84 (by decide) (by decide) (by decide) (Nat.le_of_ble_eq_true rfl) (Nat.le_of_ble_eq_true rfl) dX7_init_392 (fun a17 => ?_)
  refine z_dup dX7_init_394 rfl ?_
  refine z_iconst (v := 0) dX7_init_395 rfl ?_
  refine z_bipush (v := 6) dX7_init_396 rfl ?_
  refine z_iastx (F := fa_fill t_mosts (fun _ => 0) 1) (ws' := [(q, .inr (7, [.int 0, .int 8, .int 0, .int 5, .int 1, .int 0, .int 1, .int (-1), .ref a1, .ref a2, .ref a3, .ref a4, .ref a5, .ref a6, .ref a7, .ref a8, .ref a9, .ref a10, .ref a11, .ref a12, .ref a13, .ref a14, .ref a15, .ref a16, .null, .null, .int 0, .int 0, .int 0, .int 0, .int 0, .null, .null, .null, .null, .null, .int 0, .int 0, .int 0, .int 0, .int 0, .int 0, .null, .int 0, .int 0]))] ++ [(a1, .inl (G.2.2.1 0, 8, .inl (fun _ => 0)))] ++ [(a2, .inl (G.2.2.1 0, 7, .inl (fun _ => 0)))] ++ [(a3, .inl (G.2.2.1 0, 7, .inl (fun _ => 0)))] ++ [(a4, .inl (G.2.2.1 0, 7, .inl (fun _ => 0)))] ++ [(a5, .inl (G.2.2.1 0, 7, .inl (fun _ => 0)))] ++ [(a6, .inl (G.2.2.1 0, 7, .inl (fun _ => 0)))] ++ [(a7, .inl (G.2.2.1 0, 7, .inl (fun _ => 0)))] ++ [(a8, .inl (G.2.2.1 0, 7, .inl (fun _ => 0)))] ++ [(a9, .inl (G.2.2.1 0, 8, .inl (fun _ => 0)))] ++ [(a10, .inl (G.2.2.1 0, 8, .inl (fun _ => 0)))] ++ [(a11, .inl (G.2.2.1 0, 8, .inl (fun _ => 0)))] ++ [(a12, .inl (G.2.2.1 0, 8, .inl (fun _ => 0)))] ++ [(a13, .inl (G.2.2.1 1, 1280, .inr (.inl (fun _ => 0))))] ++ [(a14, .inl (G.2.2.1 1, 160, .inr (.inl (fun _ => 0))))] ++ [(a15, .inl (G.2.2.1 0, 36, .inl (fa_fill t_words (fun _ => 0) 36)))] ++ [(a16, .inl (G.2.2.1 0, 6, .inl (fa_fill t_numbers (fun _ => 0) 6)))] ++ [(a17, .inl (G.2.2.1 0, 6, .inl (fa_fill t_mosts (fun _ => 0) 1)))]) 17 rfl (vin rfl) ((congrArg (fun g => upd g 0 (t_mosts 0)) (fa_fill_0 t_mosts (fun _ => 0)).symm).trans (fa_fill_succ t_mosts (fun _ => 0) 0)) rfl dX7_init_398 ?_
  refine z_dup dX7_init_399 rfl ?_
  refine z_iconst (v := 1) dX7_init_400 rfl ?_
  refine z_bipush (v := 9) dX7_init_401 rfl ?_
  refine z_iastx (F := fa_fill t_mosts (fun _ => 0) 2) (ws' := [(q, .inr (7, [.int 0, .int 8, .int 0, .int 5, .int 1, .int 0, .int 1, .int (-1), .ref a1, .ref a2, .ref a3, .ref a4, .ref a5, .ref a6, .ref a7, .ref a8, .ref a9, .ref a10, .ref a11, .ref a12, .ref a13, .ref a14, .ref a15, .ref a16, .null, .null, .int 0, .int 0, .int 0, .int 0, .int 0, .null, .null, .null, .null, .null, .int 0, .int 0, .int 0, .int 0, .int 0, .int 0, .null, .int 0, .int 0]))] ++ [(a1, .inl (G.2.2.1 0, 8, .inl (fun _ => 0)))] ++ [(a2, .inl (G.2.2.1 0, 7, .inl (fun _ => 0)))] ++ [(a3, .inl (G.2.2.1 0, 7, .inl (fun _ => 0)))] ++ [(a4, .inl (G.2.2.1 0, 7, .inl (fun _ => 0)))] ++ [(a5, .inl (G.2.2.1 0, 7, .inl (fun _ => 0)))] ++ [(a6, .inl (G.2.2.1 0, 7, .inl (fun _ => 0)))] ++ [(a7, .inl (G.2.2.1 0, 7, .inl (fun _ => 0)))] ++ [(a8, .inl (G.2.2.1 0, 7, .inl (fun _ => 0)))] ++ [(a9, .inl (G.2.2.1 0, 8, .inl (fun _ => 0)))] ++ [(a10, .inl (G.2.2.1 0, 8, .inl (fun _ => 0)))] ++ [(a11, .inl (G.2.2.1 0, 8, .inl (fun _ => 0)))] ++ [(a12, .inl (G.2.2.1 0, 8, .inl (fun _ => 0)))] ++ [(a13, .inl (G.2.2.1 1, 1280, .inr (.inl (fun _ => 0))))] ++ [(a14, .inl (G.2.2.1 1, 160, .inr (.inl (fun _ => 0))))] ++ [(a15, .inl (G.2.2.1 0, 36, .inl (fa_fill t_words (fun _ => 0) 36)))] ++ [(a16, .inl (G.2.2.1 0, 6, .inl (fa_fill t_numbers (fun _ => 0) 6)))] ++ [(a17, .inl (G.2.2.1 0, 6, .inl (fa_fill t_mosts (fun _ => 0) 2)))]) 17 rfl (vin rfl) ((fa_fill_succ t_mosts (fun _ => 0) 1)) rfl dX7_init_403 ?_
  refine z_dup dX7_init_404 rfl ?_
  refine z_iconst (v := 2) dX7_init_405 rfl ?_
  refine z_bipush (v := 30) dX7_init_406 rfl ?_
  refine z_iastx (F := fa_fill t_mosts (fun _ => 0) 3) (ws' := [(q, .inr (7, [.int 0, .int 8, .int 0, .int 5, .int 1, .int 0, .int 1, .int (-1), .ref a1, .ref a2, .ref a3, .ref a4, .ref a5, .ref a6, .ref a7, .ref a8, .ref a9, .ref a10, .ref a11, .ref a12, .ref a13, .ref a14, .ref a15, .ref a16, .null, .null, .int 0, .int 0, .int 0, .int 0, .int 0, .null, .null, .null, .null, .null, .int 0, .int 0, .int 0, .int 0, .int 0, .int 0, .null, .int 0, .int 0]))] ++ [(a1, .inl (G.2.2.1 0, 8, .inl (fun _ => 0)))] ++ [(a2, .inl (G.2.2.1 0, 7, .inl (fun _ => 0)))] ++ [(a3, .inl (G.2.2.1 0, 7, .inl (fun _ => 0)))] ++ [(a4, .inl (G.2.2.1 0, 7, .inl (fun _ => 0)))] ++ [(a5, .inl (G.2.2.1 0, 7, .inl (fun _ => 0)))] ++ [(a6, .inl (G.2.2.1 0, 7, .inl (fun _ => 0)))] ++ [(a7, .inl (G.2.2.1 0, 7, .inl (fun _ => 0)))] ++ [(a8, .inl (G.2.2.1 0, 7, .inl (fun _ => 0)))] ++ [(a9, .inl (G.2.2.1 0, 8, .inl (fun _ => 0)))] ++ [(a10, .inl (G.2.2.1 0, 8, .inl (fun _ => 0)))] ++ [(a11, .inl (G.2.2.1 0, 8, .inl (fun _ => 0)))] ++ [(a12, .inl (G.2.2.1 0, 8, .inl (fun _ => 0)))] ++ [(a13, .inl (G.2.2.1 1, 1280, .inr (.inl (fun _ => 0))))] ++ [(a14, .inl (G.2.2.1 1, 160, .inr (.inl (fun _ => 0))))] ++ [(a15, .inl (G.2.2.1 0, 36, .inl (fa_fill t_words (fun _ => 0) 36)))] ++ [(a16, .inl (G.2.2.1 0, 6, .inl (fa_fill t_numbers (fun _ => 0) 6)))] ++ [(a17, .inl (G.2.2.1 0, 6, .inl (fa_fill t_mosts (fun _ => 0) 3)))]) 17 rfl (vin rfl) ((fa_fill_succ t_mosts (fun _ => 0) 2)) rfl dX7_init_408 ?_
  refine z_dup dX7_init_409 rfl ?_
  refine z_iconst (v := 3) dX7_init_410 rfl ?_
  refine z_bipush (v := 9) dX7_init_411 rfl ?_
  refine z_iastx (F := fa_fill t_mosts (fun _ => 0) 4) (ws' := [(q, .inr (7, [.int 0, .int 8, .int 0, .int 5, .int 1, .int 0, .int 1, .int (-1), .ref a1, .ref a2, .ref a3, .ref a4, .ref a5, .ref a6, .ref a7, .ref a8, .ref a9, .ref a10, .ref a11, .ref a12, .ref a13, .ref a14, .ref a15, .ref a16, .null, .null, .int 0, .int 0, .int 0, .int 0, .int 0, .null, .null, .null, .null, .null, .int 0, .int 0, .int 0, .int 0, .int 0, .int 0, .null, .int 0, .int 0]))] ++ [(a1, .inl (G.2.2.1 0, 8, .inl (fun _ => 0)))] ++ [(a2, .inl (G.2.2.1 0, 7, .inl (fun _ => 0)))] ++ [(a3, .inl (G.2.2.1 0, 7, .inl (fun _ => 0)))] ++ [(a4, .inl (G.2.2.1 0, 7, .inl (fun _ => 0)))] ++ [(a5, .inl (G.2.2.1 0, 7, .inl (fun _ => 0)))] ++ [(a6, .inl (G.2.2.1 0, 7, .inl (fun _ => 0)))] ++ [(a7, .inl (G.2.2.1 0, 7, .inl (fun _ => 0)))] ++ [(a8, .inl (G.2.2.1 0, 7, .inl (fun _ => 0)))] ++ [(a9, .inl (G.2.2.1 0, 8, .inl (fun _ => 0)))] ++ [(a10, .inl (G.2.2.1 0, 8, .inl (fun _ => 0)))] ++ [(a11, .inl (G.2.2.1 0, 8, .inl (fun _ => 0)))] ++ [(a12, .inl (G.2.2.1 0, 8, .inl (fun _ => 0)))] ++ [(a13, .inl (G.2.2.1 1, 1280, .inr (.inl (fun _ => 0))))] ++ [(a14, .inl (G.2.2.1 1, 160, .inr (.inl (fun _ => 0))))] ++ [(a15, .inl (G.2.2.1 0, 36, .inl (fa_fill t_words (fun _ => 0) 36)))] ++ [(a16, .inl (G.2.2.1 0, 6, .inl (fa_fill t_numbers (fun _ => 0) 6)))] ++ [(a17, .inl (G.2.2.1 0, 6, .inl (fa_fill t_mosts (fun _ => 0) 4)))]) 17 rfl (vin rfl) ((fa_fill_succ t_mosts (fun _ => 0) 3)) rfl dX7_init_413 ?_
  refine z_dup dX7_init_414 rfl ?_
  refine z_iconst (v := 4) dX7_init_415 rfl ?_
  refine z_bipush (v := 9) dX7_init_416 rfl ?_
  refine z_iastx (F := fa_fill t_mosts (fun _ => 0) 5) (ws' := [(q, .inr (7, [.int 0, .int 8, .int 0, .int 5, .int 1, .int 0, .int 1, .int (-1), .ref a1, .ref a2, .ref a3, .ref a4, .ref a5, .ref a6, .ref a7, .ref a8, .ref a9, .ref a10, .ref a11, .ref a12, .ref a13, .ref a14, .ref a15, .ref a16, .null, .null, .int 0, .int 0, .int 0, .int 0, .int 0, .null, .null, .null, .null, .null, .int 0, .int 0, .int 0, .int 0, .int 0, .int 0, .null, .int 0, .int 0]))] ++ [(a1, .inl (G.2.2.1 0, 8, .inl (fun _ => 0)))] ++ [(a2, .inl (G.2.2.1 0, 7, .inl (fun _ => 0)))] ++ [(a3, .inl (G.2.2.1 0, 7, .inl (fun _ => 0)))] ++ [(a4, .inl (G.2.2.1 0, 7, .inl (fun _ => 0)))] ++ [(a5, .inl (G.2.2.1 0, 7, .inl (fun _ => 0)))] ++ [(a6, .inl (G.2.2.1 0, 7, .inl (fun _ => 0)))] ++ [(a7, .inl (G.2.2.1 0, 7, .inl (fun _ => 0)))] ++ [(a8, .inl (G.2.2.1 0, 7, .inl (fun _ => 0)))] ++ [(a9, .inl (G.2.2.1 0, 8, .inl (fun _ => 0)))] ++ [(a10, .inl (G.2.2.1 0, 8, .inl (fun _ => 0)))] ++ [(a11, .inl (G.2.2.1 0, 8, .inl (fun _ => 0)))] ++ [(a12, .inl (G.2.2.1 0, 8, .inl (fun _ => 0)))] ++ [(a13, .inl (G.2.2.1 1, 1280, .inr (.inl (fun _ => 0))))] ++ [(a14, .inl (G.2.2.1 1, 160, .inr (.inl (fun _ => 0))))] ++ [(a15, .inl (G.2.2.1 0, 36, .inl (fa_fill t_words (fun _ => 0) 36)))] ++ [(a16, .inl (G.2.2.1 0, 6, .inl (fa_fill t_numbers (fun _ => 0) 6)))] ++ [(a17, .inl (G.2.2.1 0, 6, .inl (fa_fill t_mosts (fun _ => 0) 5)))]) 17 rfl (vin rfl) ((fa_fill_succ t_mosts (fun _ => 0) 4)) rfl dX7_init_418 ?_
  refine z_dup dX7_init_419 rfl ?_
  refine z_iconst (v := 5) dX7_init_420 rfl ?_
  refine z_bipush (v := 99) dX7_init_421 rfl ?_
  refine z_iastx (F := fa_fill t_mosts (fun _ => 0) 6) (ws' := [(q, .inr (7, [.int 0, .int 8, .int 0, .int 5, .int 1, .int 0, .int 1, .int (-1), .ref a1, .ref a2, .ref a3, .ref a4, .ref a5, .ref a6, .ref a7, .ref a8, .ref a9, .ref a10, .ref a11, .ref a12, .ref a13, .ref a14, .ref a15, .ref a16, .null, .null, .int 0, .int 0, .int 0, .int 0, .int 0, .null, .null, .null, .null, .null, .int 0, .int 0, .int 0, .int 0, .int 0, .int 0, .null, .int 0, .int 0]))] ++ [(a1, .inl (G.2.2.1 0, 8, .inl (fun _ => 0)))] ++ [(a2, .inl (G.2.2.1 0, 7, .inl (fun _ => 0)))] ++ [(a3, .inl (G.2.2.1 0, 7, .inl (fun _ => 0)))] ++ [(a4, .inl (G.2.2.1 0, 7, .inl (fun _ => 0)))] ++ [(a5, .inl (G.2.2.1 0, 7, .inl (fun _ => 0)))] ++ [(a6, .inl (G.2.2.1 0, 7, .inl (fun _ => 0)))] ++ [(a7, .inl (G.2.2.1 0, 7, .inl (fun _ => 0)))] ++ [(a8, .inl (G.2.2.1 0, 7, .inl (fun _ => 0)))] ++ [(a9, .inl (G.2.2.1 0, 8, .inl (fun _ => 0)))] ++ [(a10, .inl (G.2.2.1 0, 8, .inl (fun _ => 0)))] ++ [(a11, .inl (G.2.2.1 0, 8, .inl (fun _ => 0)))] ++ [(a12, .inl (G.2.2.1 0, 8, .inl (fun _ => 0)))] ++ [(a13, .inl (G.2.2.1 1, 1280, .inr (.inl (fun _ => 0))))] ++ [(a14, .inl (G.2.2.1 1, 160, .inr (.inl (fun _ => 0))))] ++ [(a15, .inl (G.2.2.1 0, 36, .inl (fa_fill t_words (fun _ => 0) 36)))] ++ [(a16, .inl (G.2.2.1 0, 6, .inl (fa_fill t_numbers (fun _ => 0) 6)))] ++ [(a17, .inl (G.2.2.1 0, 6, .inl (fa_fill t_mosts (fun _ => 0) 6)))]) 17 rfl (vin rfl) ((fa_fill_succ t_mosts (fun _ => 0) 5)) rfl dX7_init_423 ?_
  refine z_putF (fs := [.int 0, .int 8, .int 0, .int 5, .int 1, .int 0, .int 1, .int (-1), .ref a1, .ref a2, .ref a3, .ref a4, .ref a5, .ref a6, .ref a7, .ref a8, .ref a9, .ref a10, .ref a11, .ref a12, .ref a13, .ref a14, .ref a15, .ref a16, .null, .null, .int 0, .int 0, .int 0, .int 0, .int 0, .null, .null, .null, .null, .null, .int 0, .int 0, .int 0, .int 0, .int 0, .int 0, .null, .int 0, .int 0]) (v := .ref a17) (ws' := [(q, .inr (7, [.int 0, .int 8, .int 0, .int 5, .int 1, .int 0, .int 1, .int (-1), .ref a1, .ref a2, .ref a3, .ref a4, .ref a5, .ref a6, .ref a7, .ref a8, .ref a9, .ref a10, .ref a11, .ref a12, .ref a13, .ref a14, .ref a15, .ref a16, .ref a17, .null, .int 0, .int 0, .int 0, .int 0, .int 0, .null, .null, .null, .null, .null, .int 0, .int 0, .int 0, .int 0, .int 0, .int 0, .null, .int 0, .int 0]))] ++ [(a1, .inl (G.2.2.1 0, 8, .inl (fun _ => 0)))] ++ [(a2, .inl (G.2.2.1 0, 7, .inl (fun _ => 0)))] ++ [(a3, .inl (G.2.2.1 0, 7, .inl (fun _ => 0)))] ++ [(a4, .inl (G.2.2.1 0, 7, .inl (fun _ => 0)))] ++ [(a5, .inl (G.2.2.1 0, 7, .inl (fun _ => 0)))] ++ [(a6, .inl (G.2.2.1 0, 7, .inl (fun _ => 0)))] ++ [(a7, .inl (G.2.2.1 0, 7, .inl (fun _ => 0)))] ++ [(a8, .inl (G.2.2.1 0, 7, .inl (fun _ => 0)))] ++ [(a9, .inl (G.2.2.1 0, 8, .inl (fun _ => 0)))] ++ [(a10, .inl (G.2.2.1 0, 8, .inl (fun _ => 0)))] ++ [(a11, .inl (G.2.2.1 0, 8, .inl (fun _ => 0)))] ++ [(a12, .inl (G.2.2.1 0, 8, .inl (fun _ => 0)))] ++ [(a13, .inl (G.2.2.1 1, 1280, .inr (.inl (fun _ => 0))))] ++ [(a14, .inl (G.2.2.1 1, 160, .inr (.inl (fun _ => 0))))] ++ [(a15, .inl (G.2.2.1 0, 36, .inl (fa_fill t_words (fun _ => 0) 36)))] ++ [(a16, .inl (G.2.2.1 0, 6, .inl (fa_fill t_numbers (fun _ => 0) 6)))] ++ [(a17, .inl (G.2.2.1 0, 6, .inl (fa_fill t_mosts (fun _ => 0) 6)))]) hN 0 rfl rfl uin_X7 tyX7 tyX7_ok nmX7 24 (Nat.le_of_ble_eq_true rfl) tw_f_RX7_75 rfl rfl rfl (ty := (.array .int)) rfl rfl rfl (Nat.le_of_ble_eq_true rfl) rfl dX7_init_424 ?_
  refine z_aload_n dX7_init_427 rfl ?_
  refine z_bipush (v := 6) dX7_init_428 rfl ?_
  refine z_newi (N := 6) hw tw_o_84 (by decide) (by decide) (by decide) (Nat.le_of_ble_eq_true rfl) (Nat.le_of_ble_eq_true rfl) dX7_init_430 (fun a18 => ?_)
  refine z_putF (fs := [.int 0, .int 8, .int 0, .int 5, .int 1, .int 0, .int 1, .int (-1), .ref a1, .ref a2, .ref a3, .ref a4, .ref a5, .ref a6, .ref a7, .ref a8, .ref a9, .ref a10, .ref a11, .ref a12, .ref a13, .ref a14, .ref a15, .ref a16, .ref a17, .null, .int 0, .int 0, .int 0, .int 0, .int 0, .null, .null, .null, .null, .null, .int 0, .int 0, .int 0, .int 0, .int 0, .int 0, .null, .int 0, .int 0]) (v := .ref a18) (ws' := [(q, .inr (7, [.int 0, .int 8, .int 0, .int 5, .int 1, .int 0, .int 1, .int (-1), .ref a1, .ref a2, .ref a3, .ref a4, .ref a5, .ref a6, .ref a7, .ref a8, .ref a9, .ref a10, .ref a11, .ref a12, .ref a13, .ref a14, .ref a15, .ref a16, .ref a17, .ref a18, .int 0, .int 0, .int 0, .int 0, .int 0, .null, .null, .null, .null, .null, .int 0, .int 0, .int 0, .int 0, .int 0, .int 0, .null, .int 0, .int 0]))] ++ [(a1, .inl (G.2.2.1 0, 8, .inl (fun _ => 0)))] ++ [(a2, .inl (G.2.2.1 0, 7, .inl (fun _ => 0)))] ++ [(a3, .inl (G.2.2.1 0, 7, .inl (fun _ => 0)))] ++ [(a4, .inl (G.2.2.1 0, 7, .inl (fun _ => 0)))] ++ [(a5, .inl (G.2.2.1 0, 7, .inl (fun _ => 0)))] ++ [(a6, .inl (G.2.2.1 0, 7, .inl (fun _ => 0)))] ++ [(a7, .inl (G.2.2.1 0, 7, .inl (fun _ => 0)))] ++ [(a8, .inl (G.2.2.1 0, 7, .inl (fun _ => 0)))] ++ [(a9, .inl (G.2.2.1 0, 8, .inl (fun _ => 0)))] ++ [(a10, .inl (G.2.2.1 0, 8, .inl (fun _ => 0)))] ++ [(a11, .inl (G.2.2.1 0, 8, .inl (fun _ => 0)))] ++ [(a12, .inl (G.2.2.1 0, 8, .inl (fun _ => 0)))] ++ [(a13, .inl (G.2.2.1 1, 1280, .inr (.inl (fun _ => 0))))] ++ [(a14, .inl (G.2.2.1 1, 160, .inr (.inl (fun _ => 0))))] ++ [(a15, .inl (G.2.2.1 0, 36, .inl (fa_fill t_words (fun _ => 0) 36)))] ++ [(a16, .inl (G.2.2.1 0, 6, .inl (fa_fill t_numbers (fun _ => 0) 6)))] ++ [(a17, .inl (G.2.2.1 0, 6, .inl (fa_fill t_mosts (fun _ => 0) 6)))] ++ [(a18, .inl (G.2.2.1 0, 6, .inl (fun _ => 0)))]) hN 0 rfl rfl uin_X7 tyX7 tyX7_ok nmX7 25 (Nat.le_of_ble_eq_true rfl) tw_f_RX7_78 rfl rfl rfl (ty := (.array .int)) rfl rfl rfl (Nat.le_of_ble_eq_true rfl) rfl dX7_init_432 ?_
  refine z_aload_n dX7_init_435 rfl ?_
  refine z_bipush (v := 60) dX7_init_436 rfl ?_
  refine z_newi (N := 60) hw tw_o_84 (by decide) (by decide) (by decide) (Nat.le_of_ble_eq_true rfl) (Nat.le_of_ble_eq_true rfl) dX7_init_438 (fun a19 => ?_)
  refine z_putF (fs := [.int 0, .int 8, .int 0, .int 5, .int 1, .int 0, .int 1, .int (-1), .ref a1, .ref a2, .ref a3, .ref a4, .ref a5, .ref a6, .ref a7, .ref a8, .ref a9, .ref a10, .ref a11, .ref a12, .ref a13, .ref a14, .ref a15, .ref a16, .ref a17, .ref a18, .int 0, .int 0, .int 0, .int 0, .int 0, .null, .null, .null, .null, .null, .int 0, .int 0, .int 0, .int 0, .int 0, .int 0, .null, .int 0, .int 0]) (v := .ref a19) (ws' := [(q, .inr (7, [.int 0, .int 8, .int 0, .int 5, .int 1, .int 0, .int 1, .int (-1), .ref a1, .ref a2, .ref a3, .ref a4, .ref a5, .ref a6, .ref a7, .ref a8, .ref a9, .ref a10, .ref a11, .ref a12, .ref a13, .ref a14, .ref a15, .ref a16, .ref a17, .ref a18, .int 0, .int 0, .int 0, .int 0, .int 0, .ref a19, .null, .null, .null, .null, .int 0, .int 0, .int 0, .int 0, .int 0, .int 0, .null, .int 0, .int 0]))] ++ [(a1, .inl (G.2.2.1 0, 8, .inl (fun _ => 0)))] ++ [(a2, .inl (G.2.2.1 0, 7, .inl (fun _ => 0)))] ++ [(a3, .inl (G.2.2.1 0, 7, .inl (fun _ => 0)))] ++ [(a4, .inl (G.2.2.1 0, 7, .inl (fun _ => 0)))] ++ [(a5, .inl (G.2.2.1 0, 7, .inl (fun _ => 0)))] ++ [(a6, .inl (G.2.2.1 0, 7, .inl (fun _ => 0)))] ++ [(a7, .inl (G.2.2.1 0, 7, .inl (fun _ => 0)))] ++ [(a8, .inl (G.2.2.1 0, 7, .inl (fun _ => 0)))] ++ [(a9, .inl (G.2.2.1 0, 8, .inl (fun _ => 0)))] ++ [(a10, .inl (G.2.2.1 0, 8, .inl (fun _ => 0)))] ++ [(a11, .inl (G.2.2.1 0, 8, .inl (fun _ => 0)))] ++ [(a12, .inl (G.2.2.1 0, 8, .inl (fun _ => 0)))] ++ [(a13, .inl (G.2.2.1 1, 1280, .inr (.inl (fun _ => 0))))] ++ [(a14, .inl (G.2.2.1 1, 160, .inr (.inl (fun _ => 0))))] ++ [(a15, .inl (G.2.2.1 0, 36, .inl (fa_fill t_words (fun _ => 0) 36)))] ++ [(a16, .inl (G.2.2.1 0, 6, .inl (fa_fill t_numbers (fun _ => 0) 6)))] ++ [(a17, .inl (G.2.2.1 0, 6, .inl (fa_fill t_mosts (fun _ => 0) 6)))] ++ [(a18, .inl (G.2.2.1 0, 6, .inl (fun _ => 0)))] ++ [(a19, .inl (G.2.2.1 0, 60, .inl (fun _ => 0)))]) hN 0 rfl rfl uin_X7 tyX7 tyX7_ok nmX7 31 (Nat.le_of_ble_eq_true rfl) tw_f_RX7_81 rfl rfl rfl (ty := (.array .int)) rfl rfl rfl (Nat.le_of_ble_eq_true rfl) rfl dX7_init_440 ?_
  refine z_aload_n dX7_init_443 rfl ?_
  refine z_bipush (v := 60) dX7_init_444 rfl ?_
  refine z_newi (N := 60) hw tw_o_84 (by decide) (by decide) (by decide) (Nat.le_of_ble_eq_true rfl) (Nat.le_of_ble_eq_true rfl) dX7_init_446 (fun a20 => ?_)
  refine z_putF (fs := [.int 0, .int 8, .int 0, .int 5, .int 1, .int 0, .int 1, .int (-1), .ref a1, .ref a2, .ref a3, .ref a4, .ref a5, .ref a6, .ref a7, .ref a8, .ref a9, .ref a10, .ref a11, .ref a12, .ref a13, .ref a14, .ref a15, .ref a16, .ref a17, .ref a18, .int 0, .int 0, .int 0, .int 0, .int 0, .ref a19, .null, .null, .null, .null, .int 0, .int 0, .int 0, .int 0, .int 0, .int 0, .null, .int 0, .int 0]) (v := .ref a20) (ws' := [(q, .inr (7, [.int 0, .int 8, .int 0, .int 5, .int 1, .int 0, .int 1, .int (-1), .ref a1, .ref a2, .ref a3, .ref a4, .ref a5, .ref a6, .ref a7, .ref a8, .ref a9, .ref a10, .ref a11, .ref a12, .ref a13, .ref a14, .ref a15, .ref a16, .ref a17, .ref a18, .int 0, .int 0, .int 0, .int 0, .int 0, .ref a19, .ref a20, .null, .null, .null, .int 0, .int 0, .int 0, .int 0, .int 0, .int 0, .null, .int 0, .int 0]))] ++ [(a1, .inl (G.2.2.1 0, 8, .inl (fun _ => 0)))] ++ [(a2, .inl (G.2.2.1 0, 7, .inl (fun _ => 0)))] ++ [(a3, .inl (G.2.2.1 0, 7, .inl (fun _ => 0)))] ++ [(a4, .inl (G.2.2.1 0, 7, .inl (fun _ => 0)))] ++ [(a5, .inl (G.2.2.1 0, 7, .inl (fun _ => 0)))] ++ [(a6, .inl (G.2.2.1 0, 7, .inl (fun _ => 0)))] ++ [(a7, .inl (G.2.2.1 0, 7, .inl (fun _ => 0)))] ++ [(a8, .inl (G.2.2.1 0, 7, .inl (fun _ => 0)))] ++ [(a9, .inl (G.2.2.1 0, 8, .inl (fun _ => 0)))] ++ [(a10, .inl (G.2.2.1 0, 8, .inl (fun _ => 0)))] ++ [(a11, .inl (G.2.2.1 0, 8, .inl (fun _ => 0)))] ++ [(a12, .inl (G.2.2.1 0, 8, .inl (fun _ => 0)))] ++ [(a13, .inl (G.2.2.1 1, 1280, .inr (.inl (fun _ => 0))))] ++ [(a14, .inl (G.2.2.1 1, 160, .inr (.inl (fun _ => 0))))] ++ [(a15, .inl (G.2.2.1 0, 36, .inl (fa_fill t_words (fun _ => 0) 36)))] ++ [(a16, .inl (G.2.2.1 0, 6, .inl (fa_fill t_numbers (fun _ => 0) 6)))] ++ [(a17, .inl (G.2.2.1 0, 6, .inl (fa_fill t_mosts (fun _ => 0) 6)))] ++ [(a18, .inl (G.2.2.1 0, 6, .inl (fun _ => 0)))] ++ [(a19, .inl (G.2.2.1 0, 60, .inl (fun _ => 0)))] ++ [(a20, .inl (G.2.2.1 0, 60, .inl (fun _ => 0)))]) hN 0 rfl rfl uin_X7 tyX7 tyX7_ok nmX7 32 (Nat.le_of_ble_eq_true rfl) tw_f_RX7_84 rfl rfl rfl (ty := (.array .int)) rfl rfl rfl (Nat.le_of_ble_eq_true rfl) rfl dX7_init_448 ?_
  refine z_aload_n dX7_init_451 rfl ?_
  refine z_bipush (v := 7) dX7_init_452 rfl ?_
  refine z_newi (N := 7) hw tw_o_84 (by decide) (by decide) (by decide) (Nat.le_of_ble_eq_true rfl) (Nat.le_of_ble_eq_true rfl) dX7_init_454 (fun a21 => ?_)
  refine z_putF (fs := [.int 0, .int 8, .int 0, .int 5, .int 1, .int 0, .int 1, .int (-1), .ref a1, .ref a2, .ref a3, .ref a4, .ref a5, .ref a6, .ref a7, .ref a8, .ref a9, .ref a10, .ref a11, .ref a12, .ref a13, .ref a14, .ref a15, .ref a16, .ref a17, .ref a18, .int 0, .int 0, .int 0, .int 0, .int 0, .ref a19, .ref a20, .null, .null, .null, .int 0, .int 0, .int 0, .int 0, .int 0, .int 0, .null, .int 0, .int 0]) (v := .ref a21) (ws' := [(q, .inr (7, [.int 0, .int 8, .int 0, .int 5, .int 1, .int 0, .int 1, .int (-1), .ref a1, .ref a2, .ref a3, .ref a4, .ref a5, .ref a6, .ref a7, .ref a8, .ref a9, .ref a10, .ref a11, .ref a12, .ref a13, .ref a14, .ref a15, .ref a16, .ref a17, .ref a18, .int 0, .int 0, .int 0, .int 0, .int 0, .ref a19, .ref a20, .ref a21, .null, .null, .int 0, .int 0, .int 0, .int 0, .int 0, .int 0, .null, .int 0, .int 0]))] ++ [(a1, .inl (G.2.2.1 0, 8, .inl (fun _ => 0)))] ++ [(a2, .inl (G.2.2.1 0, 7, .inl (fun _ => 0)))] ++ [(a3, .inl (G.2.2.1 0, 7, .inl (fun _ => 0)))] ++ [(a4, .inl (G.2.2.1 0, 7, .inl (fun _ => 0)))] ++ [(a5, .inl (G.2.2.1 0, 7, .inl (fun _ => 0)))] ++ [(a6, .inl (G.2.2.1 0, 7, .inl (fun _ => 0)))] ++ [(a7, .inl (G.2.2.1 0, 7, .inl (fun _ => 0)))] ++ [(a8, .inl (G.2.2.1 0, 7, .inl (fun _ => 0)))] ++ [(a9, .inl (G.2.2.1 0, 8, .inl (fun _ => 0)))] ++ [(a10, .inl (G.2.2.1 0, 8, .inl (fun _ => 0)))] ++ [(a11, .inl (G.2.2.1 0, 8, .inl (fun _ => 0)))] ++ [(a12, .inl (G.2.2.1 0, 8, .inl (fun _ => 0)))] ++ [(a13, .inl (G.2.2.1 1, 1280, .inr (.inl (fun _ => 0))))] ++ [(a14, .inl (G.2.2.1 1, 160, .inr (.inl (fun _ => 0))))] ++ [(a15, .inl (G.2.2.1 0, 36, .inl (fa_fill t_words (fun _ => 0) 36)))] ++ [(a16, .inl (G.2.2.1 0, 6, .inl (fa_fill t_numbers (fun _ => 0) 6)))] ++ [(a17, .inl (G.2.2.1 0, 6, .inl (fa_fill t_mosts (fun _ => 0) 6)))] ++ [(a18, .inl (G.2.2.1 0, 6, .inl (fun _ => 0)))] ++ [(a19, .inl (G.2.2.1 0, 60, .inl (fun _ => 0)))] ++ [(a20, .inl (G.2.2.1 0, 60, .inl (fun _ => 0)))] ++ [(a21, .inl (G.2.2.1 0, 7, .inl (fun _ => 0)))]) hN 0 rfl rfl uin_X7 tyX7 tyX7_ok nmX7 33 (Nat.le_of_ble_eq_true rfl) tw_f_RX7_87 rfl rfl rfl (ty := (.array .int)) rfl rfl rfl (Nat.le_of_ble_eq_true rfl) rfl dX7_init_456 ?_
  refine z_aload_n dX7_init_459 rfl ?_
  refine z_bipush (v := 7) dX7_init_460 rfl ?_
  refine z_newi (N := 7) hw tw_o_84 (by decide) (by decide) (by decide) (Nat.le_of_ble_eq_true rfl) (Nat.le_of_ble_eq_true rfl) dX7_init_462 (fun a22 => ?_)
  refine z_putF (fs := [.int 0, .int 8, .int 0, .int 5, .int 1, .int 0, .int 1, .int (-1), .ref a1, .ref a2, .ref a3, .ref a4, .ref a5, .ref a6, .ref a7, .ref a8, .ref a9, .ref a10, .ref a11, .ref a12, .ref a13, .ref a14, .ref a15, .ref a16, .ref a17, .ref a18, .int 0, .int 0, .int 0, .int 0, .int 0, .ref a19, .ref a20, .ref a21, .null, .null, .int 0, .int 0, .int 0, .int 0, .int 0, .int 0, .null, .int 0, .int 0]) (v := .ref a22) (ws' := [(q, .inr (7, [.int 0, .int 8, .int 0, .int 5, .int 1, .int 0, .int 1, .int (-1), .ref a1, .ref a2, .ref a3, .ref a4, .ref a5, .ref a6, .ref a7, .ref a8, .ref a9, .ref a10, .ref a11, .ref a12, .ref a13, .ref a14, .ref a15, .ref a16, .ref a17, .ref a18, .int 0, .int 0, .int 0, .int 0, .int 0, .ref a19, .ref a20, .ref a21, .ref a22, .null, .int 0, .int 0, .int 0, .int 0, .int 0, .int 0, .null, .int 0, .int 0]))] ++ [(a1, .inl (G.2.2.1 0, 8, .inl (fun _ => 0)))] ++ [(a2, .inl (G.2.2.1 0, 7, .inl (fun _ => 0)))] ++ [(a3, .inl (G.2.2.1 0, 7, .inl (fun _ => 0)))] ++ [(a4, .inl (G.2.2.1 0, 7, .inl (fun _ => 0)))] ++ [(a5, .inl (G.2.2.1 0, 7, .inl (fun _ => 0)))] ++ [(a6, .inl (G.2.2.1 0, 7, .inl (fun _ => 0)))] ++ [(a7, .inl (G.2.2.1 0, 7, .inl (fun _ => 0)))] ++ [(a8, .inl (G.2.2.1 0, 7, .inl (fun _ => 0)))] ++ [(a9, .inl (G.2.2.1 0, 8, .inl (fun _ => 0)))] ++ [(a10, .inl (G.2.2.1 0, 8, .inl (fun _ => 0)))] ++ [(a11, .inl (G.2.2.1 0, 8, .inl (fun _ => 0)))] ++ [(a12, .inl (G.2.2.1 0, 8, .inl (fun _ => 0)))] ++ [(a13, .inl (G.2.2.1 1, 1280, .inr (.inl (fun _ => 0))))] ++ [(a14, .inl (G.2.2.1 1, 160, .inr (.inl (fun _ => 0))))] ++ [(a15, .inl (G.2.2.1 0, 36, .inl (fa_fill t_words (fun _ => 0) 36)))] ++ [(a16, .inl (G.2.2.1 0, 6, .inl (fa_fill t_numbers (fun _ => 0) 6)))] ++ [(a17, .inl (G.2.2.1 0, 6, .inl (fa_fill t_mosts (fun _ => 0) 6)))] ++ [(a18, .inl (G.2.2.1 0, 6, .inl (fun _ => 0)))] ++ [(a19, .inl (G.2.2.1 0, 60, .inl (fun _ => 0)))] ++ [(a20, .inl (G.2.2.1 0, 60, .inl (fun _ => 0)))] ++ [(a21, .inl (G.2.2.1 0, 7, .inl (fun _ => 0)))] ++ [(a22, .inl (G.2.2.1 0, 7, .inl (fun _ => 0)))]) hN 0 rfl rfl uin_X7 tyX7 tyX7_ok nmX7 34 (Nat.le_of_ble_eq_true rfl) tw_f_RX7_90 rfl rfl rfl (ty := (.array .int)) rfl rfl rfl (Nat.le_of_ble_eq_true rfl) rfl dX7_init_464 ?_
  refine z_aload_n dX7_init_467 rfl ?_
  refine z_bipush (v := 7) dX7_init_468 rfl ?_
  refine z_newi (N := 7) hw tw_o_84 (by decide) (by decide) (by decide) (Nat.le_of_ble_eq_true rfl) (Nat.le_of_ble_eq_true rfl) dX7_init_470 (fun a23 => ?_)
  refine z_putF (fs := [.int 0, .int 8, .int 0, .int 5, .int 1, .int 0, .int 1, .int (-1), .ref a1, .ref a2, .ref a3, .ref a4, .ref a5, .ref a6, .ref a7, .ref a8, .ref a9, .ref a10, .ref a11, .ref a12, .ref a13, .ref a14, .ref a15, .ref a16, .ref a17, .ref a18, .int 0, .int 0, .int 0, .int 0, .int 0, .ref a19, .ref a20, .ref a21, .ref a22, .null, .int 0, .int 0, .int 0, .int 0, .int 0, .int 0, .null, .int 0, .int 0]) (v := .ref a23) (ws' := [(q, .inr (7, [.int 0, .int 8, .int 0, .int 5, .int 1, .int 0, .int 1, .int (-1), .ref a1, .ref a2, .ref a3, .ref a4, .ref a5, .ref a6, .ref a7, .ref a8, .ref a9, .ref a10, .ref a11, .ref a12, .ref a13, .ref a14, .ref a15, .ref a16, .ref a17, .ref a18, .int 0, .int 0, .int 0, .int 0, .int 0, .ref a19, .ref a20, .ref a21, .ref a22, .ref a23, .int 0, .int 0, .int 0, .int 0, .int 0, .int 0, .null, .int 0, .int 0]))] ++ [(a1, .inl (G.2.2.1 0, 8, .inl (fun _ => 0)))] ++ [(a2, .inl (G.2.2.1 0, 7, .inl (fun _ => 0)))] ++ [(a3, .inl (G.2.2.1 0, 7, .inl (fun _ => 0)))] ++ [(a4, .inl (G.2.2.1 0, 7, .inl (fun _ => 0)))] ++ [(a5, .inl (G.2.2.1 0, 7, .inl (fun _ => 0)))] ++ [(a6, .inl (G.2.2.1 0, 7, .inl (fun _ => 0)))] ++ [(a7, .inl (G.2.2.1 0, 7, .inl (fun _ => 0)))] ++ [(a8, .inl (G.2.2.1 0, 7, .inl (fun _ => 0)))] ++ [(a9, .inl (G.2.2.1 0, 8, .inl (fun _ => 0)))] ++ [(a10, .inl (G.2.2.1 0, 8, .inl (fun _ => 0)))] ++ [(a11, .inl (G.2.2.1 0, 8, .inl (fun _ => 0)))] ++ [(a12, .inl (G.2.2.1 0, 8, .inl (fun _ => 0)))] ++ [(a13, .inl (G.2.2.1 1, 1280, .inr (.inl (fun _ => 0))))] ++ [(a14, .inl (G.2.2.1 1, 160, .inr (.inl (fun _ => 0))))] ++ [(a15, .inl (G.2.2.1 0, 36, .inl (fa_fill t_words (fun _ => 0) 36)))] ++ [(a16, .inl (G.2.2.1 0, 6, .inl (fa_fill t_numbers (fun _ => 0) 6)))] ++ [(a17, .inl (G.2.2.1 0, 6, .inl (fa_fill t_mosts (fun _ => 0) 6)))] ++ [(a18, .inl (G.2.2.1 0, 6, .inl (fun _ => 0)))] ++ [(a19, .inl (G.2.2.1 0, 60, .inl (fun _ => 0)))] ++ [(a20, .inl (G.2.2.1 0, 60, .inl (fun _ => 0)))] ++ [(a21, .inl (G.2.2.1 0, 7, .inl (fun _ => 0)))] ++ [(a22, .inl (G.2.2.1 0, 7, .inl (fun _ => 0)))] ++ [(a23, .inl (G.2.2.1 0, 7, .inl (fun _ => 0)))]) hN 0 rfl rfl uin_X7 tyX7 tyX7_ok nmX7 35 (Nat.le_of_ble_eq_true rfl) tw_f_RX7_93 rfl rfl rfl (ty := (.array .int)) rfl rfl rfl (Nat.le_of_ble_eq_true rfl) rfl dX7_init_472 ?_
  refine z_aload_n dX7_init_475 rfl ?_
  refine z_bipush (v := 20) dX7_init_476 rfl ?_
  refine z_newi (N := 20) hw tw_o_84 (by decide) (by decide) (by decide) (Nat.le_of_ble_eq_true rfl) (Nat.le_of_ble_eq_true rfl) dX7_init_478 (fun a24 => ?_)
  refine z_putF (fs := [.int 0, .int 8, .int 0, .int 5, .int 1, .int 0, .int 1, .int (-1), .ref a1, .ref a2, .ref a3, .ref a4, .ref a5, .ref a6, .ref a7, .ref a8, .ref a9, .ref a10, .ref a11, .ref a12, .ref a13, .ref a14, .ref a15, .ref a16, .ref a17, .ref a18, .int 0, .int 0, .int 0, .int 0, .int 0, .ref a19, .ref a20, .ref a21, .ref a22, .ref a23, .int 0, .int 0, .int 0, .int 0, .int 0, .int 0, .null, .int 0, .int 0]) (v := .ref a24) (ws' := [(q, .inr (7, [.int 0, .int 8, .int 0, .int 5, .int 1, .int 0, .int 1, .int (-1), .ref a1, .ref a2, .ref a3, .ref a4, .ref a5, .ref a6, .ref a7, .ref a8, .ref a9, .ref a10, .ref a11, .ref a12, .ref a13, .ref a14, .ref a15, .ref a16, .ref a17, .ref a18, .int 0, .int 0, .int 0, .int 0, .int 0, .ref a19, .ref a20, .ref a21, .ref a22, .ref a23, .int 0, .int 0, .int 0, .int 0, .int 0, .int 0, .ref a24, .int 0, .int 0]))] ++ [(a1, .inl (G.2.2.1 0, 8, .inl (fun _ => 0)))] ++ [(a2, .inl (G.2.2.1 0, 7, .inl (fun _ => 0)))] ++ [(a3, .inl (G.2.2.1 0, 7, .inl (fun _ => 0)))] ++ [(a4, .inl (G.2.2.1 0, 7, .inl (fun _ => 0)))] ++ [(a5, .inl (G.2.2.1 0, 7, .inl (fun _ => 0)))] ++ [(a6, .inl (G.2.2.1 0, 7, .inl (fun _ => 0)))] ++ [(a7, .inl (G.2.2.1 0, 7, .inl (fun _ => 0)))] ++ [(a8, .inl (G.2.2.1 0, 7, .inl (fun _ => 0)))] ++ [(a9, .inl (G.2.2.1 0, 8, .inl (fun _ => 0)))] ++ [(a10, .inl (G.2.2.1 0, 8, .inl (fun _ => 0)))] ++ [(a11, .inl (G.2.2.1 0, 8, .inl (fun _ => 0)))] ++ [(a12, .inl (G.2.2.1 0, 8, .inl (fun _ => 0)))] ++ [(a13, .inl (G.2.2.1 1, 1280, .inr (.inl (fun _ => 0))))] ++ [(a14, .inl (G.2.2.1 1, 160, .inr (.inl (fun _ => 0))))] ++ [(a15, .inl (G.2.2.1 0, 36, .inl (fa_fill t_words (fun _ => 0) 36)))] ++ [(a16, .inl (G.2.2.1 0, 6, .inl (fa_fill t_numbers (fun _ => 0) 6)))] ++ [(a17, .inl (G.2.2.1 0, 6, .inl (fa_fill t_mosts (fun _ => 0) 6)))] ++ [(a18, .inl (G.2.2.1 0, 6, .inl (fun _ => 0)))] ++ [(a19, .inl (G.2.2.1 0, 60, .inl (fun _ => 0)))] ++ [(a20, .inl (G.2.2.1 0, 60, .inl (fun _ => 0)))] ++ [(a21, .inl (G.2.2.1 0, 7, .inl (fun _ => 0)))] ++ [(a22, .inl (G.2.2.1 0, 7, .inl (fun _ => 0)))] ++ [(a23, .inl (G.2.2.1 0, 7, .inl (fun _ => 0)))] ++ [(a24, .inl (G.2.2.1 0, 20, .inl (fun _ => 0)))]) hN 0 rfl rfl uin_X7 tyX7 tyX7_ok nmX7 42 (Nat.le_of_ble_eq_true rfl) tw_f_RX7_96 rfl rfl rfl (ty := (.array .int)) rfl rfl rfl (Nat.le_of_ble_eq_true rfl) rfl dX7_init_480 ?_
  exact z_vret_W hQ rfl rfl rfl ⟨ad [q, 0, 0, 0, 0, 0, 0, 0, a1, a2, a3, a4, a5, a6, a7, a8, a9, a10, a11, a12, a13, a14, a15, a16, a17, a18, 0, 0, 0, 0, 0, a19, a20, a21, a22, a23, 0, 0, 0, 0, 0, 0, a24, 0, 0], rfl, rfl⟩ dX7_init_483
