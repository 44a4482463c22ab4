section ZROWS2
variable {K : zK} {G : zG} {Γ : zT} {I : Heap → List Loc → Prop} {k n : Nat} {lv lv' : List (Nat × Value)} {pc : Nat} {st : List Value}
theorem z_ldcw {index : Nat} {v : Int32} (hc : Cond.constant K.2.2.1 index v ∈ TS) (hdg : decode K.1 pc = .ok (.ldc_w index, 3)) (h : Z K G Γ I k n lv (pc + 3) (.int v :: st)) : Z K G Γ I k n lv pc st := fun C H locs ls hI hl => lv_ldcw C.1 C.2.1 C.2.2.2.1 (C.2.2.2.2.1 _ hc) hdg (h C H locs ls hI hl)
end ZROWS2
