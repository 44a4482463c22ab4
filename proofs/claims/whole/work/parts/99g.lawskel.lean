/-! THE CLAIM OUT OF ONE WALK OF THE LAW'S BODY. Your part is whole_start (and what it stands on); all else here is the same for every law, but numbers. -/
def R_law : String := "TollForHesitatorsLaw"
def lw_P (b : Addr) (xs : List Int32) (args : Array Value) (s : State) : Prop := args = #[.ref b] ∧ s.IntsAt b xs ∧ xs.length ≤ 3584 ∧ (Jvm.Cond.and given_1 narrow_1).before args s = true
def lw_Q (_ : Array Value) (s : State) (o : Outcome) (t : State) : Prop := o = .returned (some (.int 1)) ∧ Framed s o t [] 600000 7302250
def lw_Z (below : List Frame) (a : Array Value) (s : State) : State → Prop := fun t => ∃ o, t.status = .running ∧ Ended t below o ∧ lw_Q a s o t
/-- the law's own end, with 1 on the stack, nothing written that was there before, its room as the claim has it -/
theorem lw_ret {p : Program} {l : Launch} {e : Env} {s : State} {m : MethodId} {below : List Frame} {meth : Method} {c : Code} {b : Nat} (hx : p.tables.exec = Jvm.exec) (hb : c.code = code) (hr : meth.sig.returnType = ret) (hlocks : meth.locks = false) {pc : Nat} {H : Heap} {ls : Array Slot} (hdg : decode code pc = .ok (.ireturn, 1)) : W p l e room_1 s m #[Value.ref b] below meth c H [] 600000 7302250 (lw_Z below #[Value.ref b] s) (F0 m pc ls [.int 1]) := by
  intro T hT X
  obtain ⟨fs, hret, hrun, hended, hW, hframe⟩ := X.leave (v := some (.int 1)) (hlocks := hlocks) (fun h => by rw [hr] at h; cases h)
  have hmeth' : T.vm.method? m = some meth := X.method'
  refine ⟨T.setFrames fs, ?_, .returned (some (.int 1)), hrun, hended, rfl, ⟨_, rfl⟩, hW, hframe⟩
  jvm_step X.here [X.here.top, hx, hb, hdg, hmeth', hr, ret, narrow_b1]
  (try refine ⟨rfl, ?_⟩); (try refine ⟨rfl, ?_⟩)
  first | (intro acts; rw [hret _ acts rfl rfl rfl]) | rw [hret _ _ rfl rfl rfl]
  exact Steps.refl _
/-- what holds at the law's entry: the machine, the code, the tables' words (any of lw_tbl by 'hts w (by decide +kernel)'), the script of L ints xs at the cell b, what the Statement gives of the start (any of its parts by flat_of_before) -/
def lw_At (p : Program) (s : State) (m : MethodId) (meth : Method) (c : Code) (b L : Nat) (xs : Nat → Int32) : Prop :=
  p.tables.exec = Jvm.exec ∧ c.code = code ∧ meth.sig.returnType = ret ∧ c.maxLocals = 4 ∧ s.vm.findClass R_law = some m.cls ∧ (∀ w ∈ lw_tbl, w.before #[Value.ref b] s = true) ∧ va_X b L xs s s.heap ∧ b < s.heap.size ∧ meth.locks = false ∧ (Jvm.Cond.and given_1 narrow_1).before #[Value.ref b] s = true
/-! the law's world: what it made, what is told of what it didn't write, the comers apart -/
def LI (G : zG) (X : zX) (A : Nat → Prop) (h0 : Heap) (ws : va_W) : Heap → List Loc → Prop := fun H locs => wr G A h0 ws H locs ∧ X (va_A ws H.size) H
theorem vaA_mem {ws : va_W} {q : Nat} : (∃ (k : Nat) (e : va_E), ws[k]? = some (q, e)) ↔ ∃ e, (q, e) ∈ ws := by
  constructor
  · rintro ⟨k, e, h⟩
    exact ⟨e, List.mem_of_getElem? h⟩
  · rintro ⟨e, h⟩
    obtain ⟨k, hk⟩ := List.getElem?_of_mem h
    exact ⟨k, e, hk⟩
theorem vaA_sub {w1 ws : va_W} {sz : Nat} (h : ∀ q e, (q, e) ∈ w1 → ∃ e', (q, e') ∈ ws) {q : Nat} (hq : va_A w1 sz q) : va_A ws sz q := by
  rcases hq with hq | hq
  · obtain ⟨e, he⟩ := vaA_mem.mp hq
    exact Or.inl (vaA_mem.mpr (h q e he))
  · exact Or.inr hq
theorem fm_range {α : Type} (l : List α) : (List.range l.length).filterMap (fun i => l[i]?) = l := by
  induction l with
  | nil => rfl
  | cons x l ih =>
    rw [List.length_cons, List.range_succ_eq_map, List.filterMap_cons_some (f := fun i => (x :: l)[i]?) (a := 0) (b := x) rfl, List.filterMap_map]
    refine congrArg (x :: ·) ?_
    exact ih
section LAWKIT
variable {K : zK} {G : zG} {Γ : zT} {X : zX} {k n : Nat} {lv : List (Nat × Value)} {pc : Nat} {st : List Value} {A : Nat → Prop} {h0 : Heap} {ws wc rest : va_W} {a : Nat}
theorem LI_perm (hX : XOK X) {w1 : va_W} (hp : ws.Perm w1) {H : Heap} {locs : List Loc} (h : LI G X A h0 ws H locs) : LI G X A h0 w1 H locs :=
  ⟨wr_perm hp h.1, hX.2 _ _ H (fun _ _ hq => vaA_sub (fun q e he => ⟨e, hp.mem_iff.mpr he⟩) hq) h.2⟩
theorem zL_perm (hX : XOK X) {w1 : va_W} (hp : ws.Perm w1) (h : Z K G Γ (LI G X A h0 w1) k n lv pc st) : Z K G Γ (LI G X A h0 ws) k n lv pc st := z_inv h fun _ _ hi => LI_perm hX hp hi
theorem wc_P {H : Heap} {locs : List Loc} (hi : wr G A h0 (wc ++ rest) H locs) : va_P G.2.1 CL wc H := fun j q hq => hi.1 j q (by
  rw [List.getElem?_append_left (List.getElem?_eq_some_iff.mp hq).1]
  exact hq)
/-- what a call is given -/
theorem LI_pre (hX : XOK X) (hA : ∀ q, h0.size ≤ q → A q) {H : Heap} {locs : List Loc} (hi : LI G X A h0 (wc ++ rest) H locs) : Fw G X wc H.size H ∧ ∀ q, va_A wc H.size q → A q := by
  obtain ⟨hw, hx⟩ := hi
  have hF : ∀ q, va_A wc H.size q → A q := fun q hq => by
    rcases hq with ⟨j, e, hq⟩ | hq
    · refine hw.2.1.2 j (q, e) ?_
      rw [List.getElem?_append_left (List.getElem?_eq_some_iff.mp hq).1]
      exact hq
    · exact hA q (Nat.le_trans hw.2.2.1 hq)
  refine ⟨⟨rfl, wc_P hw, ⟨fun i j p q hp hq e => ?_, fun _ _ _ => trivial⟩, hX.2 _ _ H (fun _ _ hq => vaA_sub (fun q e he => ⟨e, List.mem_append_left _ he⟩) hq) hx⟩, hF⟩
  refine hw.2.1.1 i j p q ?_ ?_ e
  · rw [List.getElem?_append_left (List.getElem?_eq_some_iff.mp hp).1]; exact hp
  · rw [List.getElem?_append_left (List.getElem?_eq_some_iff.mp hq).1]; exact hq
/-- and what stands behind it -/
theorem LI_post (hX : XOK X) {w1 : va_W} {H H1 : Heap} {locs locs1 : List Loc} (hi : LI G X A h0 (wc ++ rest) H locs) (hF : ∀ q, va_A wc H.size q → A q) (hk : ∀ q : Nat, q < H.size → ¬ va_A wc H.size q → H1[q]? = H[q]?) (hP1 : va_P G.2.1 CL w1 H1) (hD1 : va_D (va_A wc H.size) w1) (hS : va_S A h0 H1 locs1) : LI G X A h0 (w1 ++ rest) H1 locs1 := by
  obtain ⟨hw, hx⟩ := hi
  have hsub : ∀ q, va_A wc H.size q → va_A (wc ++ rest) H.size q := fun q hq => vaA_sub (fun q e he => ⟨e, List.mem_append_left _ he⟩) hq
  have hj : wr G A h0 (pick (wc ++ rest) ((List.range rest.length).map (fun i => wc.length + i)) ++ w1) H1 locs1 := by
    refine z_join hw (List.range wc.length) ((List.range rest.length).map (fun i => wc.length + i)) ?_ ?_ ?_ ?_ hF hk hP1 hD1 hS
    · apply List.ext_getElem?
      intro i
      rw [List.getElem?_map, List.getElem?_map]
      by_cases hlt : i < wc.length
      · rw [List.getElem?_range hlt]
        show some ((wc ++ rest)[i]?) = _
        rw [List.getElem?_append_left hlt, List.getElem?_eq_getElem hlt]
        rfl
      · rw [List.getElem?_eq_none (by rw [List.length_range]; omega), List.getElem?_eq_none (by omega)]
        rfl
    · intro i hi
      obtain ⟨j, hj, rfl⟩ := List.mem_map.mp hi
      rw [List.length_append]
      have := List.mem_range.mp hj
      omega
    · exact nd_of (List.Pairwise.map _ (fun a b (hab : a ≠ b) => (fun e => hab (Nat.add_left_cancel e) : wc.length + a ≠ wc.length + b)) List.nodup_range)
    · intro i hi
      obtain ⟨j, hj, rfl⟩ := List.mem_map.mp hi
      rw [List.mem_range]
      omega
  have hpk : pick (wc ++ rest) ((List.range rest.length).map (fun i => wc.length + i)) = rest := by
    unfold pick
    rw [List.filterMap_map]
    have e : ∀ i : Nat, ((fun i => (wc ++ rest)[i]?) ∘ fun i => wc.length + i) i = rest[i]? := fun i => by
      show (wc ++ rest)[wc.length + i]? = _
      rw [List.getElem?_append_right (Nat.le_add_right _ _), Nat.add_sub_cancel_left]
    rw [show ((fun i => (wc ++ rest)[i]?) ∘ fun i => wc.length + i) = fun i => rest[i]? from funext e]
    exact fm_range rest
  rw [hpk] at hj
  refine ⟨wr_perm List.perm_append_comm hj, ?_⟩
  refine hX.2 _ _ H1 (fun q hlt hq => ?_) (hX.1 _ H H1 hx (fun q hlt hq => hk q hlt (fun h => hq (hsub q h))))
  rcases hq with hq | hq
  · obtain ⟨e, he⟩ := vaA_mem.mp hq
    rcases List.mem_append.mp he with h | h
    · obtain ⟨j, hj⟩ := List.getElem?_of_mem h
      exact hsub q (hD1.2 j _ hj)
    · exact Or.inl (vaA_mem.mpr ⟨e, List.mem_append_right _ h⟩)
  · omega
end LAWKIT
